section
-- wx_X10_choirAt
abbrev rm_wx_X10_choirAt : Room := { frames := 0, cells := 0, slots := 0, locals := 0 }
def q_wx_X10_choirAt_0 (ta_counts : Nat → Int32) (x1 : Int32) (post : Nat → Prop) : Prop :=
  (x1 < 0 → (post 0)) ∧ (¬ x1 < 0 → (((ta_counts (Int32.toNatClampNeg (3 : Int32))) ≤ x1 → (post 0)) ∧ (¬ (ta_counts (Int32.toNatClampNeg (3 : Int32))) ≤ x1 → (vp_in x1 2 ∧ (x1 = 0 → (post 2)) ∧ (¬ x1 = 0 → (post 1))))))
set_option maxRecDepth 20000 in
theorem t_wx_X10_choirAt_0 {p : Program} {l : Launch} {e : Env} {s : State} {m : MethodId} {args : Array Value} {below : List Frame} {meth : Method} {c : Code} {E : zE} {qx : Nat} {ta_tape : Nat → Int32} {tf_length : Int32} {tf_fault : Int32} {tf_place : Int32} {ta_counts : Nat → Int32} {tl0f_huts : Int32} {tl0f_singers : Int32} {tl0f_villages : Int32} {tl0f_dams : Int32} {tl0f_echoes : Int32} {tl0f_deep : Int32} {tl0f_slide : Int32} {tl0a_heights : Nat → Int32} {tl0a_ladders : Nat → Int32} {tl0a_minutes : Nat → Int32} {tl0a_echoFrom : Nat → Int32} {tl0a_echoTo : Nat → Int32} {tl0a_homes : Nat → Int32} {tl0a_talls : Nat → Int32} {tl0a_known : Nat → Int32} {tl1f_huts : Int32} {tl1f_singers : Int32} {tl1f_villages : Int32} {tl1f_dams : Int32} {tl1f_echoes : Int32} {tl1f_deep : Int32} {tl1f_slide : Int32} {tl1a_heights : Nat → Int32} {tl1a_ladders : Nat → Int32} {tl1a_minutes : Nat → Int32} {tl1a_echoFrom : Nat → Int32} {tl1a_echoTo : Nat → Int32} {tl1a_homes : Nat → Int32} {tl1a_talls : Nat → Int32} {tl1a_known : Nat → Int32} {tv0f_deeds : Int32} {tv0a_kinds : Nat → Int32} {tv0a_firsts : Nat → Int32} {tv0a_seconds : Nat → Int32} {tv1f_deeds : Int32} {tv1a_kinds : Nat → Int32} {tv1a_firsts : Nat → Int32} {tv1a_seconds : Nat → Int32} {ts0f_facts : Int32} {ts0a_heard : Nat → Int32} {ts0a_huts : Nat → Int32} {ts0a_minutes : Nat → Int32} {ts1f_facts : Int32} {ts1a_heard : Nat → Int32} {ts1a_huts : Nat → Int32} {ts1a_minutes : Nat → Int32} {tc0f_voices : Int32} {tc0f_step : Int32} {tc0a_parts : Nat → Int32} {tc0a_heights : Nat → Int32} {tc1f_voices : Int32} {tc1f_step : Int32} {tc1a_parts : Nat → Int32} {tc1a_heights : Nat → Int32} {m_images : Nat → Option Nat} {rlf_huts : Int32} {rlf_singers : Int32} {rlf_villages : Int32} {rlf_dams : Int32} {rlf_echoes : Int32} {rlf_deep : Int32} {rlf_slide : Int32} {rla_heights : Nat → Int32} {rla_ladders : Nat → Int32} {rla_minutes : Nat → Int32} {rla_echoFrom : Nat → Int32} {rla_echoTo : Nat → Int32} {rla_homes : Nat → Int32} {rla_talls : Nat → Int32} {rla_known : Nat → Int32} {rvf_deeds : Int32} {rva_kinds : Nat → Int32} {rva_firsts : Nat → Int32} {rva_seconds : Nat → Int32} {rsf_facts : Int32} {rsa_heard : Nat → Int32} {rsa_huts : Nat → Int32} {rsa_minutes : Nat → Int32} {rcf_voices : Int32} {rcf_step : Int32} {rca_parts : Nat → Int32} {rca_heights : Nat → Int32} {rf_fault : Int32} {rf_faultPlace : Int32} {ra_numbers : Nat → Int32} {ra_tape : Nat → Int32} {rf_length : Int32} {rf_behind : Int32} {rf_kind : Int32} {rf_first : Int32} {rf_value : Int32} {rf_hutsToldOf : Int32} {rf_singersToldOf : Int32} {nf_minute : Int32} {nf_avalanches : Int32} {nf_begun : Int32} {nf_climbed : Int32} {nf_seed : Int32} {na_huts : Nat → Int32} {na_known : Nat → Int32} {na_levels : Nat → Int32} {na_snow : Nat → Int32} {na_open : Nat → Int32} {pa_heard : Nat → Int32} {pa_walked : Nat → Int32} {pa_total : Nat → Int32} {pa_longest : Nat → Int32} {pa_next : Nat → Int32} {pa_cover : Nat → Int32} {pa_now : Nat → Int32} {pa_then : Nat → Int32} {ko_stands : Option Nat} {ka_gaps : Nat → Int32} {ka_behind : Nat → Int32} {ba_less : Nat → Int32} {ba_full : Nat → Int32} {post : Nat → Prop} {x1 : Int32} {ls : Array Slot}
    (zc : zC p s m args meth c cX10_choirAt 2 RX10 (some (.object "DownhillSong$Choir")))
    (hK : zK E s)
    (hM : wxW E qx ta_tape tf_length tf_fault tf_place ta_counts tl0f_huts tl0f_singers tl0f_villages tl0f_dams tl0f_echoes tl0f_deep tl0f_slide tl0a_heights tl0a_ladders tl0a_minutes tl0a_echoFrom tl0a_echoTo tl0a_homes tl0a_talls tl0a_known tl1f_huts tl1f_singers tl1f_villages tl1f_dams tl1f_echoes tl1f_deep tl1f_slide tl1a_heights tl1a_ladders tl1a_minutes tl1a_echoFrom tl1a_echoTo tl1a_homes tl1a_talls tl1a_known tv0f_deeds tv0a_kinds tv0a_firsts tv0a_seconds tv1f_deeds tv1a_kinds tv1a_firsts tv1a_seconds ts0f_facts ts0a_heard ts0a_huts ts0a_minutes ts1f_facts ts1a_heard ts1a_huts ts1a_minutes tc0f_voices tc0f_step tc0a_parts tc0a_heights tc1f_voices tc1f_step tc1a_parts tc1a_heights m_images rlf_huts rlf_singers rlf_villages rlf_dams rlf_echoes rlf_deep rlf_slide rla_heights rla_ladders rla_minutes rla_echoFrom rla_echoTo rla_homes rla_talls rla_known rvf_deeds rva_kinds rva_firsts rva_seconds rsf_facts rsa_heard rsa_huts rsa_minutes rcf_voices rcf_step rca_parts rca_heights rf_fault rf_faultPlace ra_numbers ra_tape rf_length rf_behind rf_kind rf_first rf_value rf_hutsToldOf rf_singersToldOf nf_minute nf_avalanches nf_begun nf_climbed nf_seed na_huts na_known na_levels na_snow na_open pa_heard pa_walked pa_total pa_longest pa_next pa_cover pa_now pa_then ko_stands ka_gaps ka_behind ba_less ba_full s.heap)
    (hl : lv_has ls 2 [(0, .ref qx), (1, .int x1)])
    (hw : q_wx_X10_choirAt_0 ta_counts x1 post) :
    W p l e rm_wx_X10_choirAt s m args below meth c s.heap [] 0 0 (MQ below (va_Sr post (fun k => if k = 0 then Value.null else if k = 1 then Value.ref (qx + 45) else Value.ref (qx + 42))) args s 0 0 (fun _ => False)) (F0 m 0 ls []) := by
  have hx := zc.1
  have hb := zc.2.1
  refine lv_iload_n hx hb dX10_choirAt_0 rfl (lv_at hl 1 rfl) ?_
  refine lv_if_lt (tgt := 29) hx hb dX10_choirAt_1 (by decide) (fun hc => ?_) (fun hc => ?_)
  · have hw := hw.1 hc
    refine lv_null hx hb dX10_choirAt_29 ?_
    exact zret_r (k := 0) zc (Or.inl rfl) hw dX10_choirAt_30
  · have hw := hw.2 hc
    refine lv_iload_n hx hb dX10_choirAt_4 rfl (lv_at hl 1 rfl) ?_
    refine lv_aload_n hx hb dX10_choirAt_5 rfl (lv_at hl 0 rfl) ?_
    refine wxg_10_10_0 zc hK hM dX10_choirAt_6 ?_
    refine wxg_10_320_1 zc hK hM dX10_choirAt_9 ?_
    refine lv_iconst (v := (3 : Int32)) hx hb dX10_choirAt_12 (by decide) ?_
    refine wxld_3 zc hK hM (by unfold vp_in; decide) dX10_choirAt_13 ?_
    refine lv_icmp_ge (tgt := 29) hx hb dX10_choirAt_14 (by decide) (fun hc => ?_) (fun hc => ?_)
    · have hw := hw.1 hc
      refine lv_null hx hb dX10_choirAt_29 ?_
      exact zret_r (k := 0) zc (Or.inl rfl) hw dX10_choirAt_30
    · have hw := hw.2 hc
      refine lv_aload_n hx hb dX10_choirAt_17 rfl (lv_at hl 0 rfl) ?_
      refine wxg_10_10_0 zc hK hM dX10_choirAt_18 ?_
      refine wxg_10_355_1 zc hK hM dX10_choirAt_21 ?_
      refine lv_iload_n hx hb dX10_choirAt_24 rfl (lv_at hl 1 rfl) ?_
      have hin := hw.1
      by_cases hc : x1 = 0
      · have hw9 := hw.2.1 hc
        have hM9 := hM
        subst hc
        have hw := hw9
        have hM := hM9
        refine va_aldq hx hb hK.1 hM 41 7 rfl rfl hin dX10_choirAt_25 ?_
        refine W.eq (g2 := F0 m 26 ls (.ref (qx + 42) :: [])) rfl ?_
        refine lv_goto (tgt := 30) hx hb dX10_choirAt_26 (by decide) ?_
        exact zret_r (k := 2) zc (Or.inr ⟨_, rfl⟩) hw dX10_choirAt_30
      · have hw9 := hw.2.2 hc
        have hc := zin2 hin hc
        have hM9 := hM
        subst hc
        have hw := hw9
        have hM := hM9
        refine va_aldq hx hb hK.1 hM 41 7 rfl rfl hin dX10_choirAt_25 ?_
        refine W.eq (g2 := F0 m 26 ls (.ref (qx + 45) :: [])) rfl ?_
        refine lv_goto (tgt := 30) hx hb dX10_choirAt_26 (by decide) ?_
        exact zret_r (k := 1) zc (Or.inr ⟨_, rfl⟩) hw dX10_choirAt_30
set_option maxRecDepth 20000 in
theorem c_wx_X10_choirAt (l : Launch) {E : zE} {qx : Nat} {ta_tape : Nat → Int32} {tf_length : Int32} {tf_fault : Int32} {tf_place : Int32} {ta_counts : Nat → Int32} {tl0f_huts : Int32} {tl0f_singers : Int32} {tl0f_villages : Int32} {tl0f_dams : Int32} {tl0f_echoes : Int32} {tl0f_deep : Int32} {tl0f_slide : Int32} {tl0a_heights : Nat → Int32} {tl0a_ladders : Nat → Int32} {tl0a_minutes : Nat → Int32} {tl0a_echoFrom : Nat → Int32} {tl0a_echoTo : Nat → Int32} {tl0a_homes : Nat → Int32} {tl0a_talls : Nat → Int32} {tl0a_known : Nat → Int32} {tl1f_huts : Int32} {tl1f_singers : Int32} {tl1f_villages : Int32} {tl1f_dams : Int32} {tl1f_echoes : Int32} {tl1f_deep : Int32} {tl1f_slide : Int32} {tl1a_heights : Nat → Int32} {tl1a_ladders : Nat → Int32} {tl1a_minutes : Nat → Int32} {tl1a_echoFrom : Nat → Int32} {tl1a_echoTo : Nat → Int32} {tl1a_homes : Nat → Int32} {tl1a_talls : Nat → Int32} {tl1a_known : Nat → Int32} {tv0f_deeds : Int32} {tv0a_kinds : Nat → Int32} {tv0a_firsts : Nat → Int32} {tv0a_seconds : Nat → Int32} {tv1f_deeds : Int32} {tv1a_kinds : Nat → Int32} {tv1a_firsts : Nat → Int32} {tv1a_seconds : Nat → Int32} {ts0f_facts : Int32} {ts0a_heard : Nat → Int32} {ts0a_huts : Nat → Int32} {ts0a_minutes : Nat → Int32} {ts1f_facts : Int32} {ts1a_heard : Nat → Int32} {ts1a_huts : Nat → Int32} {ts1a_minutes : Nat → Int32} {tc0f_voices : Int32} {tc0f_step : Int32} {tc0a_parts : Nat → Int32} {tc0a_heights : Nat → Int32} {tc1f_voices : Int32} {tc1f_step : Int32} {tc1a_parts : Nat → Int32} {tc1a_heights : Nat → Int32} {m_images : Nat → Option Nat} {rlf_huts : Int32} {rlf_singers : Int32} {rlf_villages : Int32} {rlf_dams : Int32} {rlf_echoes : Int32} {rlf_deep : Int32} {rlf_slide : Int32} {rla_heights : Nat → Int32} {rla_ladders : Nat → Int32} {rla_minutes : Nat → Int32} {rla_echoFrom : Nat → Int32} {rla_echoTo : Nat → Int32} {rla_homes : Nat → Int32} {rla_talls : Nat → Int32} {rla_known : Nat → Int32} {rvf_deeds : Int32} {rva_kinds : Nat → Int32} {rva_firsts : Nat → Int32} {rva_seconds : Nat → Int32} {rsf_facts : Int32} {rsa_heard : Nat → Int32} {rsa_huts : Nat → Int32} {rsa_minutes : Nat → Int32} {rcf_voices : Int32} {rcf_step : Int32} {rca_parts : Nat → Int32} {rca_heights : Nat → Int32} {rf_fault : Int32} {rf_faultPlace : Int32} {ra_numbers : Nat → Int32} {ra_tape : Nat → Int32} {rf_length : Int32} {rf_behind : Int32} {rf_kind : Int32} {rf_first : Int32} {rf_value : Int32} {rf_hutsToldOf : Int32} {rf_singersToldOf : Int32} {nf_minute : Int32} {nf_avalanches : Int32} {nf_begun : Int32} {nf_climbed : Int32} {nf_seed : Int32} {na_huts : Nat → Int32} {na_known : Nat → Int32} {na_levels : Nat → Int32} {na_snow : Nat → Int32} {na_open : Nat → Int32} {pa_heard : Nat → Int32} {pa_walked : Nat → Int32} {pa_total : Nat → Int32} {pa_longest : Nat → Int32} {pa_next : Nat → Int32} {pa_cover : Nat → Int32} {pa_now : Nat → Int32} {pa_then : Nat → Int32} {ko_stands : Option Nat} {ka_gaps : Nat → Int32} {ka_behind : Nat → Int32} {ba_less : Nat → Int32} {ba_full : Nat → Int32} {x1 : Int32} {post : Nat → Prop} (hw : q_wx_X10_choirAt_0 ta_counts x1 post) : Met l yX10_choirAt (Cond.code yX10_choirAt cX10_choirAt 2 (some (.object "DownhillSong$Choir")) :: zb) rm_wx_X10_choirAt (va_Pc [.ref qx, .int x1] (fun U => wxW E qx ta_tape tf_length tf_fault tf_place ta_counts tl0f_huts tl0f_singers tl0f_villages tl0f_dams tl0f_echoes tl0f_deep tl0f_slide tl0a_heights tl0a_ladders tl0a_minutes tl0a_echoFrom tl0a_echoTo tl0a_homes tl0a_talls tl0a_known tl1f_huts tl1f_singers tl1f_villages tl1f_dams tl1f_echoes tl1f_deep tl1f_slide tl1a_heights tl1a_ladders tl1a_minutes tl1a_echoFrom tl1a_echoTo tl1a_homes tl1a_talls tl1a_known tv0f_deeds tv0a_kinds tv0a_firsts tv0a_seconds tv1f_deeds tv1a_kinds tv1a_firsts tv1a_seconds ts0f_facts ts0a_heard ts0a_huts ts0a_minutes ts1f_facts ts1a_heard ts1a_huts ts1a_minutes tc0f_voices tc0f_step tc0a_parts tc0a_heights tc1f_voices tc1f_step tc1a_parts tc1a_heights m_images rlf_huts rlf_singers rlf_villages rlf_dams rlf_echoes rlf_deep rlf_slide rla_heights rla_ladders rla_minutes rla_echoFrom rla_echoTo rla_homes rla_talls rla_known rvf_deeds rva_kinds rva_firsts rva_seconds rsf_facts rsa_heard rsa_huts rsa_minutes rcf_voices rcf_step rca_parts rca_heights rf_fault rf_faultPlace ra_numbers ra_tape rf_length rf_behind rf_kind rf_first rf_value rf_hutsToldOf rf_singersToldOf nf_minute nf_avalanches nf_begun nf_climbed nf_seed na_huts na_known na_levels na_snow na_open pa_heard pa_walked pa_total pa_longest pa_next pa_cover pa_now pa_then ko_stands ka_gaps ka_behind ba_less ba_full U.heap ∧ zK E U)) (va_Sr post (fun k => if k = 0 then Value.null else if k = 1 then Value.ref (qx + 45) else Value.ref (qx + 42))) 0 0 (fun _ => False) := by
  refine Met.ofW (cc := cX10_choirAt) (maxL := 2) (ret := (some (.object "DownhillSong$Choir"))) (by decide) rfl ?_
  intro p e s m args below meth c s₁ B hml hv
  obtain ⟨rfl, hM, hK⟩ := hv
  have zc := zc_of B hml
  have hl := lv_entry ([.ref qx, .int x1]) (n := 2) (Nat.le_of_ble_eq_true rfl)
  rw [lg_entry_eq]
  generalize (lg_sl ([.ref qx, .int x1]) ++ List.replicate (2 - (lg_sl ([.ref qx, .int x1])).length) Slot.unset).toArray = ls at hl ⊢
  have hl : lv_has ls 2 [(0, .ref qx), (1, .int x1)] := hl
  exact t_wx_X10_choirAt_0 zc hK hM (lv_sub hl [0, 1] rfl) hw
-- wx_X10_choir
abbrev rm_wx_X10_choir : Room := { frames := 3, cells := 0, slots := 0, locals := 84 }
def q_wx_X10_choir_0 (ta_counts : Nat → Int32) (tc0f_voices : Int32) (tc0f_step : Int32) (tc0a_parts : Nat → Int32) (tc0a_heights : Nat → Int32) (tc1f_voices : Int32) (tc1f_step : Int32) (tc1a_parts : Nat → Int32) (tc1a_heights : Nat → Int32) (x1 : Int32) (x2 : Int32) (post : Int32 → Prop) : Prop :=
  q_wx_X10_choirAt_0 ta_counts x1 (fun r_1 => (r_1 = 0 → (post (-1 : Int32))) ∧ (r_1 = 1 → ((¬ x2 = (2 : Int32) → (q_wc_X0_look_0 tc1f_voices tc1f_step tc1a_parts tc1a_heights x2 (fun r_2 => post r_2))) ∧ (x2 = (2 : Int32) → False))) ∧ (¬ r_1 = 0 → ¬ r_1 = 1 → ((¬ x2 = (2 : Int32) → (q_wc_X0_look_0 tc0f_voices tc0f_step tc0a_parts tc0a_heights x2 (fun r_3 => post r_3))) ∧ (x2 = (2 : Int32) → False))))
set_option maxRecDepth 20000 in
theorem t_wx_X10_choir_0 {p : Program} {l : Launch} {e : Env} {s : State} {m : MethodId} {args : Array Value} {below : List Frame} {meth : Method} {c : Code} {E : zE} {qx : Nat} {ta_tape : Nat → Int32} {tf_length : Int32} {tf_fault : Int32} {tf_place : Int32} {ta_counts : Nat → Int32} {tl0f_huts : Int32} {tl0f_singers : Int32} {tl0f_villages : Int32} {tl0f_dams : Int32} {tl0f_echoes : Int32} {tl0f_deep : Int32} {tl0f_slide : Int32} {tl0a_heights : Nat → Int32} {tl0a_ladders : Nat → Int32} {tl0a_minutes : Nat → Int32} {tl0a_echoFrom : Nat → Int32} {tl0a_echoTo : Nat → Int32} {tl0a_homes : Nat → Int32} {tl0a_talls : Nat → Int32} {tl0a_known : Nat → Int32} {tl1f_huts : Int32} {tl1f_singers : Int32} {tl1f_villages : Int32} {tl1f_dams : Int32} {tl1f_echoes : Int32} {tl1f_deep : Int32} {tl1f_slide : Int32} {tl1a_heights : Nat → Int32} {tl1a_ladders : Nat → Int32} {tl1a_minutes : Nat → Int32} {tl1a_echoFrom : Nat → Int32} {tl1a_echoTo : Nat → Int32} {tl1a_homes : Nat → Int32} {tl1a_talls : Nat → Int32} {tl1a_known : Nat → Int32} {tv0f_deeds : Int32} {tv0a_kinds : Nat → Int32} {tv0a_firsts : Nat → Int32} {tv0a_seconds : Nat → Int32} {tv1f_deeds : Int32} {tv1a_kinds : Nat → Int32} {tv1a_firsts : Nat → Int32} {tv1a_seconds : Nat → Int32} {ts0f_facts : Int32} {ts0a_heard : Nat → Int32} {ts0a_huts : Nat → Int32} {ts0a_minutes : Nat → Int32} {ts1f_facts : Int32} {ts1a_heard : Nat → Int32} {ts1a_huts : Nat → Int32} {ts1a_minutes : Nat → Int32} {tc0f_voices : Int32} {tc0f_step : Int32} {tc0a_parts : Nat → Int32} {tc0a_heights : Nat → Int32} {tc1f_voices : Int32} {tc1f_step : Int32} {tc1a_parts : Nat → Int32} {tc1a_heights : Nat → Int32} {m_images : Nat → Option Nat} {rlf_huts : Int32} {rlf_singers : Int32} {rlf_villages : Int32} {rlf_dams : Int32} {rlf_echoes : Int32} {rlf_deep : Int32} {rlf_slide : Int32} {rla_heights : Nat → Int32} {rla_ladders : Nat → Int32} {rla_minutes : Nat → Int32} {rla_echoFrom : Nat → Int32} {rla_echoTo : Nat → Int32} {rla_homes : Nat → Int32} {rla_talls : Nat → Int32} {rla_known : Nat → Int32} {rvf_deeds : Int32} {rva_kinds : Nat → Int32} {rva_firsts : Nat → Int32} {rva_seconds : Nat → Int32} {rsf_facts : Int32} {rsa_heard : Nat → Int32} {rsa_huts : Nat → Int32} {rsa_minutes : Nat → Int32} {rcf_voices : Int32} {rcf_step : Int32} {rca_parts : Nat → Int32} {rca_heights : Nat → Int32} {rf_fault : Int32} {rf_faultPlace : Int32} {ra_numbers : Nat → Int32} {ra_tape : Nat → Int32} {rf_length : Int32} {rf_behind : Int32} {rf_kind : Int32} {rf_first : Int32} {rf_value : Int32} {rf_hutsToldOf : Int32} {rf_singersToldOf : Int32} {nf_minute : Int32} {nf_avalanches : Int32} {nf_begun : Int32} {nf_climbed : Int32} {nf_seed : Int32} {na_huts : Nat → Int32} {na_known : Nat → Int32} {na_levels : Nat → Int32} {na_snow : Nat → Int32} {na_open : Nat → Int32} {pa_heard : Nat → Int32} {pa_walked : Nat → Int32} {pa_total : Nat → Int32} {pa_longest : Nat → Int32} {pa_next : Nat → Int32} {pa_cover : Nat → Int32} {pa_now : Nat → Int32} {pa_then : Nat → Int32} {ko_stands : Option Nat} {ka_gaps : Nat → Int32} {ka_behind : Nat → Int32} {ba_less : Nat → Int32} {ba_full : Nat → Int32} {post : Int32 → Prop} {x1 : Int32} {x2 : Int32} {ls : Array Slot}
    (zc : zC p s m args meth c cX10_choir 4 RX10 (some .int))
    (hK : zK E s)
    (hM : wxW E qx ta_tape tf_length tf_fault tf_place ta_counts tl0f_huts tl0f_singers tl0f_villages tl0f_dams tl0f_echoes tl0f_deep tl0f_slide tl0a_heights tl0a_ladders tl0a_minutes tl0a_echoFrom tl0a_echoTo tl0a_homes tl0a_talls tl0a_known tl1f_huts tl1f_singers tl1f_villages tl1f_dams tl1f_echoes tl1f_deep tl1f_slide tl1a_heights tl1a_ladders tl1a_minutes tl1a_echoFrom tl1a_echoTo tl1a_homes tl1a_talls tl1a_known tv0f_deeds tv0a_kinds tv0a_firsts tv0a_seconds tv1f_deeds tv1a_kinds tv1a_firsts tv1a_seconds ts0f_facts ts0a_heard ts0a_huts ts0a_minutes ts1f_facts ts1a_heard ts1a_huts ts1a_minutes tc0f_voices tc0f_step tc0a_parts tc0a_heights tc1f_voices tc1f_step tc1a_parts tc1a_heights m_images rlf_huts rlf_singers rlf_villages rlf_dams rlf_echoes rlf_deep rlf_slide rla_heights rla_ladders rla_minutes rla_echoFrom rla_echoTo rla_homes rla_talls rla_known rvf_deeds rva_kinds rva_firsts rva_seconds rsf_facts rsa_heard rsa_huts rsa_minutes rcf_voices rcf_step rca_parts rca_heights rf_fault rf_faultPlace ra_numbers ra_tape rf_length rf_behind rf_kind rf_first rf_value rf_hutsToldOf rf_singersToldOf nf_minute nf_avalanches nf_begun nf_climbed nf_seed na_huts na_known na_levels na_snow na_open pa_heard pa_walked pa_total pa_longest pa_next pa_cover pa_now pa_then ko_stands ka_gaps ka_behind ba_less ba_full s.heap)
    (hl : lv_has ls 4 [(0, .ref qx), (1, .int x1), (2, .int x2)])
    (hw : q_wx_X10_choir_0 ta_counts tc0f_voices tc0f_step tc0a_parts tc0a_heights tc1f_voices tc1f_step tc1a_parts tc1a_heights x1 x2 post) :
    W p l e rm_wx_X10_choir s m args below meth c s.heap [] 0 0 (MQ below (vp_Si post) args s 0 0 (fun _ => False)) (F0 m 0 ls []) := by
  have hx := zc.1
  have hb := zc.2.1
  refine lv_aload_n hx hb dX10_choir_0 rfl (lv_at hl 0 rfl) ?_
  refine lv_iload_n hx hb dX10_choir_1 rfl (lv_at hl 1 rfl) ?_
  refine zV_r [.int x1] [] zc ky_X10_choirAt kz_X10_choirAt km_10_219 (c_wx_X10_choirAt l hw) (wxPreV0 hK hM) rfl rfl hl.1 (Nat.le_of_ble_eq_true rfl) ⟨rfl, rfl⟩ ⟨Nat.le_of_ble_eq_true rfl, Nat.le_of_ble_eq_true rfl⟩ ⟨(Nat.zero_le _), (Nat.zero_le _)⟩ dX10_choir_2 (fun r_1 hw => ?_)
  by_cases hc0 : r_1 = 0
  · have hw := hw.1 hc0
    refine W.eq (g2 := F0 m 5 ls (.null :: [])) (by simp [hc0]) ?_
    refine lv_astore_nN (lv' := [(3, .null), (0, .ref qx), (1, .int x1), (2, .int x2)]) hx hb dX10_choir_5 rfl hl (by decide) rfl (fun ls hl => ?_)
    refine lv_aload_nN hx hb dX10_choir_6 rfl (lv_at hl 0 rfl) ?_
    refine lv_ifnonnullN hx hb dX10_choir_7 ?_
    refine lv_iconst (v := (-1 : Int32)) hx hb dX10_choir_10 (by decide) ?_
    exact zret_i zc hw dX10_choir_11
  by_cases hc1 : r_1 = 1
  · have hw := hw.2.1 hc1
    refine W.eq (g2 := F0 m 5 ls (.ref (qx + 45) :: [])) (by simp [hc0, hc1]) ?_
    refine lv_astore_n (lv' := [(3, .ref (qx + 45)), (0, .ref qx), (1, .int x1), (2, .int x2)]) hx hb dX10_choir_5 rfl hl (by decide) rfl (fun ls hl => ?_)
    refine lv_aload_n hx hb dX10_choir_6 rfl (lv_at hl 0 rfl) ?_
    refine lv_ifnonnull (tgt := 12) hx hb dX10_choir_7 (by decide) ?_
    refine lv_iload_n hx hb dX10_choir_12 rfl (lv_at hl 3 rfl) ?_
    refine lv_iconst (v := (2 : Int32)) hx hb dX10_choir_13 (by decide) ?_
    refine lv_icmp_ne (tgt := 28) hx hb dX10_choir_14 (by decide) (fun hc => ?_) (fun hc => ?_)
    · have hw := hw.1 hc
      refine lv_aload_n hx hb dX10_choir_28 rfl (lv_at hl 0 rfl) ?_
      refine lv_iload_n hx hb dX10_choir_29 rfl (lv_at hl 3 rfl) ?_
      refine zV_i [.int x2] [] zc ky_X0_look kz_X0_look km_10_227 (c_wc_X0_look l hw) (wcPreV0 hK (pj_wx_wc_45 hM)) rfl rfl hl.1 (Nat.le_of_ble_eq_true rfl) ⟨rfl, rfl⟩ ⟨Nat.le_of_ble_eq_true rfl, Nat.le_of_ble_eq_true rfl⟩ ⟨(Nat.zero_le _), (Nat.zero_le _)⟩ dX10_choir_30 (fun r_2 hw => ?_)
      exact zret_i zc hw dX10_choir_33
    · have hw := hw.2 hc
      refine lv_aload_n hx hb dX10_choir_17 rfl (lv_at hl 1 rfl) ?_
      refine wxg_10_44_0 zc hK hM dX10_choir_18 ?_
      refine lv_aload_n hx hb dX10_choir_21 rfl (lv_at hl 0 rfl) ?_
      exact hw.elim
  have hw := hw.2.2 hc0 hc1
  refine W.eq (g2 := F0 m 5 ls (.ref (qx + 42) :: [])) (by simp [hc0, hc1]) ?_
  refine lv_astore_n (lv' := [(3, .ref (qx + 42)), (0, .ref qx), (1, .int x1), (2, .int x2)]) hx hb dX10_choir_5 rfl hl (by decide) rfl (fun ls hl => ?_)
  refine lv_aload_n hx hb dX10_choir_6 rfl (lv_at hl 0 rfl) ?_
  refine lv_ifnonnull (tgt := 12) hx hb dX10_choir_7 (by decide) ?_
  refine lv_iload_n hx hb dX10_choir_12 rfl (lv_at hl 3 rfl) ?_
  refine lv_iconst (v := (2 : Int32)) hx hb dX10_choir_13 (by decide) ?_
  refine lv_icmp_ne (tgt := 28) hx hb dX10_choir_14 (by decide) (fun hc => ?_) (fun hc => ?_)
  · have hw := hw.1 hc
    refine lv_aload_n hx hb dX10_choir_28 rfl (lv_at hl 0 rfl) ?_
    refine lv_iload_n hx hb dX10_choir_29 rfl (lv_at hl 3 rfl) ?_
    refine zV_i [.int x2] [] zc ky_X0_look kz_X0_look km_10_227 (c_wc_X0_look l hw) (wcPreV0 hK (pj_wx_wc_42 hM)) rfl rfl hl.1 (Nat.le_of_ble_eq_true rfl) ⟨rfl, rfl⟩ ⟨Nat.le_of_ble_eq_true rfl, Nat.le_of_ble_eq_true rfl⟩ ⟨(Nat.zero_le _), (Nat.zero_le _)⟩ dX10_choir_30 (fun r_3 hw => ?_)
    exact zret_i zc hw dX10_choir_33
  · have hw := hw.2 hc
    refine lv_aload_n hx hb dX10_choir_17 rfl (lv_at hl 1 rfl) ?_
    refine wxg_10_44_0 zc hK hM dX10_choir_18 ?_
    refine lv_aload_n hx hb dX10_choir_21 rfl (lv_at hl 0 rfl) ?_
    exact hw.elim
set_option maxRecDepth 20000 in
theorem c_wx_X10_choir (l : Launch) {E : zE} {qx : Nat} {ta_tape : Nat → Int32} {tf_length : Int32} {tf_fault : Int32} {tf_place : Int32} {ta_counts : Nat → Int32} {tl0f_huts : Int32} {tl0f_singers : Int32} {tl0f_villages : Int32} {tl0f_dams : Int32} {tl0f_echoes : Int32} {tl0f_deep : Int32} {tl0f_slide : Int32} {tl0a_heights : Nat → Int32} {tl0a_ladders : Nat → Int32} {tl0a_minutes : Nat → Int32} {tl0a_echoFrom : Nat → Int32} {tl0a_echoTo : Nat → Int32} {tl0a_homes : Nat → Int32} {tl0a_talls : Nat → Int32} {tl0a_known : Nat → Int32} {tl1f_huts : Int32} {tl1f_singers : Int32} {tl1f_villages : Int32} {tl1f_dams : Int32} {tl1f_echoes : Int32} {tl1f_deep : Int32} {tl1f_slide : Int32} {tl1a_heights : Nat → Int32} {tl1a_ladders : Nat → Int32} {tl1a_minutes : Nat → Int32} {tl1a_echoFrom : Nat → Int32} {tl1a_echoTo : Nat → Int32} {tl1a_homes : Nat → Int32} {tl1a_talls : Nat → Int32} {tl1a_known : Nat → Int32} {tv0f_deeds : Int32} {tv0a_kinds : Nat → Int32} {tv0a_firsts : Nat → Int32} {tv0a_seconds : Nat → Int32} {tv1f_deeds : Int32} {tv1a_kinds : Nat → Int32} {tv1a_firsts : Nat → Int32} {tv1a_seconds : Nat → Int32} {ts0f_facts : Int32} {ts0a_heard : Nat → Int32} {ts0a_huts : Nat → Int32} {ts0a_minutes : Nat → Int32} {ts1f_facts : Int32} {ts1a_heard : Nat → Int32} {ts1a_huts : Nat → Int32} {ts1a_minutes : Nat → Int32} {tc0f_voices : Int32} {tc0f_step : Int32} {tc0a_parts : Nat → Int32} {tc0a_heights : Nat → Int32} {tc1f_voices : Int32} {tc1f_step : Int32} {tc1a_parts : Nat → Int32} {tc1a_heights : Nat → Int32} {m_images : Nat → Option Nat} {rlf_huts : Int32} {rlf_singers : Int32} {rlf_villages : Int32} {rlf_dams : Int32} {rlf_echoes : Int32} {rlf_deep : Int32} {rlf_slide : Int32} {rla_heights : Nat → Int32} {rla_ladders : Nat → Int32} {rla_minutes : Nat → Int32} {rla_echoFrom : Nat → Int32} {rla_echoTo : Nat → Int32} {rla_homes : Nat → Int32} {rla_talls : Nat → Int32} {rla_known : Nat → Int32} {rvf_deeds : Int32} {rva_kinds : Nat → Int32} {rva_firsts : Nat → Int32} {rva_seconds : Nat → Int32} {rsf_facts : Int32} {rsa_heard : Nat → Int32} {rsa_huts : Nat → Int32} {rsa_minutes : Nat → Int32} {rcf_voices : Int32} {rcf_step : Int32} {rca_parts : Nat → Int32} {rca_heights : Nat → Int32} {rf_fault : Int32} {rf_faultPlace : Int32} {ra_numbers : Nat → Int32} {ra_tape : Nat → Int32} {rf_length : Int32} {rf_behind : Int32} {rf_kind : Int32} {rf_first : Int32} {rf_value : Int32} {rf_hutsToldOf : Int32} {rf_singersToldOf : Int32} {nf_minute : Int32} {nf_avalanches : Int32} {nf_begun : Int32} {nf_climbed : Int32} {nf_seed : Int32} {na_huts : Nat → Int32} {na_known : Nat → Int32} {na_levels : Nat → Int32} {na_snow : Nat → Int32} {na_open : Nat → Int32} {pa_heard : Nat → Int32} {pa_walked : Nat → Int32} {pa_total : Nat → Int32} {pa_longest : Nat → Int32} {pa_next : Nat → Int32} {pa_cover : Nat → Int32} {pa_now : Nat → Int32} {pa_then : Nat → Int32} {ko_stands : Option Nat} {ka_gaps : Nat → Int32} {ka_behind : Nat → Int32} {ba_less : Nat → Int32} {ba_full : Nat → Int32} {x1 : Int32} {x2 : Int32} {post : Int32 → Prop} (hw : q_wx_X10_choir_0 ta_counts tc0f_voices tc0f_step tc0a_parts tc0a_heights tc1f_voices tc1f_step tc1a_parts tc1a_heights x1 x2 post) : Met l yX10_choir (Cond.code yX10_choir cX10_choir 4 (some .int) :: zb) rm_wx_X10_choir (va_Pc [.ref qx, .int x1, .int x2] (fun U => wxW E qx ta_tape tf_length tf_fault tf_place ta_counts tl0f_huts tl0f_singers tl0f_villages tl0f_dams tl0f_echoes tl0f_deep tl0f_slide tl0a_heights tl0a_ladders tl0a_minutes tl0a_echoFrom tl0a_echoTo tl0a_homes tl0a_talls tl0a_known tl1f_huts tl1f_singers tl1f_villages tl1f_dams tl1f_echoes tl1f_deep tl1f_slide tl1a_heights tl1a_ladders tl1a_minutes tl1a_echoFrom tl1a_echoTo tl1a_homes tl1a_talls tl1a_known tv0f_deeds tv0a_kinds tv0a_firsts tv0a_seconds tv1f_deeds tv1a_kinds tv1a_firsts tv1a_seconds ts0f_facts ts0a_heard ts0a_huts ts0a_minutes ts1f_facts ts1a_heard ts1a_huts ts1a_minutes tc0f_voices tc0f_step tc0a_parts tc0a_heights tc1f_voices tc1f_step tc1a_parts tc1a_heights m_images rlf_huts rlf_singers rlf_villages rlf_dams rlf_echoes rlf_deep rlf_slide rla_heights rla_ladders rla_minutes rla_echoFrom rla_echoTo rla_homes rla_talls rla_known rvf_deeds rva_kinds rva_firsts rva_seconds rsf_facts rsa_heard rsa_huts rsa_minutes rcf_voices rcf_step rca_parts rca_heights rf_fault rf_faultPlace ra_numbers ra_tape rf_length rf_behind rf_kind rf_first rf_value rf_hutsToldOf rf_singersToldOf nf_minute nf_avalanches nf_begun nf_climbed nf_seed na_huts na_known na_levels na_snow na_open pa_heard pa_walked pa_total pa_longest pa_next pa_cover pa_now pa_then ko_stands ka_gaps ka_behind ba_less ba_full U.heap ∧ zK E U)) (vp_Si post) 0 0 (fun _ => False) := by
  refine Met.ofW (cc := cX10_choir) (maxL := 4) (ret := (some .int)) (by decide) rfl ?_
  intro p e s m args below meth c s₁ B hml hv
  obtain ⟨rfl, hM, hK⟩ := hv
  have zc := zc_of B hml
  have hl := lv_entry ([.ref qx, .int x1, .int x2]) (n := 4) (Nat.le_of_ble_eq_true rfl)
  rw [lg_entry_eq]
  generalize (lg_sl ([.ref qx, .int x1, .int x2]) ++ List.replicate (4 - (lg_sl ([.ref qx, .int x1, .int x2])).length) Slot.unset).toArray = ls at hl ⊢
  have hl : lv_has ls 4 [(0, .ref qx), (1, .int x1), (2, .int x2)] := hl
  exact t_wx_X10_choir_0 zc hK hM (lv_sub hl [0, 1, 2] rfl) hw
-- wx_X10_orders
abbrev rm_wx_X10_orders : Room := { frames := 1, cells := 0, slots := 0, locals := 21 }
def q_wx_X10_orders_0 (ta_counts : Nat → Int32) (x1 : Int32) (post : Int64 → Prop) : Prop :=
  q_wx_X10_choirAt_0 ta_counts x1 (fun r_1 => (r_1 = 0 → (post (-1 : Int64))) ∧ (r_1 = 1 → False) ∧ (¬ r_1 = 0 → ¬ r_1 = 1 → False))
set_option maxRecDepth 20000 in
theorem t_wx_X10_orders_0 {p : Program} {l : Launch} {e : Env} {s : State} {m : MethodId} {args : Array Value} {below : List Frame} {meth : Method} {c : Code} {E : zE} {qx : Nat} {ta_tape : Nat → Int32} {tf_length : Int32} {tf_fault : Int32} {tf_place : Int32} {ta_counts : Nat → Int32} {tl0f_huts : Int32} {tl0f_singers : Int32} {tl0f_villages : Int32} {tl0f_dams : Int32} {tl0f_echoes : Int32} {tl0f_deep : Int32} {tl0f_slide : Int32} {tl0a_heights : Nat → Int32} {tl0a_ladders : Nat → Int32} {tl0a_minutes : Nat → Int32} {tl0a_echoFrom : Nat → Int32} {tl0a_echoTo : Nat → Int32} {tl0a_homes : Nat → Int32} {tl0a_talls : Nat → Int32} {tl0a_known : Nat → Int32} {tl1f_huts : Int32} {tl1f_singers : Int32} {tl1f_villages : Int32} {tl1f_dams : Int32} {tl1f_echoes : Int32} {tl1f_deep : Int32} {tl1f_slide : Int32} {tl1a_heights : Nat → Int32} {tl1a_ladders : Nat → Int32} {tl1a_minutes : Nat → Int32} {tl1a_echoFrom : Nat → Int32} {tl1a_echoTo : Nat → Int32} {tl1a_homes : Nat → Int32} {tl1a_talls : Nat → Int32} {tl1a_known : Nat → Int32} {tv0f_deeds : Int32} {tv0a_kinds : Nat → Int32} {tv0a_firsts : Nat → Int32} {tv0a_seconds : Nat → Int32} {tv1f_deeds : Int32} {tv1a_kinds : Nat → Int32} {tv1a_firsts : Nat → Int32} {tv1a_seconds : Nat → Int32} {ts0f_facts : Int32} {ts0a_heard : Nat → Int32} {ts0a_huts : Nat → Int32} {ts0a_minutes : Nat → Int32} {ts1f_facts : Int32} {ts1a_heard : Nat → Int32} {ts1a_huts : Nat → Int32} {ts1a_minutes : Nat → Int32} {tc0f_voices : Int32} {tc0f_step : Int32} {tc0a_parts : Nat → Int32} {tc0a_heights : Nat → Int32} {tc1f_voices : Int32} {tc1f_step : Int32} {tc1a_parts : Nat → Int32} {tc1a_heights : Nat → Int32} {m_images : Nat → Option Nat} {rlf_huts : Int32} {rlf_singers : Int32} {rlf_villages : Int32} {rlf_dams : Int32} {rlf_echoes : Int32} {rlf_deep : Int32} {rlf_slide : Int32} {rla_heights : Nat → Int32} {rla_ladders : Nat → Int32} {rla_minutes : Nat → Int32} {rla_echoFrom : Nat → Int32} {rla_echoTo : Nat → Int32} {rla_homes : Nat → Int32} {rla_talls : Nat → Int32} {rla_known : Nat → Int32} {rvf_deeds : Int32} {rva_kinds : Nat → Int32} {rva_firsts : Nat → Int32} {rva_seconds : Nat → Int32} {rsf_facts : Int32} {rsa_heard : Nat → Int32} {rsa_huts : Nat → Int32} {rsa_minutes : Nat → Int32} {rcf_voices : Int32} {rcf_step : Int32} {rca_parts : Nat → Int32} {rca_heights : Nat → Int32} {rf_fault : Int32} {rf_faultPlace : Int32} {ra_numbers : Nat → Int32} {ra_tape : Nat → Int32} {rf_length : Int32} {rf_behind : Int32} {rf_kind : Int32} {rf_first : Int32} {rf_value : Int32} {rf_hutsToldOf : Int32} {rf_singersToldOf : Int32} {nf_minute : Int32} {nf_avalanches : Int32} {nf_begun : Int32} {nf_climbed : Int32} {nf_seed : Int32} {na_huts : Nat → Int32} {na_known : Nat → Int32} {na_levels : Nat → Int32} {na_snow : Nat → Int32} {na_open : Nat → Int32} {pa_heard : Nat → Int32} {pa_walked : Nat → Int32} {pa_total : Nat → Int32} {pa_longest : Nat → Int32} {pa_next : Nat → Int32} {pa_cover : Nat → Int32} {pa_now : Nat → Int32} {pa_then : Nat → Int32} {ko_stands : Option Nat} {ka_gaps : Nat → Int32} {ka_behind : Nat → Int32} {ba_less : Nat → Int32} {ba_full : Nat → Int32} {post : Int64 → Prop} {x1 : Int32} {ls : Array Slot}
    (zc : zC p s m args meth c cX10_orders 3 RX10 (some .long))
    (hK : zK E s)
    (hM : wxW E qx ta_tape tf_length tf_fault tf_place ta_counts tl0f_huts tl0f_singers tl0f_villages tl0f_dams tl0f_echoes tl0f_deep tl0f_slide tl0a_heights tl0a_ladders tl0a_minutes tl0a_echoFrom tl0a_echoTo tl0a_homes tl0a_talls tl0a_known tl1f_huts tl1f_singers tl1f_villages tl1f_dams tl1f_echoes tl1f_deep tl1f_slide tl1a_heights tl1a_ladders tl1a_minutes tl1a_echoFrom tl1a_echoTo tl1a_homes tl1a_talls tl1a_known tv0f_deeds tv0a_kinds tv0a_firsts tv0a_seconds tv1f_deeds tv1a_kinds tv1a_firsts tv1a_seconds ts0f_facts ts0a_heard ts0a_huts ts0a_minutes ts1f_facts ts1a_heard ts1a_huts ts1a_minutes tc0f_voices tc0f_step tc0a_parts tc0a_heights tc1f_voices tc1f_step tc1a_parts tc1a_heights m_images rlf_huts rlf_singers rlf_villages rlf_dams rlf_echoes rlf_deep rlf_slide rla_heights rla_ladders rla_minutes rla_echoFrom rla_echoTo rla_homes rla_talls rla_known rvf_deeds rva_kinds rva_firsts rva_seconds rsf_facts rsa_heard rsa_huts rsa_minutes rcf_voices rcf_step rca_parts rca_heights rf_fault rf_faultPlace ra_numbers ra_tape rf_length rf_behind rf_kind rf_first rf_value rf_hutsToldOf rf_singersToldOf nf_minute nf_avalanches nf_begun nf_climbed nf_seed na_huts na_known na_levels na_snow na_open pa_heard pa_walked pa_total pa_longest pa_next pa_cover pa_now pa_then ko_stands ka_gaps ka_behind ba_less ba_full s.heap)
    (hl : lv_has ls 3 [(0, .ref qx), (1, .int x1)])
    (hw : q_wx_X10_orders_0 ta_counts x1 post) :
    W p l e rm_wx_X10_orders s m args below meth c s.heap [] 0 0 (MQ below (vp_Sl post) args s 0 0 (fun _ => False)) (F0 m 0 ls []) := by
  have hx := zc.1
  have hb := zc.2.1
  refine lv_aload_n hx hb dX10_orders_0 rfl (lv_at hl 0 rfl) ?_
  refine lv_iload_n hx hb dX10_orders_1 rfl (lv_at hl 1 rfl) ?_
  refine zV_r [.int x1] [] zc ky_X10_choirAt kz_X10_choirAt km_10_219 (c_wx_X10_choirAt l hw) (wxPreV0 hK hM) rfl rfl hl.1 (Nat.le_of_ble_eq_true rfl) ⟨rfl, rfl⟩ ⟨Nat.le_of_ble_eq_true rfl, Nat.le_of_ble_eq_true rfl⟩ ⟨(Nat.zero_le _), (Nat.zero_le _)⟩ dX10_orders_2 (fun r_1 hw => ?_)
  by_cases hc0 : r_1 = 0
  · have hw := hw.1 hc0
    refine W.eq (g2 := F0 m 5 ls (.null :: [])) (by simp [hc0]) ?_
    refine lv_astore_nN (lv' := [(2, .null), (0, .ref qx), (1, .int x1)]) hx hb dX10_orders_5 rfl hl (by decide) rfl (fun ls hl => ?_)
    refine lv_aload_nN hx hb dX10_orders_6 rfl (lv_at hl 0 rfl) ?_
    refine lv_ifnonnullN hx hb dX10_orders_7 ?_
    refine lv_ldc2 (v := (-1 : Int64)) hx hb zc.2.2.2.1 (zc.2.2.2.2.1 _ kc_10_230) dX10_orders_10 ?_
    exact zret_l zc hw dX10_orders_13
  by_cases hc1 : r_1 = 1
  · have hw := hw.2.1 hc1
    refine W.eq (g2 := F0 m 5 ls (.ref (qx + 45) :: [])) (by simp [hc0, hc1]) ?_
    refine lv_astore_n (lv' := [(2, .ref (qx + 45)), (0, .ref qx), (1, .int x1)]) hx hb dX10_orders_5 rfl hl (by decide) rfl (fun ls hl => ?_)
    refine lv_aload_n hx hb dX10_orders_6 rfl (lv_at hl 0 rfl) ?_
    refine lv_ifnonnull (tgt := 14) hx hb dX10_orders_7 (by decide) ?_
    refine lv_aload_n hx hb dX10_orders_14 rfl (lv_at hl 1 rfl) ?_
    refine wxg_10_44_0 zc hK hM dX10_orders_15 ?_
    refine lv_aload_n hx hb dX10_orders_18 rfl (lv_at hl 0 rfl) ?_
    exact hw.elim
  have hw := hw.2.2 hc0 hc1
  refine W.eq (g2 := F0 m 5 ls (.ref (qx + 42) :: [])) (by simp [hc0, hc1]) ?_
  refine lv_astore_n (lv' := [(2, .ref (qx + 42)), (0, .ref qx), (1, .int x1)]) hx hb dX10_orders_5 rfl hl (by decide) rfl (fun ls hl => ?_)
  refine lv_aload_n hx hb dX10_orders_6 rfl (lv_at hl 0 rfl) ?_
  refine lv_ifnonnull (tgt := 14) hx hb dX10_orders_7 (by decide) ?_
  refine lv_aload_n hx hb dX10_orders_14 rfl (lv_at hl 1 rfl) ?_
  refine wxg_10_44_0 zc hK hM dX10_orders_15 ?_
  refine lv_aload_n hx hb dX10_orders_18 rfl (lv_at hl 0 rfl) ?_
  exact hw.elim
set_option maxRecDepth 20000 in
theorem c_wx_X10_orders (l : Launch) {E : zE} {qx : Nat} {ta_tape : Nat → Int32} {tf_length : Int32} {tf_fault : Int32} {tf_place : Int32} {ta_counts : Nat → Int32} {tl0f_huts : Int32} {tl0f_singers : Int32} {tl0f_villages : Int32} {tl0f_dams : Int32} {tl0f_echoes : Int32} {tl0f_deep : Int32} {tl0f_slide : Int32} {tl0a_heights : Nat → Int32} {tl0a_ladders : Nat → Int32} {tl0a_minutes : Nat → Int32} {tl0a_echoFrom : Nat → Int32} {tl0a_echoTo : Nat → Int32} {tl0a_homes : Nat → Int32} {tl0a_talls : Nat → Int32} {tl0a_known : Nat → Int32} {tl1f_huts : Int32} {tl1f_singers : Int32} {tl1f_villages : Int32} {tl1f_dams : Int32} {tl1f_echoes : Int32} {tl1f_deep : Int32} {tl1f_slide : Int32} {tl1a_heights : Nat → Int32} {tl1a_ladders : Nat → Int32} {tl1a_minutes : Nat → Int32} {tl1a_echoFrom : Nat → Int32} {tl1a_echoTo : Nat → Int32} {tl1a_homes : Nat → Int32} {tl1a_talls : Nat → Int32} {tl1a_known : Nat → Int32} {tv0f_deeds : Int32} {tv0a_kinds : Nat → Int32} {tv0a_firsts : Nat → Int32} {tv0a_seconds : Nat → Int32} {tv1f_deeds : Int32} {tv1a_kinds : Nat → Int32} {tv1a_firsts : Nat → Int32} {tv1a_seconds : Nat → Int32} {ts0f_facts : Int32} {ts0a_heard : Nat → Int32} {ts0a_huts : Nat → Int32} {ts0a_minutes : Nat → Int32} {ts1f_facts : Int32} {ts1a_heard : Nat → Int32} {ts1a_huts : Nat → Int32} {ts1a_minutes : Nat → Int32} {tc0f_voices : Int32} {tc0f_step : Int32} {tc0a_parts : Nat → Int32} {tc0a_heights : Nat → Int32} {tc1f_voices : Int32} {tc1f_step : Int32} {tc1a_parts : Nat → Int32} {tc1a_heights : Nat → Int32} {m_images : Nat → Option Nat} {rlf_huts : Int32} {rlf_singers : Int32} {rlf_villages : Int32} {rlf_dams : Int32} {rlf_echoes : Int32} {rlf_deep : Int32} {rlf_slide : Int32} {rla_heights : Nat → Int32} {rla_ladders : Nat → Int32} {rla_minutes : Nat → Int32} {rla_echoFrom : Nat → Int32} {rla_echoTo : Nat → Int32} {rla_homes : Nat → Int32} {rla_talls : Nat → Int32} {rla_known : Nat → Int32} {rvf_deeds : Int32} {rva_kinds : Nat → Int32} {rva_firsts : Nat → Int32} {rva_seconds : Nat → Int32} {rsf_facts : Int32} {rsa_heard : Nat → Int32} {rsa_huts : Nat → Int32} {rsa_minutes : Nat → Int32} {rcf_voices : Int32} {rcf_step : Int32} {rca_parts : Nat → Int32} {rca_heights : Nat → Int32} {rf_fault : Int32} {rf_faultPlace : Int32} {ra_numbers : Nat → Int32} {ra_tape : Nat → Int32} {rf_length : Int32} {rf_behind : Int32} {rf_kind : Int32} {rf_first : Int32} {rf_value : Int32} {rf_hutsToldOf : Int32} {rf_singersToldOf : Int32} {nf_minute : Int32} {nf_avalanches : Int32} {nf_begun : Int32} {nf_climbed : Int32} {nf_seed : Int32} {na_huts : Nat → Int32} {na_known : Nat → Int32} {na_levels : Nat → Int32} {na_snow : Nat → Int32} {na_open : Nat → Int32} {pa_heard : Nat → Int32} {pa_walked : Nat → Int32} {pa_total : Nat → Int32} {pa_longest : Nat → Int32} {pa_next : Nat → Int32} {pa_cover : Nat → Int32} {pa_now : Nat → Int32} {pa_then : Nat → Int32} {ko_stands : Option Nat} {ka_gaps : Nat → Int32} {ka_behind : Nat → Int32} {ba_less : Nat → Int32} {ba_full : Nat → Int32} {x1 : Int32} {post : Int64 → Prop} (hw : q_wx_X10_orders_0 ta_counts x1 post) : Met l yX10_orders (Cond.code yX10_orders cX10_orders 3 (some .long) :: zb) rm_wx_X10_orders (va_Pc [.ref qx, .int x1] (fun U => wxW E qx ta_tape tf_length tf_fault tf_place ta_counts tl0f_huts tl0f_singers tl0f_villages tl0f_dams tl0f_echoes tl0f_deep tl0f_slide tl0a_heights tl0a_ladders tl0a_minutes tl0a_echoFrom tl0a_echoTo tl0a_homes tl0a_talls tl0a_known tl1f_huts tl1f_singers tl1f_villages tl1f_dams tl1f_echoes tl1f_deep tl1f_slide tl1a_heights tl1a_ladders tl1a_minutes tl1a_echoFrom tl1a_echoTo tl1a_homes tl1a_talls tl1a_known tv0f_deeds tv0a_kinds tv0a_firsts tv0a_seconds tv1f_deeds tv1a_kinds tv1a_firsts tv1a_seconds ts0f_facts ts0a_heard ts0a_huts ts0a_minutes ts1f_facts ts1a_heard ts1a_huts ts1a_minutes tc0f_voices tc0f_step tc0a_parts tc0a_heights tc1f_voices tc1f_step tc1a_parts tc1a_heights m_images rlf_huts rlf_singers rlf_villages rlf_dams rlf_echoes rlf_deep rlf_slide rla_heights rla_ladders rla_minutes rla_echoFrom rla_echoTo rla_homes rla_talls rla_known rvf_deeds rva_kinds rva_firsts rva_seconds rsf_facts rsa_heard rsa_huts rsa_minutes rcf_voices rcf_step rca_parts rca_heights rf_fault rf_faultPlace ra_numbers ra_tape rf_length rf_behind rf_kind rf_first rf_value rf_hutsToldOf rf_singersToldOf nf_minute nf_avalanches nf_begun nf_climbed nf_seed na_huts na_known na_levels na_snow na_open pa_heard pa_walked pa_total pa_longest pa_next pa_cover pa_now pa_then ko_stands ka_gaps ka_behind ba_less ba_full U.heap ∧ zK E U)) (vp_Sl post) 0 0 (fun _ => False) := by
  refine Met.ofW (cc := cX10_orders) (maxL := 3) (ret := (some .long)) (by decide) rfl ?_
  intro p e s m args below meth c s₁ B hml hv
  obtain ⟨rfl, hM, hK⟩ := hv
  have zc := zc_of B hml
  have hl := lv_entry ([.ref qx, .int x1]) (n := 3) (Nat.le_of_ble_eq_true rfl)
  rw [lg_entry_eq]
  generalize (lg_sl ([.ref qx, .int x1]) ++ List.replicate (3 - (lg_sl ([.ref qx, .int x1])).length) Slot.unset).toArray = ls at hl ⊢
  have hl : lv_has ls 3 [(0, .ref qx), (1, .int x1)] := hl
  exact t_wx_X10_orders_0 zc hK hM (lv_sub hl [0, 1] rfl) hw
-- wx_X10_order
abbrev rm_wx_X10_order : Room := { frames := 1, cells := 0, slots := 0, locals := 21 }
def q_wx_X10_order_0 (ta_counts : Nat → Int32) (tc0f_voices : Int32) (tc1f_voices : Int32) (x1 : Int32) (x2 : Int32) (post : Int32 → Prop) : Prop :=
  q_wx_X10_choirAt_0 ta_counts x1 (fun r_1 => (r_1 = 0 → (post (-1 : Int32))) ∧ (r_1 = 1 → ((x2 < 0 → (post (-1 : Int32))) ∧ (¬ x2 < 0 → ((x2 < tc1f_voices → False) ∧ (¬ x2 < tc1f_voices → (post (-1 : Int32))))))) ∧ (¬ r_1 = 0 → ¬ r_1 = 1 → ((x2 < 0 → (post (-1 : Int32))) ∧ (¬ x2 < 0 → ((x2 < tc0f_voices → False) ∧ (¬ x2 < tc0f_voices → (post (-1 : Int32))))))))
set_option maxRecDepth 20000 in
theorem t_wx_X10_order_0 {p : Program} {l : Launch} {e : Env} {s : State} {m : MethodId} {args : Array Value} {below : List Frame} {meth : Method} {c : Code} {E : zE} {qx : Nat} {ta_tape : Nat → Int32} {tf_length : Int32} {tf_fault : Int32} {tf_place : Int32} {ta_counts : Nat → Int32} {tl0f_huts : Int32} {tl0f_singers : Int32} {tl0f_villages : Int32} {tl0f_dams : Int32} {tl0f_echoes : Int32} {tl0f_deep : Int32} {tl0f_slide : Int32} {tl0a_heights : Nat → Int32} {tl0a_ladders : Nat → Int32} {tl0a_minutes : Nat → Int32} {tl0a_echoFrom : Nat → Int32} {tl0a_echoTo : Nat → Int32} {tl0a_homes : Nat → Int32} {tl0a_talls : Nat → Int32} {tl0a_known : Nat → Int32} {tl1f_huts : Int32} {tl1f_singers : Int32} {tl1f_villages : Int32} {tl1f_dams : Int32} {tl1f_echoes : Int32} {tl1f_deep : Int32} {tl1f_slide : Int32} {tl1a_heights : Nat → Int32} {tl1a_ladders : Nat → Int32} {tl1a_minutes : Nat → Int32} {tl1a_echoFrom : Nat → Int32} {tl1a_echoTo : Nat → Int32} {tl1a_homes : Nat → Int32} {tl1a_talls : Nat → Int32} {tl1a_known : Nat → Int32} {tv0f_deeds : Int32} {tv0a_kinds : Nat → Int32} {tv0a_firsts : Nat → Int32} {tv0a_seconds : Nat → Int32} {tv1f_deeds : Int32} {tv1a_kinds : Nat → Int32} {tv1a_firsts : Nat → Int32} {tv1a_seconds : Nat → Int32} {ts0f_facts : Int32} {ts0a_heard : Nat → Int32} {ts0a_huts : Nat → Int32} {ts0a_minutes : Nat → Int32} {ts1f_facts : Int32} {ts1a_heard : Nat → Int32} {ts1a_huts : Nat → Int32} {ts1a_minutes : Nat → Int32} {tc0f_voices : Int32} {tc0f_step : Int32} {tc0a_parts : Nat → Int32} {tc0a_heights : Nat → Int32} {tc1f_voices : Int32} {tc1f_step : Int32} {tc1a_parts : Nat → Int32} {tc1a_heights : Nat → Int32} {m_images : Nat → Option Nat} {rlf_huts : Int32} {rlf_singers : Int32} {rlf_villages : Int32} {rlf_dams : Int32} {rlf_echoes : Int32} {rlf_deep : Int32} {rlf_slide : Int32} {rla_heights : Nat → Int32} {rla_ladders : Nat → Int32} {rla_minutes : Nat → Int32} {rla_echoFrom : Nat → Int32} {rla_echoTo : Nat → Int32} {rla_homes : Nat → Int32} {rla_talls : Nat → Int32} {rla_known : Nat → Int32} {rvf_deeds : Int32} {rva_kinds : Nat → Int32} {rva_firsts : Nat → Int32} {rva_seconds : Nat → Int32} {rsf_facts : Int32} {rsa_heard : Nat → Int32} {rsa_huts : Nat → Int32} {rsa_minutes : Nat → Int32} {rcf_voices : Int32} {rcf_step : Int32} {rca_parts : Nat → Int32} {rca_heights : Nat → Int32} {rf_fault : Int32} {rf_faultPlace : Int32} {ra_numbers : Nat → Int32} {ra_tape : Nat → Int32} {rf_length : Int32} {rf_behind : Int32} {rf_kind : Int32} {rf_first : Int32} {rf_value : Int32} {rf_hutsToldOf : Int32} {rf_singersToldOf : Int32} {nf_minute : Int32} {nf_avalanches : Int32} {nf_begun : Int32} {nf_climbed : Int32} {nf_seed : Int32} {na_huts : Nat → Int32} {na_known : Nat → Int32} {na_levels : Nat → Int32} {na_snow : Nat → Int32} {na_open : Nat → Int32} {pa_heard : Nat → Int32} {pa_walked : Nat → Int32} {pa_total : Nat → Int32} {pa_longest : Nat → Int32} {pa_next : Nat → Int32} {pa_cover : Nat → Int32} {pa_now : Nat → Int32} {pa_then : Nat → Int32} {ko_stands : Option Nat} {ka_gaps : Nat → Int32} {ka_behind : Nat → Int32} {ba_less : Nat → Int32} {ba_full : Nat → Int32} {post : Int32 → Prop} {x1 : Int32} {x2 : Int32} {ls : Array Slot}
    (zc : zC p s m args meth c cX10_order 4 RX10 (some .int))
    (hK : zK E s)
    (hM : wxW E qx ta_tape tf_length tf_fault tf_place ta_counts tl0f_huts tl0f_singers tl0f_villages tl0f_dams tl0f_echoes tl0f_deep tl0f_slide tl0a_heights tl0a_ladders tl0a_minutes tl0a_echoFrom tl0a_echoTo tl0a_homes tl0a_talls tl0a_known tl1f_huts tl1f_singers tl1f_villages tl1f_dams tl1f_echoes tl1f_deep tl1f_slide tl1a_heights tl1a_ladders tl1a_minutes tl1a_echoFrom tl1a_echoTo tl1a_homes tl1a_talls tl1a_known tv0f_deeds tv0a_kinds tv0a_firsts tv0a_seconds tv1f_deeds tv1a_kinds tv1a_firsts tv1a_seconds ts0f_facts ts0a_heard ts0a_huts ts0a_minutes ts1f_facts ts1a_heard ts1a_huts ts1a_minutes tc0f_voices tc0f_step tc0a_parts tc0a_heights tc1f_voices tc1f_step tc1a_parts tc1a_heights m_images rlf_huts rlf_singers rlf_villages rlf_dams rlf_echoes rlf_deep rlf_slide rla_heights rla_ladders rla_minutes rla_echoFrom rla_echoTo rla_homes rla_talls rla_known rvf_deeds rva_kinds rva_firsts rva_seconds rsf_facts rsa_heard rsa_huts rsa_minutes rcf_voices rcf_step rca_parts rca_heights rf_fault rf_faultPlace ra_numbers ra_tape rf_length rf_behind rf_kind rf_first rf_value rf_hutsToldOf rf_singersToldOf nf_minute nf_avalanches nf_begun nf_climbed nf_seed na_huts na_known na_levels na_snow na_open pa_heard pa_walked pa_total pa_longest pa_next pa_cover pa_now pa_then ko_stands ka_gaps ka_behind ba_less ba_full s.heap)
    (hl : lv_has ls 4 [(0, .ref qx), (1, .int x1), (2, .int x2)])
    (hw : q_wx_X10_order_0 ta_counts tc0f_voices tc1f_voices x1 x2 post) :
    W p l e rm_wx_X10_order s m args below meth c s.heap [] 0 0 (MQ below (vp_Si post) args s 0 0 (fun _ => False)) (F0 m 0 ls []) := by
  have hx := zc.1
  have hb := zc.2.1
  refine lv_aload_n hx hb dX10_order_0 rfl (lv_at hl 0 rfl) ?_
  refine lv_iload_n hx hb dX10_order_1 rfl (lv_at hl 1 rfl) ?_
  refine zV_r [.int x1] [] zc ky_X10_choirAt kz_X10_choirAt km_10_219 (c_wx_X10_choirAt l hw) (wxPreV0 hK hM) rfl rfl hl.1 (Nat.le_of_ble_eq_true rfl) ⟨rfl, rfl⟩ ⟨Nat.le_of_ble_eq_true rfl, Nat.le_of_ble_eq_true rfl⟩ ⟨(Nat.zero_le _), (Nat.zero_le _)⟩ dX10_order_2 (fun r_1 hw => ?_)
  by_cases hc0 : r_1 = 0
  · have hw := hw.1 hc0
    refine W.eq (g2 := F0 m 5 ls (.null :: [])) (by simp [hc0]) ?_
    refine lv_astore_nN (lv' := [(3, .null), (0, .ref qx), (1, .int x1), (2, .int x2)]) hx hb dX10_order_5 rfl hl (by decide) rfl (fun ls hl => ?_)
    refine lv_aload_nN hx hb dX10_order_6 rfl (lv_at hl 0 rfl) ?_
    refine lv_ifnullN (tgt := 22) hx hb dX10_order_7 (by decide) ?_
    refine lv_iconst (v := (-1 : Int32)) hx hb dX10_order_22 (by decide) ?_
    exact zret_i zc hw dX10_order_23
  by_cases hc1 : r_1 = 1
  · have hw := hw.2.1 hc1
    refine W.eq (g2 := F0 m 5 ls (.ref (qx + 45) :: [])) (by simp [hc0, hc1]) ?_
    refine lv_astore_n (lv' := [(3, .ref (qx + 45)), (0, .ref qx), (1, .int x1), (2, .int x2)]) hx hb dX10_order_5 rfl hl (by decide) rfl (fun ls hl => ?_)
    refine lv_aload_n hx hb dX10_order_6 rfl (lv_at hl 0 rfl) ?_
    refine lv_ifnull hx hb dX10_order_7 ?_
    refine lv_iload_n hx hb dX10_order_10 rfl (lv_at hl 3 rfl) ?_
    refine lv_if_lt (tgt := 22) hx hb dX10_order_11 (by decide) (fun hc => ?_) (fun hc => ?_)
    · have hw := hw.1 hc
      refine lv_iconst (v := (-1 : Int32)) hx hb dX10_order_22 (by decide) ?_
      exact zret_i zc hw dX10_order_23
    · have hw := hw.2 hc
      refine lv_iload_n hx hb dX10_order_14 rfl (lv_at hl 3 rfl) ?_
      refine lv_aload_n hx hb dX10_order_15 rfl (lv_at hl 0 rfl) ?_
      refine wxg_10_238_45 zc hK hM dX10_order_16 ?_
      refine lv_icmp_lt (tgt := 24) hx hb dX10_order_19 (by decide) (fun hc => ?_) (fun hc => ?_)
      · have hw := hw.1 hc
        refine lv_aload_n hx hb dX10_order_24 rfl (lv_at hl 1 rfl) ?_
        refine wxg_10_44_0 zc hK hM dX10_order_25 ?_
        refine lv_aload_n hx hb dX10_order_28 rfl (lv_at hl 0 rfl) ?_
        exact hw.elim
      · have hw := hw.2 hc
        refine lv_iconst (v := (-1 : Int32)) hx hb dX10_order_22 (by decide) ?_
        exact zret_i zc hw dX10_order_23
  have hw := hw.2.2 hc0 hc1
  refine W.eq (g2 := F0 m 5 ls (.ref (qx + 42) :: [])) (by simp [hc0, hc1]) ?_
  refine lv_astore_n (lv' := [(3, .ref (qx + 42)), (0, .ref qx), (1, .int x1), (2, .int x2)]) hx hb dX10_order_5 rfl hl (by decide) rfl (fun ls hl => ?_)
  refine lv_aload_n hx hb dX10_order_6 rfl (lv_at hl 0 rfl) ?_
  refine lv_ifnull hx hb dX10_order_7 ?_
  refine lv_iload_n hx hb dX10_order_10 rfl (lv_at hl 3 rfl) ?_
  refine lv_if_lt (tgt := 22) hx hb dX10_order_11 (by decide) (fun hc => ?_) (fun hc => ?_)
  · have hw := hw.1 hc
    refine lv_iconst (v := (-1 : Int32)) hx hb dX10_order_22 (by decide) ?_
    exact zret_i zc hw dX10_order_23
  · have hw := hw.2 hc
    refine lv_iload_n hx hb dX10_order_14 rfl (lv_at hl 3 rfl) ?_
    refine lv_aload_n hx hb dX10_order_15 rfl (lv_at hl 0 rfl) ?_
    refine wxg_10_238_42 zc hK hM dX10_order_16 ?_
    refine lv_icmp_lt (tgt := 24) hx hb dX10_order_19 (by decide) (fun hc => ?_) (fun hc => ?_)
    · have hw := hw.1 hc
      refine lv_aload_n hx hb dX10_order_24 rfl (lv_at hl 1 rfl) ?_
      refine wxg_10_44_0 zc hK hM dX10_order_25 ?_
      refine lv_aload_n hx hb dX10_order_28 rfl (lv_at hl 0 rfl) ?_
      exact hw.elim
    · have hw := hw.2 hc
      refine lv_iconst (v := (-1 : Int32)) hx hb dX10_order_22 (by decide) ?_
      exact zret_i zc hw dX10_order_23
set_option maxRecDepth 20000 in
theorem c_wx_X10_order (l : Launch) {E : zE} {qx : Nat} {ta_tape : Nat → Int32} {tf_length : Int32} {tf_fault : Int32} {tf_place : Int32} {ta_counts : Nat → Int32} {tl0f_huts : Int32} {tl0f_singers : Int32} {tl0f_villages : Int32} {tl0f_dams : Int32} {tl0f_echoes : Int32} {tl0f_deep : Int32} {tl0f_slide : Int32} {tl0a_heights : Nat → Int32} {tl0a_ladders : Nat → Int32} {tl0a_minutes : Nat → Int32} {tl0a_echoFrom : Nat → Int32} {tl0a_echoTo : Nat → Int32} {tl0a_homes : Nat → Int32} {tl0a_talls : Nat → Int32} {tl0a_known : Nat → Int32} {tl1f_huts : Int32} {tl1f_singers : Int32} {tl1f_villages : Int32} {tl1f_dams : Int32} {tl1f_echoes : Int32} {tl1f_deep : Int32} {tl1f_slide : Int32} {tl1a_heights : Nat → Int32} {tl1a_ladders : Nat → Int32} {tl1a_minutes : Nat → Int32} {tl1a_echoFrom : Nat → Int32} {tl1a_echoTo : Nat → Int32} {tl1a_homes : Nat → Int32} {tl1a_talls : Nat → Int32} {tl1a_known : Nat → Int32} {tv0f_deeds : Int32} {tv0a_kinds : Nat → Int32} {tv0a_firsts : Nat → Int32} {tv0a_seconds : Nat → Int32} {tv1f_deeds : Int32} {tv1a_kinds : Nat → Int32} {tv1a_firsts : Nat → Int32} {tv1a_seconds : Nat → Int32} {ts0f_facts : Int32} {ts0a_heard : Nat → Int32} {ts0a_huts : Nat → Int32} {ts0a_minutes : Nat → Int32} {ts1f_facts : Int32} {ts1a_heard : Nat → Int32} {ts1a_huts : Nat → Int32} {ts1a_minutes : Nat → Int32} {tc0f_voices : Int32} {tc0f_step : Int32} {tc0a_parts : Nat → Int32} {tc0a_heights : Nat → Int32} {tc1f_voices : Int32} {tc1f_step : Int32} {tc1a_parts : Nat → Int32} {tc1a_heights : Nat → Int32} {m_images : Nat → Option Nat} {rlf_huts : Int32} {rlf_singers : Int32} {rlf_villages : Int32} {rlf_dams : Int32} {rlf_echoes : Int32} {rlf_deep : Int32} {rlf_slide : Int32} {rla_heights : Nat → Int32} {rla_ladders : Nat → Int32} {rla_minutes : Nat → Int32} {rla_echoFrom : Nat → Int32} {rla_echoTo : Nat → Int32} {rla_homes : Nat → Int32} {rla_talls : Nat → Int32} {rla_known : Nat → Int32} {rvf_deeds : Int32} {rva_kinds : Nat → Int32} {rva_firsts : Nat → Int32} {rva_seconds : Nat → Int32} {rsf_facts : Int32} {rsa_heard : Nat → Int32} {rsa_huts : Nat → Int32} {rsa_minutes : Nat → Int32} {rcf_voices : Int32} {rcf_step : Int32} {rca_parts : Nat → Int32} {rca_heights : Nat → Int32} {rf_fault : Int32} {rf_faultPlace : Int32} {ra_numbers : Nat → Int32} {ra_tape : Nat → Int32} {rf_length : Int32} {rf_behind : Int32} {rf_kind : Int32} {rf_first : Int32} {rf_value : Int32} {rf_hutsToldOf : Int32} {rf_singersToldOf : Int32} {nf_minute : Int32} {nf_avalanches : Int32} {nf_begun : Int32} {nf_climbed : Int32} {nf_seed : Int32} {na_huts : Nat → Int32} {na_known : Nat → Int32} {na_levels : Nat → Int32} {na_snow : Nat → Int32} {na_open : Nat → Int32} {pa_heard : Nat → Int32} {pa_walked : Nat → Int32} {pa_total : Nat → Int32} {pa_longest : Nat → Int32} {pa_next : Nat → Int32} {pa_cover : Nat → Int32} {pa_now : Nat → Int32} {pa_then : Nat → Int32} {ko_stands : Option Nat} {ka_gaps : Nat → Int32} {ka_behind : Nat → Int32} {ba_less : Nat → Int32} {ba_full : Nat → Int32} {x1 : Int32} {x2 : Int32} {post : Int32 → Prop} (hw : q_wx_X10_order_0 ta_counts tc0f_voices tc1f_voices x1 x2 post) : Met l yX10_order (Cond.code yX10_order cX10_order 4 (some .int) :: zb) rm_wx_X10_order (va_Pc [.ref qx, .int x1, .int x2] (fun U => wxW E qx ta_tape tf_length tf_fault tf_place ta_counts tl0f_huts tl0f_singers tl0f_villages tl0f_dams tl0f_echoes tl0f_deep tl0f_slide tl0a_heights tl0a_ladders tl0a_minutes tl0a_echoFrom tl0a_echoTo tl0a_homes tl0a_talls tl0a_known tl1f_huts tl1f_singers tl1f_villages tl1f_dams tl1f_echoes tl1f_deep tl1f_slide tl1a_heights tl1a_ladders tl1a_minutes tl1a_echoFrom tl1a_echoTo tl1a_homes tl1a_talls tl1a_known tv0f_deeds tv0a_kinds tv0a_firsts tv0a_seconds tv1f_deeds tv1a_kinds tv1a_firsts tv1a_seconds ts0f_facts ts0a_heard ts0a_huts ts0a_minutes ts1f_facts ts1a_heard ts1a_huts ts1a_minutes tc0f_voices tc0f_step tc0a_parts tc0a_heights tc1f_voices tc1f_step tc1a_parts tc1a_heights m_images rlf_huts rlf_singers rlf_villages rlf_dams rlf_echoes rlf_deep rlf_slide rla_heights rla_ladders rla_minutes rla_echoFrom rla_echoTo rla_homes rla_talls rla_known rvf_deeds rva_kinds rva_firsts rva_seconds rsf_facts rsa_heard rsa_huts rsa_minutes rcf_voices rcf_step rca_parts rca_heights rf_fault rf_faultPlace ra_numbers ra_tape rf_length rf_behind rf_kind rf_first rf_value rf_hutsToldOf rf_singersToldOf nf_minute nf_avalanches nf_begun nf_climbed nf_seed na_huts na_known na_levels na_snow na_open pa_heard pa_walked pa_total pa_longest pa_next pa_cover pa_now pa_then ko_stands ka_gaps ka_behind ba_less ba_full U.heap ∧ zK E U)) (vp_Si post) 0 0 (fun _ => False) := by
  refine Met.ofW (cc := cX10_order) (maxL := 4) (ret := (some .int)) (by decide) rfl ?_
  intro p e s m args below meth c s₁ B hml hv
  obtain ⟨rfl, hM, hK⟩ := hv
  have zc := zc_of B hml
  have hl := lv_entry ([.ref qx, .int x1, .int x2]) (n := 4) (Nat.le_of_ble_eq_true rfl)
  rw [lg_entry_eq]
  generalize (lg_sl ([.ref qx, .int x1, .int x2]) ++ List.replicate (4 - (lg_sl ([.ref qx, .int x1, .int x2])).length) Slot.unset).toArray = ls at hl ⊢
  have hl : lv_has ls 4 [(0, .ref qx), (1, .int x1), (2, .int x2)] := hl
  exact t_wx_X10_order_0 zc hK hM (lv_sub hl [0, 1, 2] rfl) hw
-- wx_X10_trade
abbrev rm_wx_X10_trade : Room := { frames := 2, cells := 0, slots := 0, locals := 65 }
def q_wx_X10_trade_0 (ba_less : Nat → Int32) (ba_full : Nat → Int32) (x1 : Int32) (x2 : Int32) (x3 : Int32) (x4 : Int32) (post : Int32 → (Nat → Int32) → (Nat → Int32) → Prop) : Prop :=
  (x1 < 0 → (post (-2 : Int32) ba_less ba_full)) ∧ (¬ x1 < 0 → (((60 : Int32) < x1 → (post (-2 : Int32) ba_less ba_full)) ∧ (¬ (60 : Int32) < x1 → ((x2 < 0 → (post (-2 : Int32) ba_less ba_full)) ∧ (¬ x2 < 0 → (((60 : Int32) < x2 → (post (-2 : Int32) ba_less ba_full)) ∧ (¬ (60 : Int32) < x2 → ((x3 < (1 : Int32) → (post (-2 : Int32) ba_less ba_full)) ∧ (¬ x3 < (1 : Int32) → ((x3 ≤ (9 : Int32) → (q_wb_X8_lay_0 ba_less ba_full x1 x2 x3 (fun ba_less_1 ba_full_1 => q_wb_X8_firstTake_0 ba_less_1 ba_full_1 x1 x2 x3 (fun r_1 => (x4 = 0 → ((¬ r_1 = (-1 : Int32) → (post (1 : Int32) ba_less_1 ba_full_1)) ∧ (r_1 = (-1 : Int32) → (post (0 : Int32) ba_less_1 ba_full_1)))) ∧ (¬ x4 = 0 → (post r_1 ba_less_1 ba_full_1)))))) ∧ (¬ x3 ≤ (9 : Int32) → (post (-2 : Int32) ba_less ba_full))))))))))))
set_option maxRecDepth 20000 in
theorem t_wx_X10_trade_0 {p : Program} {l : Launch} {e : Env} {s : State} {m : MethodId} {args : Array Value} {below : List Frame} {meth : Method} {c : Code} {E : zE} {qx : Nat} {ta_tape : Nat → Int32} {tf_length : Int32} {tf_fault : Int32} {tf_place : Int32} {ta_counts : Nat → Int32} {tl0f_huts : Int32} {tl0f_singers : Int32} {tl0f_villages : Int32} {tl0f_dams : Int32} {tl0f_echoes : Int32} {tl0f_deep : Int32} {tl0f_slide : Int32} {tl0a_heights : Nat → Int32} {tl0a_ladders : Nat → Int32} {tl0a_minutes : Nat → Int32} {tl0a_echoFrom : Nat → Int32} {tl0a_echoTo : Nat → Int32} {tl0a_homes : Nat → Int32} {tl0a_talls : Nat → Int32} {tl0a_known : Nat → Int32} {tl1f_huts : Int32} {tl1f_singers : Int32} {tl1f_villages : Int32} {tl1f_dams : Int32} {tl1f_echoes : Int32} {tl1f_deep : Int32} {tl1f_slide : Int32} {tl1a_heights : Nat → Int32} {tl1a_ladders : Nat → Int32} {tl1a_minutes : Nat → Int32} {tl1a_echoFrom : Nat → Int32} {tl1a_echoTo : Nat → Int32} {tl1a_homes : Nat → Int32} {tl1a_talls : Nat → Int32} {tl1a_known : Nat → Int32} {tv0f_deeds : Int32} {tv0a_kinds : Nat → Int32} {tv0a_firsts : Nat → Int32} {tv0a_seconds : Nat → Int32} {tv1f_deeds : Int32} {tv1a_kinds : Nat → Int32} {tv1a_firsts : Nat → Int32} {tv1a_seconds : Nat → Int32} {ts0f_facts : Int32} {ts0a_heard : Nat → Int32} {ts0a_huts : Nat → Int32} {ts0a_minutes : Nat → Int32} {ts1f_facts : Int32} {ts1a_heard : Nat → Int32} {ts1a_huts : Nat → Int32} {ts1a_minutes : Nat → Int32} {tc0f_voices : Int32} {tc0f_step : Int32} {tc0a_parts : Nat → Int32} {tc0a_heights : Nat → Int32} {tc1f_voices : Int32} {tc1f_step : Int32} {tc1a_parts : Nat → Int32} {tc1a_heights : Nat → Int32} {m_images : Nat → Option Nat} {rlf_huts : Int32} {rlf_singers : Int32} {rlf_villages : Int32} {rlf_dams : Int32} {rlf_echoes : Int32} {rlf_deep : Int32} {rlf_slide : Int32} {rla_heights : Nat → Int32} {rla_ladders : Nat → Int32} {rla_minutes : Nat → Int32} {rla_echoFrom : Nat → Int32} {rla_echoTo : Nat → Int32} {rla_homes : Nat → Int32} {rla_talls : Nat → Int32} {rla_known : Nat → Int32} {rvf_deeds : Int32} {rva_kinds : Nat → Int32} {rva_firsts : Nat → Int32} {rva_seconds : Nat → Int32} {rsf_facts : Int32} {rsa_heard : Nat → Int32} {rsa_huts : Nat → Int32} {rsa_minutes : Nat → Int32} {rcf_voices : Int32} {rcf_step : Int32} {rca_parts : Nat → Int32} {rca_heights : Nat → Int32} {rf_fault : Int32} {rf_faultPlace : Int32} {ra_numbers : Nat → Int32} {ra_tape : Nat → Int32} {rf_length : Int32} {rf_behind : Int32} {rf_kind : Int32} {rf_first : Int32} {rf_value : Int32} {rf_hutsToldOf : Int32} {rf_singersToldOf : Int32} {nf_minute : Int32} {nf_avalanches : Int32} {nf_begun : Int32} {nf_climbed : Int32} {nf_seed : Int32} {na_huts : Nat → Int32} {na_known : Nat → Int32} {na_levels : Nat → Int32} {na_snow : Nat → Int32} {na_open : Nat → Int32} {pa_heard : Nat → Int32} {pa_walked : Nat → Int32} {pa_total : Nat → Int32} {pa_longest : Nat → Int32} {pa_next : Nat → Int32} {pa_cover : Nat → Int32} {pa_now : Nat → Int32} {pa_then : Nat → Int32} {ko_stands : Option Nat} {ka_gaps : Nat → Int32} {ka_behind : Nat → Int32} {ba_less : Nat → Int32} {ba_full : Nat → Int32} {post : Int32 → (Nat → Int32) → (Nat → Int32) → Prop} {x1 : Int32} {x2 : Int32} {x3 : Int32} {x4 : Int32} {ls : Array Slot} {H : Heap} {locs : List Loc}
    (zc : zC p s m args meth c cX10_trade 6 RX10 (some .int))
    (hK : zK E s)
    (hM : wxW E qx ta_tape tf_length tf_fault tf_place ta_counts tl0f_huts tl0f_singers tl0f_villages tl0f_dams tl0f_echoes tl0f_deep tl0f_slide tl0a_heights tl0a_ladders tl0a_minutes tl0a_echoFrom tl0a_echoTo tl0a_homes tl0a_talls tl0a_known tl1f_huts tl1f_singers tl1f_villages tl1f_dams tl1f_echoes tl1f_deep tl1f_slide tl1a_heights tl1a_ladders tl1a_minutes tl1a_echoFrom tl1a_echoTo tl1a_homes tl1a_talls tl1a_known tv0f_deeds tv0a_kinds tv0a_firsts tv0a_seconds tv1f_deeds tv1a_kinds tv1a_firsts tv1a_seconds ts0f_facts ts0a_heard ts0a_huts ts0a_minutes ts1f_facts ts1a_heard ts1a_huts ts1a_minutes tc0f_voices tc0f_step tc0a_parts tc0a_heights tc1f_voices tc1f_step tc1a_parts tc1a_heights m_images rlf_huts rlf_singers rlf_villages rlf_dams rlf_echoes rlf_deep rlf_slide rla_heights rla_ladders rla_minutes rla_echoFrom rla_echoTo rla_homes rla_talls rla_known rvf_deeds rva_kinds rva_firsts rva_seconds rsf_facts rsa_heard rsa_huts rsa_minutes rcf_voices rcf_step rca_parts rca_heights rf_fault rf_faultPlace ra_numbers ra_tape rf_length rf_behind rf_kind rf_first rf_value rf_hutsToldOf rf_singersToldOf nf_minute nf_avalanches nf_begun nf_climbed nf_seed na_huts na_known na_levels na_snow na_open pa_heard pa_walked pa_total pa_longest pa_next pa_cover pa_now pa_then ko_stands ka_gaps ka_behind ba_less ba_full H)
    (hS : va_S (wxA qx) s.heap H locs)
    (hl : lv_has ls 6 [(0, .ref qx), (1, .int x1), (2, .int x2), (3, .int x3), (4, .int x4)])
    (hw : q_wx_X10_trade_0 ba_less ba_full x1 x2 x3 x4 post) :
    W p l e rm_wx_X10_trade s m args below meth c H locs 0 0 (MQ below (zQi (S := (Nat → Int32) × (Nat → Int32)) (fun r u => post r u.1 u.2) (fun u H => wxW E qx ta_tape tf_length tf_fault tf_place ta_counts tl0f_huts tl0f_singers tl0f_villages tl0f_dams tl0f_echoes tl0f_deep tl0f_slide tl0a_heights tl0a_ladders tl0a_minutes tl0a_echoFrom tl0a_echoTo tl0a_homes tl0a_talls tl0a_known tl1f_huts tl1f_singers tl1f_villages tl1f_dams tl1f_echoes tl1f_deep tl1f_slide tl1a_heights tl1a_ladders tl1a_minutes tl1a_echoFrom tl1a_echoTo tl1a_homes tl1a_talls tl1a_known tv0f_deeds tv0a_kinds tv0a_firsts tv0a_seconds tv1f_deeds tv1a_kinds tv1a_firsts tv1a_seconds ts0f_facts ts0a_heard ts0a_huts ts0a_minutes ts1f_facts ts1a_heard ts1a_huts ts1a_minutes tc0f_voices tc0f_step tc0a_parts tc0a_heights tc1f_voices tc1f_step tc1a_parts tc1a_heights m_images rlf_huts rlf_singers rlf_villages rlf_dams rlf_echoes rlf_deep rlf_slide rla_heights rla_ladders rla_minutes rla_echoFrom rla_echoTo rla_homes rla_talls rla_known rvf_deeds rva_kinds rva_firsts rva_seconds rsf_facts rsa_heard rsa_huts rsa_minutes rcf_voices rcf_step rca_parts rca_heights rf_fault rf_faultPlace ra_numbers ra_tape rf_length rf_behind rf_kind rf_first rf_value rf_hutsToldOf rf_singersToldOf nf_minute nf_avalanches nf_begun nf_climbed nf_seed na_huts na_known na_levels na_snow na_open pa_heard pa_walked pa_total pa_longest pa_next pa_cover pa_now pa_then ko_stands ka_gaps ka_behind u.1 u.2 H) (wxA qx)) args s 0 0 (wxA qx)) (F0 m 0 ls []) := by
  have hx := zc.1
  have hb := zc.2.1
  refine lv_iload_n hx hb dX10_trade_0 rfl (lv_at hl 1 rfl) ?_
  refine lv_if_lt (tgt := 31) hx hb dX10_trade_1 (by decide) (fun hc => ?_) (fun hc => ?_)
  · have hw := hw.1 hc
    refine lv_bipush (v := (-2 : Int32)) hx hb dX10_trade_31 (by decide) ?_
    exact zret_iw ⟨ba_less, ba_full⟩ zc hS hw hM dX10_trade_33
  · have hw := hw.2 hc
    refine lv_iload_n hx hb dX10_trade_4 rfl (lv_at hl 1 rfl) ?_
    refine lv_bipush (v := (60 : Int32)) hx hb dX10_trade_5 (by decide) ?_
    refine lv_icmp_gt (tgt := 31) hx hb dX10_trade_7 (by decide) (fun hc => ?_) (fun hc => ?_)
    · have hw := hw.1 hc
      refine lv_bipush (v := (-2 : Int32)) hx hb dX10_trade_31 (by decide) ?_
      exact zret_iw ⟨ba_less, ba_full⟩ zc hS hw hM dX10_trade_33
    · have hw := hw.2 hc
      refine lv_iload_n hx hb dX10_trade_10 rfl (lv_at hl 2 rfl) ?_
      refine lv_if_lt (tgt := 31) hx hb dX10_trade_11 (by decide) (fun hc => ?_) (fun hc => ?_)
      · have hw := hw.1 hc
        refine lv_bipush (v := (-2 : Int32)) hx hb dX10_trade_31 (by decide) ?_
        exact zret_iw ⟨ba_less, ba_full⟩ zc hS hw hM dX10_trade_33
      · have hw := hw.2 hc
        refine lv_iload_n hx hb dX10_trade_14 rfl (lv_at hl 2 rfl) ?_
        refine lv_bipush (v := (60 : Int32)) hx hb dX10_trade_15 (by decide) ?_
        refine lv_icmp_gt (tgt := 31) hx hb dX10_trade_17 (by decide) (fun hc => ?_) (fun hc => ?_)
        · have hw := hw.1 hc
          refine lv_bipush (v := (-2 : Int32)) hx hb dX10_trade_31 (by decide) ?_
          exact zret_iw ⟨ba_less, ba_full⟩ zc hS hw hM dX10_trade_33
        · have hw := hw.2 hc
          refine lv_iload_n hx hb dX10_trade_20 rfl (lv_at hl 3 rfl) ?_
          refine lv_iconst (v := (1 : Int32)) hx hb dX10_trade_21 (by decide) ?_
          refine lv_icmp_lt (tgt := 31) hx hb dX10_trade_22 (by decide) (fun hc => ?_) (fun hc => ?_)
          · have hw := hw.1 hc
            refine lv_bipush (v := (-2 : Int32)) hx hb dX10_trade_31 (by decide) ?_
            exact zret_iw ⟨ba_less, ba_full⟩ zc hS hw hM dX10_trade_33
          · have hw := hw.2 hc
            refine lv_iload_n hx hb dX10_trade_25 rfl (lv_at hl 3 rfl) ?_
            refine lv_bipush (v := (9 : Int32)) hx hb dX10_trade_26 (by decide) ?_
            refine lv_icmp_le (tgt := 34) hx hb dX10_trade_28 (by decide) (fun hc => ?_) (fun hc => ?_)
            · have hw := hw.1 hc
              refine lv_aload_n hx hb dX10_trade_34 rfl (lv_at hl 0 rfl) ?_
              refine wxg_10_51_0 zc hK hM dX10_trade_35 ?_
              refine lv_iload_n hx hb dX10_trade_38 rfl (lv_at hl 1 rfl) ?_
              refine lv_iload_n hx hb dX10_trade_39 rfl (lv_at hl 2 rfl) ?_
              refine lv_iload_n hx hb dX10_trade_40 rfl (lv_at hl 3 rfl) ?_
              refine zVx_v [.int x1, .int x2, .int x3] [] zc ky_X8_lay kz_X8_lay km_10_245 (c_wb_X8_lay l hw) (wbPreV0 hK (pj_wx_wb_90 hM)) hS (sb_wx_wb_90) rfl rfl hl.1 (Nat.le_of_ble_eq_true rfl) ⟨rfl, rfl⟩ ⟨Nat.le_of_ble_eq_true rfl, Nat.le_of_ble_eq_true rfl⟩ ⟨(Nat.zero_le _), (Nat.zero_le _)⟩ dX10_trade_41 (fun u H1 locs1 hw hM1 hk hS => ?_)
              obtain ⟨ba_less_1, ba_full_1⟩ := u
              have hM := jn_wx_wb_90 hM hM1 hk
              refine lv_aload_n hx hb dX10_trade_44 rfl (lv_at hl 0 rfl) ?_
              refine wxg_10_51_0 zc hK hM dX10_trade_45 ?_
              refine lv_iload_n hx hb dX10_trade_48 rfl (lv_at hl 1 rfl) ?_
              refine lv_iload_n hx hb dX10_trade_49 rfl (lv_at hl 2 rfl) ?_
              refine lv_iload_n hx hb dX10_trade_50 rfl (lv_at hl 3 rfl) ?_
              refine zV_i [.int x1, .int x2, .int x3] [] zc ky_X8_firstTake kz_X8_firstTake km_10_249 (c_wb_X8_firstTake l hw) (wbPreV0 hK (pj_wx_wb_90 hM)) rfl rfl hl.1 (Nat.le_of_ble_eq_true rfl) ⟨rfl, rfl⟩ ⟨Nat.le_of_ble_eq_true rfl, Nat.le_of_ble_eq_true rfl⟩ ⟨(Nat.zero_le _), (Nat.zero_le _)⟩ dX10_trade_51 (fun r_1 hw => ?_)
              refine lv_istore (lv' := [(5, .int r_1), (0, .ref qx), (1, .int x1), (2, .int x2), (3, .int x3), (4, .int x4)]) hx hb dX10_trade_54 hl (by decide) rfl (fun ls hl => ?_)
              refine lv_iload hx hb dX10_trade_56 (lv_at hl 5 rfl) ?_
              refine lv_if_eq (tgt := 64) hx hb dX10_trade_58 (by decide) (fun hc => ?_) (fun hc => ?_)
              · have hw := hw.1 hc
                refine lv_iload hx hb dX10_trade_64 (lv_at hl 0 rfl) ?_
                refine lv_iconst (v := (-1 : Int32)) hx hb dX10_trade_66 (by decide) ?_
                refine lv_icmp_ne (tgt := 74) hx hb dX10_trade_67 (by decide) (fun hc => ?_) (fun hc => ?_)
                · have hw := hw.1 hc
                  refine lv_iconst (v := (1 : Int32)) hx hb dX10_trade_74 (by decide) ?_
                  exact zret_iw ⟨ba_less_1, ba_full_1⟩ zc hS hw hM dX10_trade_75
                · have hw := hw.2 hc
                  refine lv_iconst (v := (0 : Int32)) hx hb dX10_trade_70 (by decide) ?_
                  refine lv_goto (tgt := 75) hx hb dX10_trade_71 (by decide) ?_
                  exact zret_iw ⟨ba_less_1, ba_full_1⟩ zc hS hw hM dX10_trade_75
              · have hw := hw.2 hc
                refine lv_iload hx hb dX10_trade_61 (lv_at hl 0 rfl) ?_
                exact zret_iw ⟨ba_less_1, ba_full_1⟩ zc hS hw hM dX10_trade_63
            · have hw := hw.2 hc
              refine lv_bipush (v := (-2 : Int32)) hx hb dX10_trade_31 (by decide) ?_
              exact zret_iw ⟨ba_less, ba_full⟩ zc hS hw hM dX10_trade_33
set_option maxRecDepth 20000 in
theorem c_wx_X10_trade (l : Launch) {E : zE} {qx : Nat} {ta_tape : Nat → Int32} {tf_length : Int32} {tf_fault : Int32} {tf_place : Int32} {ta_counts : Nat → Int32} {tl0f_huts : Int32} {tl0f_singers : Int32} {tl0f_villages : Int32} {tl0f_dams : Int32} {tl0f_echoes : Int32} {tl0f_deep : Int32} {tl0f_slide : Int32} {tl0a_heights : Nat → Int32} {tl0a_ladders : Nat → Int32} {tl0a_minutes : Nat → Int32} {tl0a_echoFrom : Nat → Int32} {tl0a_echoTo : Nat → Int32} {tl0a_homes : Nat → Int32} {tl0a_talls : Nat → Int32} {tl0a_known : Nat → Int32} {tl1f_huts : Int32} {tl1f_singers : Int32} {tl1f_villages : Int32} {tl1f_dams : Int32} {tl1f_echoes : Int32} {tl1f_deep : Int32} {tl1f_slide : Int32} {tl1a_heights : Nat → Int32} {tl1a_ladders : Nat → Int32} {tl1a_minutes : Nat → Int32} {tl1a_echoFrom : Nat → Int32} {tl1a_echoTo : Nat → Int32} {tl1a_homes : Nat → Int32} {tl1a_talls : Nat → Int32} {tl1a_known : Nat → Int32} {tv0f_deeds : Int32} {tv0a_kinds : Nat → Int32} {tv0a_firsts : Nat → Int32} {tv0a_seconds : Nat → Int32} {tv1f_deeds : Int32} {tv1a_kinds : Nat → Int32} {tv1a_firsts : Nat → Int32} {tv1a_seconds : Nat → Int32} {ts0f_facts : Int32} {ts0a_heard : Nat → Int32} {ts0a_huts : Nat → Int32} {ts0a_minutes : Nat → Int32} {ts1f_facts : Int32} {ts1a_heard : Nat → Int32} {ts1a_huts : Nat → Int32} {ts1a_minutes : Nat → Int32} {tc0f_voices : Int32} {tc0f_step : Int32} {tc0a_parts : Nat → Int32} {tc0a_heights : Nat → Int32} {tc1f_voices : Int32} {tc1f_step : Int32} {tc1a_parts : Nat → Int32} {tc1a_heights : Nat → Int32} {m_images : Nat → Option Nat} {rlf_huts : Int32} {rlf_singers : Int32} {rlf_villages : Int32} {rlf_dams : Int32} {rlf_echoes : Int32} {rlf_deep : Int32} {rlf_slide : Int32} {rla_heights : Nat → Int32} {rla_ladders : Nat → Int32} {rla_minutes : Nat → Int32} {rla_echoFrom : Nat → Int32} {rla_echoTo : Nat → Int32} {rla_homes : Nat → Int32} {rla_talls : Nat → Int32} {rla_known : Nat → Int32} {rvf_deeds : Int32} {rva_kinds : Nat → Int32} {rva_firsts : Nat → Int32} {rva_seconds : Nat → Int32} {rsf_facts : Int32} {rsa_heard : Nat → Int32} {rsa_huts : Nat → Int32} {rsa_minutes : Nat → Int32} {rcf_voices : Int32} {rcf_step : Int32} {rca_parts : Nat → Int32} {rca_heights : Nat → Int32} {rf_fault : Int32} {rf_faultPlace : Int32} {ra_numbers : Nat → Int32} {ra_tape : Nat → Int32} {rf_length : Int32} {rf_behind : Int32} {rf_kind : Int32} {rf_first : Int32} {rf_value : Int32} {rf_hutsToldOf : Int32} {rf_singersToldOf : Int32} {nf_minute : Int32} {nf_avalanches : Int32} {nf_begun : Int32} {nf_climbed : Int32} {nf_seed : Int32} {na_huts : Nat → Int32} {na_known : Nat → Int32} {na_levels : Nat → Int32} {na_snow : Nat → Int32} {na_open : Nat → Int32} {pa_heard : Nat → Int32} {pa_walked : Nat → Int32} {pa_total : Nat → Int32} {pa_longest : Nat → Int32} {pa_next : Nat → Int32} {pa_cover : Nat → Int32} {pa_now : Nat → Int32} {pa_then : Nat → Int32} {ko_stands : Option Nat} {ka_gaps : Nat → Int32} {ka_behind : Nat → Int32} {ba_less : Nat → Int32} {ba_full : Nat → Int32} {x1 : Int32} {x2 : Int32} {x3 : Int32} {x4 : Int32} {post : Int32 → (Nat → Int32) → (Nat → Int32) → Prop} (hw : q_wx_X10_trade_0 ba_less ba_full x1 x2 x3 x4 post) : Met l yX10_trade (Cond.code yX10_trade cX10_trade 6 (some .int) :: zb) rm_wx_X10_trade (va_Pc [.ref qx, .int x1, .int x2, .int x3, .int x4] (fun U => wxW E qx ta_tape tf_length tf_fault tf_place ta_counts tl0f_huts tl0f_singers tl0f_villages tl0f_dams tl0f_echoes tl0f_deep tl0f_slide tl0a_heights tl0a_ladders tl0a_minutes tl0a_echoFrom tl0a_echoTo tl0a_homes tl0a_talls tl0a_known tl1f_huts tl1f_singers tl1f_villages tl1f_dams tl1f_echoes tl1f_deep tl1f_slide tl1a_heights tl1a_ladders tl1a_minutes tl1a_echoFrom tl1a_echoTo tl1a_homes tl1a_talls tl1a_known tv0f_deeds tv0a_kinds tv0a_firsts tv0a_seconds tv1f_deeds tv1a_kinds tv1a_firsts tv1a_seconds ts0f_facts ts0a_heard ts0a_huts ts0a_minutes ts1f_facts ts1a_heard ts1a_huts ts1a_minutes tc0f_voices tc0f_step tc0a_parts tc0a_heights tc1f_voices tc1f_step tc1a_parts tc1a_heights m_images rlf_huts rlf_singers rlf_villages rlf_dams rlf_echoes rlf_deep rlf_slide rla_heights rla_ladders rla_minutes rla_echoFrom rla_echoTo rla_homes rla_talls rla_known rvf_deeds rva_kinds rva_firsts rva_seconds rsf_facts rsa_heard rsa_huts rsa_minutes rcf_voices rcf_step rca_parts rca_heights rf_fault rf_faultPlace ra_numbers ra_tape rf_length rf_behind rf_kind rf_first rf_value rf_hutsToldOf rf_singersToldOf nf_minute nf_avalanches nf_begun nf_climbed nf_seed na_huts na_known na_levels na_snow na_open pa_heard pa_walked pa_total pa_longest pa_next pa_cover pa_now pa_then ko_stands ka_gaps ka_behind ba_less ba_full U.heap ∧ zK E U)) (zQi (S := (Nat → Int32) × (Nat → Int32)) (fun r u => post r u.1 u.2) (fun u H => wxW E qx ta_tape tf_length tf_fault tf_place ta_counts tl0f_huts tl0f_singers tl0f_villages tl0f_dams tl0f_echoes tl0f_deep tl0f_slide tl0a_heights tl0a_ladders tl0a_minutes tl0a_echoFrom tl0a_echoTo tl0a_homes tl0a_talls tl0a_known tl1f_huts tl1f_singers tl1f_villages tl1f_dams tl1f_echoes tl1f_deep tl1f_slide tl1a_heights tl1a_ladders tl1a_minutes tl1a_echoFrom tl1a_echoTo tl1a_homes tl1a_talls tl1a_known tv0f_deeds tv0a_kinds tv0a_firsts tv0a_seconds tv1f_deeds tv1a_kinds tv1a_firsts tv1a_seconds ts0f_facts ts0a_heard ts0a_huts ts0a_minutes ts1f_facts ts1a_heard ts1a_huts ts1a_minutes tc0f_voices tc0f_step tc0a_parts tc0a_heights tc1f_voices tc1f_step tc1a_parts tc1a_heights m_images rlf_huts rlf_singers rlf_villages rlf_dams rlf_echoes rlf_deep rlf_slide rla_heights rla_ladders rla_minutes rla_echoFrom rla_echoTo rla_homes rla_talls rla_known rvf_deeds rva_kinds rva_firsts rva_seconds rsf_facts rsa_heard rsa_huts rsa_minutes rcf_voices rcf_step rca_parts rca_heights rf_fault rf_faultPlace ra_numbers ra_tape rf_length rf_behind rf_kind rf_first rf_value rf_hutsToldOf rf_singersToldOf nf_minute nf_avalanches nf_begun nf_climbed nf_seed na_huts na_known na_levels na_snow na_open pa_heard pa_walked pa_total pa_longest pa_next pa_cover pa_now pa_then ko_stands ka_gaps ka_behind u.1 u.2 H) (wxA qx)) 0 0 (wxA qx) := by
  refine Met.ofW (cc := cX10_trade) (maxL := 6) (ret := (some .int)) (by decide) rfl ?_
  intro p e s m args below meth c s₁ B hml hv
  obtain ⟨rfl, hM, hK⟩ := hv
  have zc := zc_of B hml
  have hl := lv_entry ([.ref qx, .int x1, .int x2, .int x3, .int x4]) (n := 6) (Nat.le_of_ble_eq_true rfl)
  rw [lg_entry_eq]
  generalize (lg_sl ([.ref qx, .int x1, .int x2, .int x3, .int x4]) ++ List.replicate (6 - (lg_sl ([.ref qx, .int x1, .int x2, .int x3, .int x4])).length) Slot.unset).toArray = ls at hl ⊢
  have hl : lv_has ls 6 [(0, .ref qx), (1, .int x1), (2, .int x2), (3, .int x3), (4, .int x4)] := hl
  exact t_wx_X10_trade_0 zc hK hM va_S.rf (lv_sub hl [0, 1, 2, 3, 4] rfl) hw
-- wx_X10_odds
abbrev rm_wx_X10_odds : Room := { frames := 5, cells := 0, slots := 0, locals := 121 }
def q_wx_X10_odds_117 (ta_counts : Nat → Int32) (tl0f_huts : Int32) (tl0f_singers : Int32) (tl0f_dams : Int32) (tl0f_echoes : Int32) (tl0f_deep : Int32) (tl0f_slide : Int32) (tl0a_heights : Nat → Int32) (tl0a_ladders : Nat → Int32) (tl0a_minutes : Nat → Int32) (tl0a_echoFrom : Nat → Int32) (tl0a_echoTo : Nat → Int32) (tl0a_homes : Nat → Int32) (tl0a_talls : Nat → Int32) (tl0a_known : Nat → Int32) (tl1f_huts : Int32) (tl1f_singers : Int32) (tl1f_dams : Int32) (tl1f_echoes : Int32) (tl1f_deep : Int32) (tl1f_slide : Int32) (tl1a_heights : Nat → Int32) (tl1a_ladders : Nat → Int32) (tl1a_minutes : Nat → Int32) (tl1a_echoFrom : Nat → Int32) (tl1a_echoTo : Nat → Int32) (tl1a_homes : Nat → Int32) (tl1a_talls : Nat → Int32) (tl1a_known : Nat → Int32) (tv0f_deeds : Int32) (tv0a_kinds : Nat → Int32) (tv0a_firsts : Nat → Int32) (tv0a_seconds : Nat → Int32) (tv1f_deeds : Int32) (tv1a_kinds : Nat → Int32) (tv1a_firsts : Nat → Int32) (tv1a_seconds : Nat → Int32) (nf_minute : Int32) (nf_avalanches : Int32) (nf_begun : Int32) (nf_climbed : Int32) (na_huts : Nat → Int32) (na_known : Nat → Int32) (na_levels : Nat → Int32) (na_snow : Nat → Int32) (x6 : Int32) (y0 : Int32) (post : Int64 → (Int32) → (Int32) → (Int32) → (Int32) → (Nat → Int32) → (Nat → Int32) → (Nat → Int32) → (Nat → Int32) → Prop) : Prop :=
  ¬ x6 = 0 ∧ (q_z_X10_power_0 (y0 / x6) nf_avalanches (fun r_1 => post r_1 nf_minute nf_avalanches nf_begun nf_climbed na_huts na_known na_levels na_snow))
def q_wx_X10_odds_0 (ta_counts : Nat → Int32) (tl0f_huts : Int32) (tl0f_singers : Int32) (tl0f_dams : Int32) (tl0f_echoes : Int32) (tl0f_deep : Int32) (tl0f_slide : Int32) (tl0a_heights : Nat → Int32) (tl0a_ladders : Nat → Int32) (tl0a_minutes : Nat → Int32) (tl0a_echoFrom : Nat → Int32) (tl0a_echoTo : Nat → Int32) (tl0a_homes : Nat → Int32) (tl0a_talls : Nat → Int32) (tl0a_known : Nat → Int32) (tl1f_huts : Int32) (tl1f_singers : Int32) (tl1f_dams : Int32) (tl1f_echoes : Int32) (tl1f_deep : Int32) (tl1f_slide : Int32) (tl1a_heights : Nat → Int32) (tl1a_ladders : Nat → Int32) (tl1a_minutes : Nat → Int32) (tl1a_echoFrom : Nat → Int32) (tl1a_echoTo : Nat → Int32) (tl1a_homes : Nat → Int32) (tl1a_talls : Nat → Int32) (tl1a_known : Nat → Int32) (tv0f_deeds : Int32) (tv0a_kinds : Nat → Int32) (tv0a_firsts : Nat → Int32) (tv0a_seconds : Nat → Int32) (tv1f_deeds : Int32) (tv1a_kinds : Nat → Int32) (tv1a_firsts : Nat → Int32) (tv1a_seconds : Nat → Int32) (nf_minute : Int32) (nf_avalanches : Int32) (nf_begun : Int32) (nf_climbed : Int32) (na_huts : Nat → Int32) (na_known : Nat → Int32) (na_levels : Nat → Int32) (na_snow : Nat → Int32) (x1 : Int32) (x2 : Int32) (x3 : Int32) (post : Int64 → (Int32) → (Int32) → (Int32) → (Int32) → (Nat → Int32) → (Nat → Int32) → (Nat → Int32) → (Nat → Int32) → Prop) : Prop :=
  q_wx_X10_landAt_0 ta_counts x1 (fun r_1 => (r_1 = 0 → (q_wx_X10_eveningAt_0 ta_counts x2 (fun r_2 => (r_2 = 0 → (post (-1 : Int64) nf_minute nf_avalanches nf_begun nf_climbed na_huts na_known na_levels na_snow)) ∧ (r_2 = 1 → (post (-1 : Int64) nf_minute nf_avalanches nf_begun nf_climbed na_huts na_known na_levels na_snow)) ∧ (¬ r_2 = 0 → ¬ r_2 = 1 → (post (-1 : Int64) nf_minute nf_avalanches nf_begun nf_climbed na_huts na_known na_levels na_snow))))) ∧ (r_1 = 1 → (q_wx_X10_eveningAt_0 ta_counts x2 (fun r_3 => (r_3 = 0 → (post (-1 : Int64) nf_minute nf_avalanches nf_begun nf_climbed na_huts na_known na_levels na_snow)) ∧ (r_3 = 1 → ((x3 < 0 → (post (-1 : Int64) nf_minute nf_avalanches nf_begun nf_climbed na_huts na_known na_levels na_snow)) ∧ (¬ x3 < 0 → ((x3 ≤ (2 : Int32) → (q_wn_X3_play_6_15_0 nf_minute nf_avalanches nf_begun nf_climbed na_huts na_known na_levels na_snow tl1f_huts tl1f_singers tl1f_dams tl1f_echoes tl1f_deep tl1a_heights tl1a_ladders tl1a_minutes tl1a_echoFrom tl1a_echoTo tl1a_homes tl1a_talls tl1a_known tv1f_deeds tv1a_kinds tv1a_firsts tv1a_seconds tv1f_deeds (fun r_4 nf_minute_1 nf_avalanches_1 nf_begun_1 nf_climbed_1 na_huts_1 na_known_1 na_levels_1 na_snow_1 => (¬ x3 = (2 : Int32) → ((nf_avalanches_1 ≤ (18 : Int32) → (q_z_X10_sharedDivisor_0 tl1f_slide (fun r_5 => (¬ x3 = 0 → (q_wx_X10_odds_117 ta_counts tl0f_huts tl0f_singers tl0f_dams tl0f_echoes tl0f_deep tl0f_slide tl0a_heights tl0a_ladders tl0a_minutes tl0a_echoFrom tl0a_echoTo tl0a_homes tl0a_talls tl0a_known tl1f_huts tl1f_singers tl1f_dams tl1f_echoes tl1f_deep tl1f_slide tl1a_heights tl1a_ladders tl1a_minutes tl1a_echoFrom tl1a_echoTo tl1a_homes tl1a_talls tl1a_known tv0f_deeds tv0a_kinds tv0a_firsts tv0a_seconds tv1f_deeds tv1a_kinds tv1a_firsts tv1a_seconds nf_minute_1 nf_avalanches_1 nf_begun_1 nf_climbed_1 na_huts_1 na_known_1 na_levels_1 na_snow_1 r_5 (10 : Int32) post)) ∧ (x3 = 0 → (q_wx_X10_odds_117 ta_counts tl0f_huts tl0f_singers tl0f_dams tl0f_echoes tl0f_deep tl0f_slide tl0a_heights tl0a_ladders tl0a_minutes tl0a_echoFrom tl0a_echoTo tl0a_homes tl0a_talls tl0a_known tl1f_huts tl1f_singers tl1f_dams tl1f_echoes tl1f_deep tl1f_slide tl1a_heights tl1a_ladders tl1a_minutes tl1a_echoFrom tl1a_echoTo tl1a_homes tl1a_talls tl1a_known tv0f_deeds tv0a_kinds tv0a_firsts tv0a_seconds tv1f_deeds tv1a_kinds tv1a_firsts tv1a_seconds nf_minute_1 nf_avalanches_1 nf_begun_1 nf_climbed_1 na_huts_1 na_known_1 na_levels_1 na_snow_1 r_5 tl1f_slide post))))) ∧ (¬ nf_avalanches_1 ≤ (18 : Int32) → (post (-1 : Int64) nf_minute_1 nf_avalanches_1 nf_begun_1 nf_climbed_1 na_huts_1 na_known_1 na_levels_1 na_snow_1)))) ∧ (x3 = (2 : Int32) → (post (Int32.toInt64 (nf_avalanches_1 * ((10 : Int32) - tl1f_slide))) nf_minute_1 nf_avalanches_1 nf_begun_1 nf_climbed_1 na_huts_1 na_known_1 na_levels_1 na_snow_1))))) ∧ (¬ x3 ≤ (2 : Int32) → (post (-1 : Int64) nf_minute nf_avalanches nf_begun nf_climbed na_huts na_known na_levels na_snow)))))) ∧ (¬ r_3 = 0 → ¬ r_3 = 1 → ((x3 < 0 → (post (-1 : Int64) nf_minute nf_avalanches nf_begun nf_climbed na_huts na_known na_levels na_snow)) ∧ (¬ x3 < 0 → ((x3 ≤ (2 : Int32) → (q_wn_X3_play_6_15_0 nf_minute nf_avalanches nf_begun nf_climbed na_huts na_known na_levels na_snow tl1f_huts tl1f_singers tl1f_dams tl1f_echoes tl1f_deep tl1a_heights tl1a_ladders tl1a_minutes tl1a_echoFrom tl1a_echoTo tl1a_homes tl1a_talls tl1a_known tv0f_deeds tv0a_kinds tv0a_firsts tv0a_seconds tv0f_deeds (fun r_6 nf_minute_2 nf_avalanches_2 nf_begun_2 nf_climbed_2 na_huts_2 na_known_2 na_levels_2 na_snow_2 => (¬ x3 = (2 : Int32) → ((nf_avalanches_2 ≤ (18 : Int32) → (q_z_X10_sharedDivisor_0 tl1f_slide (fun r_7 => (¬ x3 = 0 → (q_wx_X10_odds_117 ta_counts tl0f_huts tl0f_singers tl0f_dams tl0f_echoes tl0f_deep tl0f_slide tl0a_heights tl0a_ladders tl0a_minutes tl0a_echoFrom tl0a_echoTo tl0a_homes tl0a_talls tl0a_known tl1f_huts tl1f_singers tl1f_dams tl1f_echoes tl1f_deep tl1f_slide tl1a_heights tl1a_ladders tl1a_minutes tl1a_echoFrom tl1a_echoTo tl1a_homes tl1a_talls tl1a_known tv0f_deeds tv0a_kinds tv0a_firsts tv0a_seconds tv1f_deeds tv1a_kinds tv1a_firsts tv1a_seconds nf_minute_2 nf_avalanches_2 nf_begun_2 nf_climbed_2 na_huts_2 na_known_2 na_levels_2 na_snow_2 r_7 (10 : Int32) post)) ∧ (x3 = 0 → (q_wx_X10_odds_117 ta_counts tl0f_huts tl0f_singers tl0f_dams tl0f_echoes tl0f_deep tl0f_slide tl0a_heights tl0a_ladders tl0a_minutes tl0a_echoFrom tl0a_echoTo tl0a_homes tl0a_talls tl0a_known tl1f_huts tl1f_singers tl1f_dams tl1f_echoes tl1f_deep tl1f_slide tl1a_heights tl1a_ladders tl1a_minutes tl1a_echoFrom tl1a_echoTo tl1a_homes tl1a_talls tl1a_known tv0f_deeds tv0a_kinds tv0a_firsts tv0a_seconds tv1f_deeds tv1a_kinds tv1a_firsts tv1a_seconds nf_minute_2 nf_avalanches_2 nf_begun_2 nf_climbed_2 na_huts_2 na_known_2 na_levels_2 na_snow_2 r_7 tl1f_slide post))))) ∧ (¬ nf_avalanches_2 ≤ (18 : Int32) → (post (-1 : Int64) nf_minute_2 nf_avalanches_2 nf_begun_2 nf_climbed_2 na_huts_2 na_known_2 na_levels_2 na_snow_2)))) ∧ (x3 = (2 : Int32) → (post (Int32.toInt64 (nf_avalanches_2 * ((10 : Int32) - tl1f_slide))) nf_minute_2 nf_avalanches_2 nf_begun_2 nf_climbed_2 na_huts_2 na_known_2 na_levels_2 na_snow_2))))) ∧ (¬ x3 ≤ (2 : Int32) → (post (-1 : Int64) nf_minute nf_avalanches nf_begun nf_climbed na_huts na_known na_levels na_snow))))))))) ∧ (¬ r_1 = 0 → ¬ r_1 = 1 → (q_wx_X10_eveningAt_0 ta_counts x2 (fun r_8 => (r_8 = 0 → (post (-1 : Int64) nf_minute nf_avalanches nf_begun nf_climbed na_huts na_known na_levels na_snow)) ∧ (r_8 = 1 → ((x3 < 0 → (post (-1 : Int64) nf_minute nf_avalanches nf_begun nf_climbed na_huts na_known na_levels na_snow)) ∧ (¬ x3 < 0 → ((x3 ≤ (2 : Int32) → (q_wn_X3_play_6_15_0 nf_minute nf_avalanches nf_begun nf_climbed na_huts na_known na_levels na_snow tl0f_huts tl0f_singers tl0f_dams tl0f_echoes tl0f_deep tl0a_heights tl0a_ladders tl0a_minutes tl0a_echoFrom tl0a_echoTo tl0a_homes tl0a_talls tl0a_known tv1f_deeds tv1a_kinds tv1a_firsts tv1a_seconds tv1f_deeds (fun r_9 nf_minute_3 nf_avalanches_3 nf_begun_3 nf_climbed_3 na_huts_3 na_known_3 na_levels_3 na_snow_3 => (¬ x3 = (2 : Int32) → ((nf_avalanches_3 ≤ (18 : Int32) → (q_z_X10_sharedDivisor_0 tl0f_slide (fun r_10 => (¬ x3 = 0 → (q_wx_X10_odds_117 ta_counts tl0f_huts tl0f_singers tl0f_dams tl0f_echoes tl0f_deep tl0f_slide tl0a_heights tl0a_ladders tl0a_minutes tl0a_echoFrom tl0a_echoTo tl0a_homes tl0a_talls tl0a_known tl1f_huts tl1f_singers tl1f_dams tl1f_echoes tl1f_deep tl1f_slide tl1a_heights tl1a_ladders tl1a_minutes tl1a_echoFrom tl1a_echoTo tl1a_homes tl1a_talls tl1a_known tv0f_deeds tv0a_kinds tv0a_firsts tv0a_seconds tv1f_deeds tv1a_kinds tv1a_firsts tv1a_seconds nf_minute_3 nf_avalanches_3 nf_begun_3 nf_climbed_3 na_huts_3 na_known_3 na_levels_3 na_snow_3 r_10 (10 : Int32) post)) ∧ (x3 = 0 → (q_wx_X10_odds_117 ta_counts tl0f_huts tl0f_singers tl0f_dams tl0f_echoes tl0f_deep tl0f_slide tl0a_heights tl0a_ladders tl0a_minutes tl0a_echoFrom tl0a_echoTo tl0a_homes tl0a_talls tl0a_known tl1f_huts tl1f_singers tl1f_dams tl1f_echoes tl1f_deep tl1f_slide tl1a_heights tl1a_ladders tl1a_minutes tl1a_echoFrom tl1a_echoTo tl1a_homes tl1a_talls tl1a_known tv0f_deeds tv0a_kinds tv0a_firsts tv0a_seconds tv1f_deeds tv1a_kinds tv1a_firsts tv1a_seconds nf_minute_3 nf_avalanches_3 nf_begun_3 nf_climbed_3 na_huts_3 na_known_3 na_levels_3 na_snow_3 r_10 tl0f_slide post))))) ∧ (¬ nf_avalanches_3 ≤ (18 : Int32) → (post (-1 : Int64) nf_minute_3 nf_avalanches_3 nf_begun_3 nf_climbed_3 na_huts_3 na_known_3 na_levels_3 na_snow_3)))) ∧ (x3 = (2 : Int32) → (post (Int32.toInt64 (nf_avalanches_3 * ((10 : Int32) - tl0f_slide))) nf_minute_3 nf_avalanches_3 nf_begun_3 nf_climbed_3 na_huts_3 na_known_3 na_levels_3 na_snow_3))))) ∧ (¬ x3 ≤ (2 : Int32) → (post (-1 : Int64) nf_minute nf_avalanches nf_begun nf_climbed na_huts na_known na_levels na_snow)))))) ∧ (¬ r_8 = 0 → ¬ r_8 = 1 → ((x3 < 0 → (post (-1 : Int64) nf_minute nf_avalanches nf_begun nf_climbed na_huts na_known na_levels na_snow)) ∧ (¬ x3 < 0 → ((x3 ≤ (2 : Int32) → (q_wn_X3_play_6_15_0 nf_minute nf_avalanches nf_begun nf_climbed na_huts na_known na_levels na_snow tl0f_huts tl0f_singers tl0f_dams tl0f_echoes tl0f_deep tl0a_heights tl0a_ladders tl0a_minutes tl0a_echoFrom tl0a_echoTo tl0a_homes tl0a_talls tl0a_known tv0f_deeds tv0a_kinds tv0a_firsts tv0a_seconds tv0f_deeds (fun r_11 nf_minute_4 nf_avalanches_4 nf_begun_4 nf_climbed_4 na_huts_4 na_known_4 na_levels_4 na_snow_4 => (¬ x3 = (2 : Int32) → ((nf_avalanches_4 ≤ (18 : Int32) → (q_z_X10_sharedDivisor_0 tl0f_slide (fun r_12 => (¬ x3 = 0 → (q_wx_X10_odds_117 ta_counts tl0f_huts tl0f_singers tl0f_dams tl0f_echoes tl0f_deep tl0f_slide tl0a_heights tl0a_ladders tl0a_minutes tl0a_echoFrom tl0a_echoTo tl0a_homes tl0a_talls tl0a_known tl1f_huts tl1f_singers tl1f_dams tl1f_echoes tl1f_deep tl1f_slide tl1a_heights tl1a_ladders tl1a_minutes tl1a_echoFrom tl1a_echoTo tl1a_homes tl1a_talls tl1a_known tv0f_deeds tv0a_kinds tv0a_firsts tv0a_seconds tv1f_deeds tv1a_kinds tv1a_firsts tv1a_seconds nf_minute_4 nf_avalanches_4 nf_begun_4 nf_climbed_4 na_huts_4 na_known_4 na_levels_4 na_snow_4 r_12 (10 : Int32) post)) ∧ (x3 = 0 → (q_wx_X10_odds_117 ta_counts tl0f_huts tl0f_singers tl0f_dams tl0f_echoes tl0f_deep tl0f_slide tl0a_heights tl0a_ladders tl0a_minutes tl0a_echoFrom tl0a_echoTo tl0a_homes tl0a_talls tl0a_known tl1f_huts tl1f_singers tl1f_dams tl1f_echoes tl1f_deep tl1f_slide tl1a_heights tl1a_ladders tl1a_minutes tl1a_echoFrom tl1a_echoTo tl1a_homes tl1a_talls tl1a_known tv0f_deeds tv0a_kinds tv0a_firsts tv0a_seconds tv1f_deeds tv1a_kinds tv1a_firsts tv1a_seconds nf_minute_4 nf_avalanches_4 nf_begun_4 nf_climbed_4 na_huts_4 na_known_4 na_levels_4 na_snow_4 r_12 tl0f_slide post))))) ∧ (¬ nf_avalanches_4 ≤ (18 : Int32) → (post (-1 : Int64) nf_minute_4 nf_avalanches_4 nf_begun_4 nf_climbed_4 na_huts_4 na_known_4 na_levels_4 na_snow_4)))) ∧ (x3 = (2 : Int32) → (post (Int32.toInt64 (nf_avalanches_4 * ((10 : Int32) - tl0f_slide))) nf_minute_4 nf_avalanches_4 nf_begun_4 nf_climbed_4 na_huts_4 na_known_4 na_levels_4 na_snow_4))))) ∧ (¬ x3 ≤ (2 : Int32) → (post (-1 : Int64) nf_minute nf_avalanches nf_begun nf_climbed na_huts na_known na_levels na_snow))))))))))
set_option maxRecDepth 20000 in
theorem t_wx_X10_odds_117 {p : Program} {l : Launch} {e : Env} {s : State} {m : MethodId} {args : Array Value} {below : List Frame} {meth : Method} {c : Code} {E : zE} {qx : Nat} {ta_tape : Nat → Int32} {tf_length : Int32} {tf_fault : Int32} {tf_place : Int32} {ta_counts : Nat → Int32} {tl0f_huts : Int32} {tl0f_singers : Int32} {tl0f_villages : Int32} {tl0f_dams : Int32} {tl0f_echoes : Int32} {tl0f_deep : Int32} {tl0f_slide : Int32} {tl0a_heights : Nat → Int32} {tl0a_ladders : Nat → Int32} {tl0a_minutes : Nat → Int32} {tl0a_echoFrom : Nat → Int32} {tl0a_echoTo : Nat → Int32} {tl0a_homes : Nat → Int32} {tl0a_talls : Nat → Int32} {tl0a_known : Nat → Int32} {tl1f_huts : Int32} {tl1f_singers : Int32} {tl1f_villages : Int32} {tl1f_dams : Int32} {tl1f_echoes : Int32} {tl1f_deep : Int32} {tl1f_slide : Int32} {tl1a_heights : Nat → Int32} {tl1a_ladders : Nat → Int32} {tl1a_minutes : Nat → Int32} {tl1a_echoFrom : Nat → Int32} {tl1a_echoTo : Nat → Int32} {tl1a_homes : Nat → Int32} {tl1a_talls : Nat → Int32} {tl1a_known : Nat → Int32} {tv0f_deeds : Int32} {tv0a_kinds : Nat → Int32} {tv0a_firsts : Nat → Int32} {tv0a_seconds : Nat → Int32} {tv1f_deeds : Int32} {tv1a_kinds : Nat → Int32} {tv1a_firsts : Nat → Int32} {tv1a_seconds : Nat → Int32} {ts0f_facts : Int32} {ts0a_heard : Nat → Int32} {ts0a_huts : Nat → Int32} {ts0a_minutes : Nat → Int32} {ts1f_facts : Int32} {ts1a_heard : Nat → Int32} {ts1a_huts : Nat → Int32} {ts1a_minutes : Nat → Int32} {tc0f_voices : Int32} {tc0f_step : Int32} {tc0a_parts : Nat → Int32} {tc0a_heights : Nat → Int32} {tc1f_voices : Int32} {tc1f_step : Int32} {tc1a_parts : Nat → Int32} {tc1a_heights : Nat → Int32} {m_images : Nat → Option Nat} {rlf_huts : Int32} {rlf_singers : Int32} {rlf_villages : Int32} {rlf_dams : Int32} {rlf_echoes : Int32} {rlf_deep : Int32} {rlf_slide : Int32} {rla_heights : Nat → Int32} {rla_ladders : Nat → Int32} {rla_minutes : Nat → Int32} {rla_echoFrom : Nat → Int32} {rla_echoTo : Nat → Int32} {rla_homes : Nat → Int32} {rla_talls : Nat → Int32} {rla_known : Nat → Int32} {rvf_deeds : Int32} {rva_kinds : Nat → Int32} {rva_firsts : Nat → Int32} {rva_seconds : Nat → Int32} {rsf_facts : Int32} {rsa_heard : Nat → Int32} {rsa_huts : Nat → Int32} {rsa_minutes : Nat → Int32} {rcf_voices : Int32} {rcf_step : Int32} {rca_parts : Nat → Int32} {rca_heights : Nat → Int32} {rf_fault : Int32} {rf_faultPlace : Int32} {ra_numbers : Nat → Int32} {ra_tape : Nat → Int32} {rf_length : Int32} {rf_behind : Int32} {rf_kind : Int32} {rf_first : Int32} {rf_value : Int32} {rf_hutsToldOf : Int32} {rf_singersToldOf : Int32} {nf_minute : Int32} {nf_avalanches : Int32} {nf_begun : Int32} {nf_climbed : Int32} {nf_seed : Int32} {na_huts : Nat → Int32} {na_known : Nat → Int32} {na_levels : Nat → Int32} {na_snow : Nat → Int32} {na_open : Nat → Int32} {pa_heard : Nat → Int32} {pa_walked : Nat → Int32} {pa_total : Nat → Int32} {pa_longest : Nat → Int32} {pa_next : Nat → Int32} {pa_cover : Nat → Int32} {pa_now : Nat → Int32} {pa_then : Nat → Int32} {ko_stands : Option Nat} {ka_gaps : Nat → Int32} {ka_behind : Nat → Int32} {ba_less : Nat → Int32} {ba_full : Nat → Int32} {post : Int64 → (Int32) → (Int32) → (Int32) → (Int32) → (Nat → Int32) → (Nat → Int32) → (Nat → Int32) → (Nat → Int32) → Prop} {x6 : Int32} {y0 : Int32} {ls : Array Slot} {H : Heap} {locs : List Loc}
    (zc : zC p s m args meth c cX10_odds 7 RX10 (some .long))
    (hK : zK E s)
    (hM : wxW E qx ta_tape tf_length tf_fault tf_place ta_counts tl0f_huts tl0f_singers tl0f_villages tl0f_dams tl0f_echoes tl0f_deep tl0f_slide tl0a_heights tl0a_ladders tl0a_minutes tl0a_echoFrom tl0a_echoTo tl0a_homes tl0a_talls tl0a_known tl1f_huts tl1f_singers tl1f_villages tl1f_dams tl1f_echoes tl1f_deep tl1f_slide tl1a_heights tl1a_ladders tl1a_minutes tl1a_echoFrom tl1a_echoTo tl1a_homes tl1a_talls tl1a_known tv0f_deeds tv0a_kinds tv0a_firsts tv0a_seconds tv1f_deeds tv1a_kinds tv1a_firsts tv1a_seconds ts0f_facts ts0a_heard ts0a_huts ts0a_minutes ts1f_facts ts1a_heard ts1a_huts ts1a_minutes tc0f_voices tc0f_step tc0a_parts tc0a_heights tc1f_voices tc1f_step tc1a_parts tc1a_heights m_images rlf_huts rlf_singers rlf_villages rlf_dams rlf_echoes rlf_deep rlf_slide rla_heights rla_ladders rla_minutes rla_echoFrom rla_echoTo rla_homes rla_talls rla_known rvf_deeds rva_kinds rva_firsts rva_seconds rsf_facts rsa_heard rsa_huts rsa_minutes rcf_voices rcf_step rca_parts rca_heights rf_fault rf_faultPlace ra_numbers ra_tape rf_length rf_behind rf_kind rf_first rf_value rf_hutsToldOf rf_singersToldOf nf_minute nf_avalanches nf_begun nf_climbed nf_seed na_huts na_known na_levels na_snow na_open pa_heard pa_walked pa_total pa_longest pa_next pa_cover pa_now pa_then ko_stands ka_gaps ka_behind ba_less ba_full H)
    (hS : va_S (wxA qx) s.heap H locs)
    (hl : lv_has ls 7 [(0, .ref qx), (6, .int x6)])
    (hw : q_wx_X10_odds_117 ta_counts tl0f_huts tl0f_singers tl0f_dams tl0f_echoes tl0f_deep tl0f_slide tl0a_heights tl0a_ladders tl0a_minutes tl0a_echoFrom tl0a_echoTo tl0a_homes tl0a_talls tl0a_known tl1f_huts tl1f_singers tl1f_dams tl1f_echoes tl1f_deep tl1f_slide tl1a_heights tl1a_ladders tl1a_minutes tl1a_echoFrom tl1a_echoTo tl1a_homes tl1a_talls tl1a_known tv0f_deeds tv0a_kinds tv0a_firsts tv0a_seconds tv1f_deeds tv1a_kinds tv1a_firsts tv1a_seconds nf_minute nf_avalanches nf_begun nf_climbed na_huts na_known na_levels na_snow x6 y0 post) :
    W p l e rm_wx_X10_odds s m args below meth c H locs 0 0 (MQ below (zQl (S := (Int32) × (Int32) × (Int32) × (Int32) × (Nat → Int32) × (Nat → Int32) × (Nat → Int32) × (Nat → Int32)) (fun r u => post r u.1 u.2.1 u.2.2.1 u.2.2.2.1 u.2.2.2.2.1 u.2.2.2.2.2.1 u.2.2.2.2.2.2.1 u.2.2.2.2.2.2.2) (fun u H => wxW E qx ta_tape tf_length tf_fault tf_place ta_counts tl0f_huts tl0f_singers tl0f_villages tl0f_dams tl0f_echoes tl0f_deep tl0f_slide tl0a_heights tl0a_ladders tl0a_minutes tl0a_echoFrom tl0a_echoTo tl0a_homes tl0a_talls tl0a_known tl1f_huts tl1f_singers tl1f_villages tl1f_dams tl1f_echoes tl1f_deep tl1f_slide tl1a_heights tl1a_ladders tl1a_minutes tl1a_echoFrom tl1a_echoTo tl1a_homes tl1a_talls tl1a_known tv0f_deeds tv0a_kinds tv0a_firsts tv0a_seconds tv1f_deeds tv1a_kinds tv1a_firsts tv1a_seconds ts0f_facts ts0a_heard ts0a_huts ts0a_minutes ts1f_facts ts1a_heard ts1a_huts ts1a_minutes tc0f_voices tc0f_step tc0a_parts tc0a_heights tc1f_voices tc1f_step tc1a_parts tc1a_heights m_images rlf_huts rlf_singers rlf_villages rlf_dams rlf_echoes rlf_deep rlf_slide rla_heights rla_ladders rla_minutes rla_echoFrom rla_echoTo rla_homes rla_talls rla_known rvf_deeds rva_kinds rva_firsts rva_seconds rsf_facts rsa_heard rsa_huts rsa_minutes rcf_voices rcf_step rca_parts rca_heights rf_fault rf_faultPlace ra_numbers ra_tape rf_length rf_behind rf_kind rf_first rf_value rf_hutsToldOf rf_singersToldOf u.1 u.2.1 u.2.2.1 u.2.2.2.1 nf_seed u.2.2.2.2.1 u.2.2.2.2.2.1 u.2.2.2.2.2.2.1 u.2.2.2.2.2.2.2 na_open pa_heard pa_walked pa_total pa_longest pa_next pa_cover pa_now pa_then ko_stands ka_gaps ka_behind ba_less ba_full H) (wxA qx)) args s 0 0 (wxA qx)) (F0 m 117 ls [.int y0]) := by
  have hx := zc.1
  have hb := zc.2.1
  refine lv_iload hx hb dX10_odds_117 (lv_at hl 1 rfl) ?_
  refine lv_idiv hx hb dX10_odds_119 hw.1 ?_
  have hw := hw.2
  refine lv_aload_n hx hb dX10_odds_120 rfl (lv_at hl 0 rfl) ?_
  refine wxg_10_30_0 zc hK hM dX10_odds_121 ?_
  refine wxg_10_253_72 zc hK hM dX10_odds_124 ?_
  refine zS_l [.int (y0 / x6), .int nf_avalanches] [] zc ky_X10_power kz_X10_power km_10_262 (c_z_X10_power l hw) (zPre0 _) rfl rfl hl.1 (Nat.le_of_ble_eq_true rfl) ⟨rfl, rfl⟩ ⟨Nat.le_of_ble_eq_true rfl, Nat.le_of_ble_eq_true rfl⟩ ⟨(Nat.zero_le _), (Nat.zero_le _)⟩ dX10_odds_127 (fun r_1 hw => ?_)
  exact zret_lw ⟨nf_minute, nf_avalanches, nf_begun, nf_climbed, na_huts, na_known, na_levels, na_snow⟩ zc hS hw hM dX10_odds_130
set_option maxRecDepth 20000 in
theorem t_wx_X10_odds_0 {p : Program} {l : Launch} {e : Env} {s : State} {m : MethodId} {args : Array Value} {below : List Frame} {meth : Method} {c : Code} {E : zE} {qx : Nat} {ta_tape : Nat → Int32} {tf_length : Int32} {tf_fault : Int32} {tf_place : Int32} {ta_counts : Nat → Int32} {tl0f_huts : Int32} {tl0f_singers : Int32} {tl0f_villages : Int32} {tl0f_dams : Int32} {tl0f_echoes : Int32} {tl0f_deep : Int32} {tl0f_slide : Int32} {tl0a_heights : Nat → Int32} {tl0a_ladders : Nat → Int32} {tl0a_minutes : Nat → Int32} {tl0a_echoFrom : Nat → Int32} {tl0a_echoTo : Nat → Int32} {tl0a_homes : Nat → Int32} {tl0a_talls : Nat → Int32} {tl0a_known : Nat → Int32} {tl1f_huts : Int32} {tl1f_singers : Int32} {tl1f_villages : Int32} {tl1f_dams : Int32} {tl1f_echoes : Int32} {tl1f_deep : Int32} {tl1f_slide : Int32} {tl1a_heights : Nat → Int32} {tl1a_ladders : Nat → Int32} {tl1a_minutes : Nat → Int32} {tl1a_echoFrom : Nat → Int32} {tl1a_echoTo : Nat → Int32} {tl1a_homes : Nat → Int32} {tl1a_talls : Nat → Int32} {tl1a_known : Nat → Int32} {tv0f_deeds : Int32} {tv0a_kinds : Nat → Int32} {tv0a_firsts : Nat → Int32} {tv0a_seconds : Nat → Int32} {tv1f_deeds : Int32} {tv1a_kinds : Nat → Int32} {tv1a_firsts : Nat → Int32} {tv1a_seconds : Nat → Int32} {ts0f_facts : Int32} {ts0a_heard : Nat → Int32} {ts0a_huts : Nat → Int32} {ts0a_minutes : Nat → Int32} {ts1f_facts : Int32} {ts1a_heard : Nat → Int32} {ts1a_huts : Nat → Int32} {ts1a_minutes : Nat → Int32} {tc0f_voices : Int32} {tc0f_step : Int32} {tc0a_parts : Nat → Int32} {tc0a_heights : Nat → Int32} {tc1f_voices : Int32} {tc1f_step : Int32} {tc1a_parts : Nat → Int32} {tc1a_heights : Nat → Int32} {m_images : Nat → Option Nat} {rlf_huts : Int32} {rlf_singers : Int32} {rlf_villages : Int32} {rlf_dams : Int32} {rlf_echoes : Int32} {rlf_deep : Int32} {rlf_slide : Int32} {rla_heights : Nat → Int32} {rla_ladders : Nat → Int32} {rla_minutes : Nat → Int32} {rla_echoFrom : Nat → Int32} {rla_echoTo : Nat → Int32} {rla_homes : Nat → Int32} {rla_talls : Nat → Int32} {rla_known : Nat → Int32} {rvf_deeds : Int32} {rva_kinds : Nat → Int32} {rva_firsts : Nat → Int32} {rva_seconds : Nat → Int32} {rsf_facts : Int32} {rsa_heard : Nat → Int32} {rsa_huts : Nat → Int32} {rsa_minutes : Nat → Int32} {rcf_voices : Int32} {rcf_step : Int32} {rca_parts : Nat → Int32} {rca_heights : Nat → Int32} {rf_fault : Int32} {rf_faultPlace : Int32} {ra_numbers : Nat → Int32} {ra_tape : Nat → Int32} {rf_length : Int32} {rf_behind : Int32} {rf_kind : Int32} {rf_first : Int32} {rf_value : Int32} {rf_hutsToldOf : Int32} {rf_singersToldOf : Int32} {nf_minute : Int32} {nf_avalanches : Int32} {nf_begun : Int32} {nf_climbed : Int32} {nf_seed : Int32} {na_huts : Nat → Int32} {na_known : Nat → Int32} {na_levels : Nat → Int32} {na_snow : Nat → Int32} {na_open : Nat → Int32} {pa_heard : Nat → Int32} {pa_walked : Nat → Int32} {pa_total : Nat → Int32} {pa_longest : Nat → Int32} {pa_next : Nat → Int32} {pa_cover : Nat → Int32} {pa_now : Nat → Int32} {pa_then : Nat → Int32} {ko_stands : Option Nat} {ka_gaps : Nat → Int32} {ka_behind : Nat → Int32} {ba_less : Nat → Int32} {ba_full : Nat → Int32} {post : Int64 → (Int32) → (Int32) → (Int32) → (Int32) → (Nat → Int32) → (Nat → Int32) → (Nat → Int32) → (Nat → Int32) → Prop} {x1 : Int32} {x2 : Int32} {x3 : Int32} {ls : Array Slot} {H : Heap} {locs : List Loc}
    (zc : zC p s m args meth c cX10_odds 7 RX10 (some .long))
    (hK : zK E s)
    (hM : wxW E qx ta_tape tf_length tf_fault tf_place ta_counts tl0f_huts tl0f_singers tl0f_villages tl0f_dams tl0f_echoes tl0f_deep tl0f_slide tl0a_heights tl0a_ladders tl0a_minutes tl0a_echoFrom tl0a_echoTo tl0a_homes tl0a_talls tl0a_known tl1f_huts tl1f_singers tl1f_villages tl1f_dams tl1f_echoes tl1f_deep tl1f_slide tl1a_heights tl1a_ladders tl1a_minutes tl1a_echoFrom tl1a_echoTo tl1a_homes tl1a_talls tl1a_known tv0f_deeds tv0a_kinds tv0a_firsts tv0a_seconds tv1f_deeds tv1a_kinds tv1a_firsts tv1a_seconds ts0f_facts ts0a_heard ts0a_huts ts0a_minutes ts1f_facts ts1a_heard ts1a_huts ts1a_minutes tc0f_voices tc0f_step tc0a_parts tc0a_heights tc1f_voices tc1f_step tc1a_parts tc1a_heights m_images rlf_huts rlf_singers rlf_villages rlf_dams rlf_echoes rlf_deep rlf_slide rla_heights rla_ladders rla_minutes rla_echoFrom rla_echoTo rla_homes rla_talls rla_known rvf_deeds rva_kinds rva_firsts rva_seconds rsf_facts rsa_heard rsa_huts rsa_minutes rcf_voices rcf_step rca_parts rca_heights rf_fault rf_faultPlace ra_numbers ra_tape rf_length rf_behind rf_kind rf_first rf_value rf_hutsToldOf rf_singersToldOf nf_minute nf_avalanches nf_begun nf_climbed nf_seed na_huts na_known na_levels na_snow na_open pa_heard pa_walked pa_total pa_longest pa_next pa_cover pa_now pa_then ko_stands ka_gaps ka_behind ba_less ba_full H)
    (hS : va_S (wxA qx) s.heap H locs)
    (hl : lv_has ls 7 [(0, .ref qx), (1, .int x1), (2, .int x2), (3, .int x3)])
    (hw : q_wx_X10_odds_0 ta_counts tl0f_huts tl0f_singers tl0f_dams tl0f_echoes tl0f_deep tl0f_slide tl0a_heights tl0a_ladders tl0a_minutes tl0a_echoFrom tl0a_echoTo tl0a_homes tl0a_talls tl0a_known tl1f_huts tl1f_singers tl1f_dams tl1f_echoes tl1f_deep tl1f_slide tl1a_heights tl1a_ladders tl1a_minutes tl1a_echoFrom tl1a_echoTo tl1a_homes tl1a_talls tl1a_known tv0f_deeds tv0a_kinds tv0a_firsts tv0a_seconds tv1f_deeds tv1a_kinds tv1a_firsts tv1a_seconds nf_minute nf_avalanches nf_begun nf_climbed na_huts na_known na_levels na_snow x1 x2 x3 post) :
    W p l e rm_wx_X10_odds s m args below meth c H locs 0 0 (MQ below (zQl (S := (Int32) × (Int32) × (Int32) × (Int32) × (Nat → Int32) × (Nat → Int32) × (Nat → Int32) × (Nat → Int32)) (fun r u => post r u.1 u.2.1 u.2.2.1 u.2.2.2.1 u.2.2.2.2.1 u.2.2.2.2.2.1 u.2.2.2.2.2.2.1 u.2.2.2.2.2.2.2) (fun u H => wxW E qx ta_tape tf_length tf_fault tf_place ta_counts tl0f_huts tl0f_singers tl0f_villages tl0f_dams tl0f_echoes tl0f_deep tl0f_slide tl0a_heights tl0a_ladders tl0a_minutes tl0a_echoFrom tl0a_echoTo tl0a_homes tl0a_talls tl0a_known tl1f_huts tl1f_singers tl1f_villages tl1f_dams tl1f_echoes tl1f_deep tl1f_slide tl1a_heights tl1a_ladders tl1a_minutes tl1a_echoFrom tl1a_echoTo tl1a_homes tl1a_talls tl1a_known tv0f_deeds tv0a_kinds tv0a_firsts tv0a_seconds tv1f_deeds tv1a_kinds tv1a_firsts tv1a_seconds ts0f_facts ts0a_heard ts0a_huts ts0a_minutes ts1f_facts ts1a_heard ts1a_huts ts1a_minutes tc0f_voices tc0f_step tc0a_parts tc0a_heights tc1f_voices tc1f_step tc1a_parts tc1a_heights m_images rlf_huts rlf_singers rlf_villages rlf_dams rlf_echoes rlf_deep rlf_slide rla_heights rla_ladders rla_minutes rla_echoFrom rla_echoTo rla_homes rla_talls rla_known rvf_deeds rva_kinds rva_firsts rva_seconds rsf_facts rsa_heard rsa_huts rsa_minutes rcf_voices rcf_step rca_parts rca_heights rf_fault rf_faultPlace ra_numbers ra_tape rf_length rf_behind rf_kind rf_first rf_value rf_hutsToldOf rf_singersToldOf u.1 u.2.1 u.2.2.1 u.2.2.2.1 nf_seed u.2.2.2.2.1 u.2.2.2.2.2.1 u.2.2.2.2.2.2.1 u.2.2.2.2.2.2.2 na_open pa_heard pa_walked pa_total pa_longest pa_next pa_cover pa_now pa_then ko_stands ka_gaps ka_behind ba_less ba_full H) (wxA qx)) args s 0 0 (wxA qx)) (F0 m 0 ls []) := by
  have hx := zc.1
  have hb := zc.2.1
  refine lv_aload_n hx hb dX10_odds_0 rfl (lv_at hl 0 rfl) ?_
  refine lv_iload_n hx hb dX10_odds_1 rfl (lv_at hl 1 rfl) ?_
  refine zV_r [.int x1] [] zc ky_X10_landAt kz_X10_landAt km_10_89 (c_wx_X10_landAt l hw) (wxPreV0 hK hM) rfl rfl hl.1 (Nat.le_of_ble_eq_true rfl) ⟨rfl, rfl⟩ ⟨Nat.le_of_ble_eq_true rfl, Nat.le_of_ble_eq_true rfl⟩ ⟨(Nat.zero_le _), (Nat.zero_le _)⟩ dX10_odds_2 (fun r_1 hw => ?_)
  by_cases hc0 : r_1 = 0
  · have hw := hw.1 hc0
    refine W.eq (g2 := F0 m 5 ls (.null :: [])) (by simp [hc0]) ?_
    refine lv_astoreN (lv' := [(4, .null), (0, .ref qx), (1, .int x1), (2, .int x2), (3, .int x3)]) hx hb dX10_odds_5 hl (by decide) rfl (fun ls hl => ?_)
    refine lv_aload_n hx hb dX10_odds_7 rfl (lv_at hl 1 rfl) ?_
    refine lv_iload_n hx hb dX10_odds_8 rfl (lv_at hl 3 rfl) ?_
    refine zV_r [.int x2] [] zc ky_X10_eveningAt kz_X10_eveningAt km_10_109 (c_wx_X10_eveningAt l hw) (wxPreV0 hK hM) rfl rfl hl.1 (Nat.le_of_ble_eq_true rfl) ⟨rfl, rfl⟩ ⟨Nat.le_of_ble_eq_true rfl, Nat.le_of_ble_eq_true rfl⟩ ⟨(Nat.zero_le _), (Nat.zero_le _)⟩ dX10_odds_9 (fun r_2 hw => ?_)
    by_cases hc0 : r_2 = 0
    · have hw := hw.1 hc0
      refine W.eq (g2 := F0 m 12 ls (.null :: [])) (by simp [hc0]) ?_
      refine lv_astoreN (lv' := [(5, .null), (4, .null), (0, .ref qx), (1, .int x1), (2, .int x2), (3, .int x3)]) hx hb dX10_odds_12 hl (by decide) rfl (fun ls hl => ?_)
      refine lv_aloadN hx hb dX10_odds_14 (lv_at hl 1 rfl) ?_
      refine lv_ifnullN (tgt := 33) hx hb dX10_odds_16 (by decide) ?_
      refine lv_ldc2 (v := (-1 : Int64)) hx hb zc.2.2.2.1 (zc.2.2.2.2.1 _ kc_10_230) dX10_odds_33 ?_
      exact zret_lw ⟨nf_minute, nf_avalanches, nf_begun, nf_climbed, na_huts, na_known, na_levels, na_snow⟩ zc hS hw hM dX10_odds_36
    by_cases hc1 : r_2 = 1
    · have hw := hw.2.1 hc1
      refine W.eq (g2 := F0 m 12 ls (.ref (qx + 28) :: [])) (by simp [hc0, hc1]) ?_
      refine lv_astore (lv' := [(5, .ref (qx + 28)), (4, .null), (0, .ref qx), (1, .int x1), (2, .int x2), (3, .int x3)]) hx hb dX10_odds_12 hl (by decide) rfl (fun ls hl => ?_)
      refine lv_aloadN hx hb dX10_odds_14 (lv_at hl 1 rfl) ?_
      refine lv_ifnullN (tgt := 33) hx hb dX10_odds_16 (by decide) ?_
      refine lv_ldc2 (v := (-1 : Int64)) hx hb zc.2.2.2.1 (zc.2.2.2.2.1 _ kc_10_230) dX10_odds_33 ?_
      exact zret_lw ⟨nf_minute, nf_avalanches, nf_begun, nf_climbed, na_huts, na_known, na_levels, na_snow⟩ zc hS hw hM dX10_odds_36
    have hw := hw.2.2 hc0 hc1
    refine W.eq (g2 := F0 m 12 ls (.ref (qx + 24) :: [])) (by simp [hc0, hc1]) ?_
    refine lv_astore (lv' := [(5, .ref (qx + 24)), (4, .null), (0, .ref qx), (1, .int x1), (2, .int x2), (3, .int x3)]) hx hb dX10_odds_12 hl (by decide) rfl (fun ls hl => ?_)
    refine lv_aloadN hx hb dX10_odds_14 (lv_at hl 1 rfl) ?_
    refine lv_ifnullN (tgt := 33) hx hb dX10_odds_16 (by decide) ?_
    refine lv_ldc2 (v := (-1 : Int64)) hx hb zc.2.2.2.1 (zc.2.2.2.2.1 _ kc_10_230) dX10_odds_33 ?_
    exact zret_lw ⟨nf_minute, nf_avalanches, nf_begun, nf_climbed, na_huts, na_known, na_levels, na_snow⟩ zc hS hw hM dX10_odds_36
  by_cases hc1 : r_1 = 1
  · have hw := hw.2.1 hc1
    refine W.eq (g2 := F0 m 5 ls (.ref (qx + 14) :: [])) (by simp [hc0, hc1]) ?_
    refine lv_astore (lv' := [(4, .ref (qx + 14)), (0, .ref qx), (1, .int x1), (2, .int x2), (3, .int x3)]) hx hb dX10_odds_5 hl (by decide) rfl (fun ls hl => ?_)
    refine lv_aload_n hx hb dX10_odds_7 rfl (lv_at hl 1 rfl) ?_
    refine lv_iload_n hx hb dX10_odds_8 rfl (lv_at hl 3 rfl) ?_
    refine zV_r [.int x2] [] zc ky_X10_eveningAt kz_X10_eveningAt km_10_109 (c_wx_X10_eveningAt l hw) (wxPreV0 hK hM) rfl rfl hl.1 (Nat.le_of_ble_eq_true rfl) ⟨rfl, rfl⟩ ⟨Nat.le_of_ble_eq_true rfl, Nat.le_of_ble_eq_true rfl⟩ ⟨(Nat.zero_le _), (Nat.zero_le _)⟩ dX10_odds_9 (fun r_3 hw => ?_)
    by_cases hc0 : r_3 = 0
    · have hw := hw.1 hc0
      refine W.eq (g2 := F0 m 12 ls (.null :: [])) (by simp [hc0]) ?_
      refine lv_astoreN (lv' := [(5, .null), (4, .ref (qx + 14)), (0, .ref qx), (1, .int x1), (2, .int x2), (3, .int x3)]) hx hb dX10_odds_12 hl (by decide) rfl (fun ls hl => ?_)
      refine lv_aload hx hb dX10_odds_14 (lv_at hl 1 rfl) ?_
      refine lv_ifnull hx hb dX10_odds_16 ?_
      refine lv_aloadN hx hb dX10_odds_19 (lv_at hl 0 rfl) ?_
      refine lv_ifnullN (tgt := 33) hx hb dX10_odds_21 (by decide) ?_
      refine lv_ldc2 (v := (-1 : Int64)) hx hb zc.2.2.2.1 (zc.2.2.2.2.1 _ kc_10_230) dX10_odds_33 ?_
      exact zret_lw ⟨nf_minute, nf_avalanches, nf_begun, nf_climbed, na_huts, na_known, na_levels, na_snow⟩ zc hS hw hM dX10_odds_36
    by_cases hc1 : r_3 = 1
    · have hw := hw.2.1 hc1
      refine W.eq (g2 := F0 m 12 ls (.ref (qx + 28) :: [])) (by simp [hc0, hc1]) ?_
      refine lv_astore (lv' := [(5, .ref (qx + 28)), (4, .ref (qx + 14)), (0, .ref qx), (1, .int x1), (2, .int x2), (3, .int x3)]) hx hb dX10_odds_12 hl (by decide) rfl (fun ls hl => ?_)
      refine lv_aload hx hb dX10_odds_14 (lv_at hl 1 rfl) ?_
      refine lv_ifnull hx hb dX10_odds_16 ?_
      refine lv_aload hx hb dX10_odds_19 (lv_at hl 0 rfl) ?_
      refine lv_ifnull hx hb dX10_odds_21 ?_
      refine lv_iload_n hx hb dX10_odds_24 rfl (lv_at hl 5 rfl) ?_
      refine lv_if_lt (tgt := 33) hx hb dX10_odds_25 (by decide) (fun hc => ?_) (fun hc => ?_)
      · have hw := hw.1 hc
        refine lv_ldc2 (v := (-1 : Int64)) hx hb zc.2.2.2.1 (zc.2.2.2.2.1 _ kc_10_230) dX10_odds_33 ?_
        exact zret_lw ⟨nf_minute, nf_avalanches, nf_begun, nf_climbed, na_huts, na_known, na_levels, na_snow⟩ zc hS hw hM dX10_odds_36
      · have hw := hw.2 hc
        refine lv_iload_n hx hb dX10_odds_28 rfl (lv_at hl 5 rfl) ?_
        refine lv_iconst (v := (2 : Int32)) hx hb dX10_odds_29 (by decide) ?_
        refine lv_icmp_le (tgt := 37) hx hb dX10_odds_30 (by decide) (fun hc => ?_) (fun hc => ?_)
        · have hw := hw.1 hc
          refine lv_aload_n hx hb dX10_odds_37 rfl (lv_at hl 2 rfl) ?_
          refine wxg_10_30_0 zc hK hM dX10_odds_38 ?_
          refine lv_aload hx hb dX10_odds_41 (lv_at hl 1 rfl) ?_
          refine lv_aload hx hb dX10_odds_43 (lv_at hl 0 rfl) ?_
          refine lv_aload hx hb dX10_odds_45 (lv_at hl 0 rfl) ?_
          refine wxg_10_113_28 zc hK hM dX10_odds_47 ?_
          refine zVx_i [.ref (qx + 14), .ref (qx + 28), .int tv1f_deeds] [] zc ky_X3_play kz_X3_play km_10_120 (c_wn_X3_play_6_15 l hw) (wnPreV0 hK (pj_wx_wn_72_14_28 hM)) hS (sb_wx_wn_72_14_28) rfl rfl hl.1 (Nat.le_of_ble_eq_true rfl) ⟨rfl, rfl⟩ ⟨Nat.le_of_ble_eq_true rfl, Nat.le_of_ble_eq_true rfl⟩ ⟨(Nat.zero_le _), (Nat.zero_le _)⟩ dX10_odds_50 (fun r_4 u H1 locs1 hw hM1 hk hS => ?_)
          obtain ⟨nf_minute_1, nf_avalanches_1, nf_begun_1, nf_climbed_1, na_huts_1, na_known_1, na_levels_1, na_snow_1⟩ := u
          have hM := jn_wx_wn_72_14_28 hM hM1 hk
          refine lv_pop hx hb dX10_odds_53 rfl ?_
          refine lv_iload_n hx hb dX10_odds_54 rfl (lv_at hl 5 rfl) ?_
          refine lv_iconst (v := (2 : Int32)) hx hb dX10_odds_55 (by decide) ?_
          refine lv_icmp_ne (tgt := 77) hx hb dX10_odds_56 (by decide) (fun hc => ?_) (fun hc => ?_)
          · have hw := hw.1 hc
            refine lv_aload_n hx hb dX10_odds_77 rfl (lv_at hl 2 rfl) ?_
            refine wxg_10_30_0 zc hK hM dX10_odds_78 ?_
            refine wxg_10_253_72 zc hK hM dX10_odds_81 ?_
            refine lv_bipush (v := (18 : Int32)) hx hb dX10_odds_84 (by decide) ?_
            refine lv_icmp_le (tgt := 93) hx hb dX10_odds_86 (by decide) (fun hc => ?_) (fun hc => ?_)
            · have hw := hw.1 hc
              refine lv_aload hx hb dX10_odds_93 (lv_at hl 1 rfl) ?_
              refine wxg_10_256_14 zc hK hM dX10_odds_95 ?_
              refine zS_i [.int tl1f_slide] [] zc ky_X10_sharedDivisor kz_X10_sharedDivisor km_10_259 (c_z_X10_sharedDivisor l hw) (zPre0 _) rfl rfl hl.1 (Nat.le_of_ble_eq_true rfl) ⟨rfl, rfl⟩ ⟨Nat.le_of_ble_eq_true rfl, Nat.le_of_ble_eq_true rfl⟩ ⟨(Nat.zero_le _), (Nat.zero_le _)⟩ dX10_odds_98 (fun r_5 hw => ?_)
              refine lv_istore (lv' := [(6, .int r_5), (5, .ref (qx + 28)), (4, .ref (qx + 14)), (0, .ref qx), (1, .int x1), (2, .int x2), (3, .int x3)]) hx hb dX10_odds_101 hl (by decide) rfl (fun ls hl => ?_)
              refine lv_iload_n hx hb dX10_odds_103 rfl (lv_at hl 6 rfl) ?_
              refine lv_if_ne (tgt := 115) hx hb dX10_odds_104 (by decide) (fun hc => ?_) (fun hc => ?_)
              · have hw := hw.1 hc
                refine lv_bipush (v := (10 : Int32)) hx hb dX10_odds_115 (by decide) ?_
                exact t_wx_X10_odds_117 zc hK hM hS  (lv_sub hl [3, 0] rfl) hw
              · have hw := hw.2 hc
                refine lv_aload hx hb dX10_odds_107 (lv_at hl 2 rfl) ?_
                refine wxg_10_256_14 zc hK hM dX10_odds_109 ?_
                refine lv_goto (tgt := 117) hx hb dX10_odds_112 (by decide) ?_
                exact t_wx_X10_odds_117 zc hK hM hS  (lv_sub hl [3, 0] rfl) hw
            · have hw := hw.2 hc
              refine lv_ldc2 (v := (-1 : Int64)) hx hb zc.2.2.2.1 (zc.2.2.2.2.1 _ kc_10_230) dX10_odds_89 ?_
              exact zret_lw ⟨nf_minute_1, nf_avalanches_1, nf_begun_1, nf_climbed_1, na_huts_1, na_known_1, na_levels_1, na_snow_1⟩ zc hS hw hM dX10_odds_92
          · have hw := hw.2 hc
            refine lv_aload_n hx hb dX10_odds_59 rfl (lv_at hl 2 rfl) ?_
            refine wxg_10_30_0 zc hK hM dX10_odds_60 ?_
            refine wxg_10_253_72 zc hK hM dX10_odds_63 ?_
            refine lv_bipush (v := (10 : Int32)) hx hb dX10_odds_66 (by decide) ?_
            refine lv_aload hx hb dX10_odds_68 (lv_at hl 1 rfl) ?_
            refine wxg_10_256_14 zc hK hM dX10_odds_70 ?_
            refine lv_isub hx hb dX10_odds_73 ?_
            refine lv_imul hx hb dX10_odds_74 ?_
            refine lv_i2l hx hb dX10_odds_75 rfl ?_
            exact zret_lw ⟨nf_minute_1, nf_avalanches_1, nf_begun_1, nf_climbed_1, na_huts_1, na_known_1, na_levels_1, na_snow_1⟩ zc hS hw hM dX10_odds_76
        · have hw := hw.2 hc
          refine lv_ldc2 (v := (-1 : Int64)) hx hb zc.2.2.2.1 (zc.2.2.2.2.1 _ kc_10_230) dX10_odds_33 ?_
          exact zret_lw ⟨nf_minute, nf_avalanches, nf_begun, nf_climbed, na_huts, na_known, na_levels, na_snow⟩ zc hS hw hM dX10_odds_36
    have hw := hw.2.2 hc0 hc1
    refine W.eq (g2 := F0 m 12 ls (.ref (qx + 24) :: [])) (by simp [hc0, hc1]) ?_
    refine lv_astore (lv' := [(5, .ref (qx + 24)), (4, .ref (qx + 14)), (0, .ref qx), (1, .int x1), (2, .int x2), (3, .int x3)]) hx hb dX10_odds_12 hl (by decide) rfl (fun ls hl => ?_)
    refine lv_aload hx hb dX10_odds_14 (lv_at hl 1 rfl) ?_
    refine lv_ifnull hx hb dX10_odds_16 ?_
    refine lv_aload hx hb dX10_odds_19 (lv_at hl 0 rfl) ?_
    refine lv_ifnull hx hb dX10_odds_21 ?_
    refine lv_iload_n hx hb dX10_odds_24 rfl (lv_at hl 5 rfl) ?_
    refine lv_if_lt (tgt := 33) hx hb dX10_odds_25 (by decide) (fun hc => ?_) (fun hc => ?_)
    · have hw := hw.1 hc
      refine lv_ldc2 (v := (-1 : Int64)) hx hb zc.2.2.2.1 (zc.2.2.2.2.1 _ kc_10_230) dX10_odds_33 ?_
      exact zret_lw ⟨nf_minute, nf_avalanches, nf_begun, nf_climbed, na_huts, na_known, na_levels, na_snow⟩ zc hS hw hM dX10_odds_36
    · have hw := hw.2 hc
      refine lv_iload_n hx hb dX10_odds_28 rfl (lv_at hl 5 rfl) ?_
      refine lv_iconst (v := (2 : Int32)) hx hb dX10_odds_29 (by decide) ?_
      refine lv_icmp_le (tgt := 37) hx hb dX10_odds_30 (by decide) (fun hc => ?_) (fun hc => ?_)
      · have hw := hw.1 hc
        refine lv_aload_n hx hb dX10_odds_37 rfl (lv_at hl 2 rfl) ?_
        refine wxg_10_30_0 zc hK hM dX10_odds_38 ?_
        refine lv_aload hx hb dX10_odds_41 (lv_at hl 1 rfl) ?_
        refine lv_aload hx hb dX10_odds_43 (lv_at hl 0 rfl) ?_
        refine lv_aload hx hb dX10_odds_45 (lv_at hl 0 rfl) ?_
        refine wxg_10_113_24 zc hK hM dX10_odds_47 ?_
        refine zVx_i [.ref (qx + 14), .ref (qx + 24), .int tv0f_deeds] [] zc ky_X3_play kz_X3_play km_10_120 (c_wn_X3_play_6_15 l hw) (wnPreV0 hK (pj_wx_wn_72_14_24 hM)) hS (sb_wx_wn_72_14_24) rfl rfl hl.1 (Nat.le_of_ble_eq_true rfl) ⟨rfl, rfl⟩ ⟨Nat.le_of_ble_eq_true rfl, Nat.le_of_ble_eq_true rfl⟩ ⟨(Nat.zero_le _), (Nat.zero_le _)⟩ dX10_odds_50 (fun r_6 u H1 locs1 hw hM1 hk hS => ?_)
        obtain ⟨nf_minute_2, nf_avalanches_2, nf_begun_2, nf_climbed_2, na_huts_2, na_known_2, na_levels_2, na_snow_2⟩ := u
        have hM := jn_wx_wn_72_14_24 hM hM1 hk
        refine lv_pop hx hb dX10_odds_53 rfl ?_
        refine lv_iload_n hx hb dX10_odds_54 rfl (lv_at hl 5 rfl) ?_
        refine lv_iconst (v := (2 : Int32)) hx hb dX10_odds_55 (by decide) ?_
        refine lv_icmp_ne (tgt := 77) hx hb dX10_odds_56 (by decide) (fun hc => ?_) (fun hc => ?_)
        · have hw := hw.1 hc
          refine lv_aload_n hx hb dX10_odds_77 rfl (lv_at hl 2 rfl) ?_
          refine wxg_10_30_0 zc hK hM dX10_odds_78 ?_
          refine wxg_10_253_72 zc hK hM dX10_odds_81 ?_
          refine lv_bipush (v := (18 : Int32)) hx hb dX10_odds_84 (by decide) ?_
          refine lv_icmp_le (tgt := 93) hx hb dX10_odds_86 (by decide) (fun hc => ?_) (fun hc => ?_)
          · have hw := hw.1 hc
            refine lv_aload hx hb dX10_odds_93 (lv_at hl 1 rfl) ?_
            refine wxg_10_256_14 zc hK hM dX10_odds_95 ?_
            refine zS_i [.int tl1f_slide] [] zc ky_X10_sharedDivisor kz_X10_sharedDivisor km_10_259 (c_z_X10_sharedDivisor l hw) (zPre0 _) rfl rfl hl.1 (Nat.le_of_ble_eq_true rfl) ⟨rfl, rfl⟩ ⟨Nat.le_of_ble_eq_true rfl, Nat.le_of_ble_eq_true rfl⟩ ⟨(Nat.zero_le _), (Nat.zero_le _)⟩ dX10_odds_98 (fun r_7 hw => ?_)
            refine lv_istore (lv' := [(6, .int r_7), (5, .ref (qx + 24)), (4, .ref (qx + 14)), (0, .ref qx), (1, .int x1), (2, .int x2), (3, .int x3)]) hx hb dX10_odds_101 hl (by decide) rfl (fun ls hl => ?_)
            refine lv_iload_n hx hb dX10_odds_103 rfl (lv_at hl 6 rfl) ?_
            refine lv_if_ne (tgt := 115) hx hb dX10_odds_104 (by decide) (fun hc => ?_) (fun hc => ?_)
            · have hw := hw.1 hc
              refine lv_bipush (v := (10 : Int32)) hx hb dX10_odds_115 (by decide) ?_
              exact t_wx_X10_odds_117 zc hK hM hS  (lv_sub hl [3, 0] rfl) hw
            · have hw := hw.2 hc
              refine lv_aload hx hb dX10_odds_107 (lv_at hl 2 rfl) ?_
              refine wxg_10_256_14 zc hK hM dX10_odds_109 ?_
              refine lv_goto (tgt := 117) hx hb dX10_odds_112 (by decide) ?_
              exact t_wx_X10_odds_117 zc hK hM hS  (lv_sub hl [3, 0] rfl) hw
          · have hw := hw.2 hc
            refine lv_ldc2 (v := (-1 : Int64)) hx hb zc.2.2.2.1 (zc.2.2.2.2.1 _ kc_10_230) dX10_odds_89 ?_
            exact zret_lw ⟨nf_minute_2, nf_avalanches_2, nf_begun_2, nf_climbed_2, na_huts_2, na_known_2, na_levels_2, na_snow_2⟩ zc hS hw hM dX10_odds_92
        · have hw := hw.2 hc
          refine lv_aload_n hx hb dX10_odds_59 rfl (lv_at hl 2 rfl) ?_
          refine wxg_10_30_0 zc hK hM dX10_odds_60 ?_
          refine wxg_10_253_72 zc hK hM dX10_odds_63 ?_
          refine lv_bipush (v := (10 : Int32)) hx hb dX10_odds_66 (by decide) ?_
          refine lv_aload hx hb dX10_odds_68 (lv_at hl 1 rfl) ?_
          refine wxg_10_256_14 zc hK hM dX10_odds_70 ?_
          refine lv_isub hx hb dX10_odds_73 ?_
          refine lv_imul hx hb dX10_odds_74 ?_
          refine lv_i2l hx hb dX10_odds_75 rfl ?_
          exact zret_lw ⟨nf_minute_2, nf_avalanches_2, nf_begun_2, nf_climbed_2, na_huts_2, na_known_2, na_levels_2, na_snow_2⟩ zc hS hw hM dX10_odds_76
      · have hw := hw.2 hc
        refine lv_ldc2 (v := (-1 : Int64)) hx hb zc.2.2.2.1 (zc.2.2.2.2.1 _ kc_10_230) dX10_odds_33 ?_
        exact zret_lw ⟨nf_minute, nf_avalanches, nf_begun, nf_climbed, na_huts, na_known, na_levels, na_snow⟩ zc hS hw hM dX10_odds_36
  have hw := hw.2.2 hc0 hc1
  refine W.eq (g2 := F0 m 5 ls (.ref (qx + 5) :: [])) (by simp [hc0, hc1]) ?_
  refine lv_astore (lv' := [(4, .ref (qx + 5)), (0, .ref qx), (1, .int x1), (2, .int x2), (3, .int x3)]) hx hb dX10_odds_5 hl (by decide) rfl (fun ls hl => ?_)
  refine lv_aload_n hx hb dX10_odds_7 rfl (lv_at hl 1 rfl) ?_
  refine lv_iload_n hx hb dX10_odds_8 rfl (lv_at hl 3 rfl) ?_
  refine zV_r [.int x2] [] zc ky_X10_eveningAt kz_X10_eveningAt km_10_109 (c_wx_X10_eveningAt l hw) (wxPreV0 hK hM) rfl rfl hl.1 (Nat.le_of_ble_eq_true rfl) ⟨rfl, rfl⟩ ⟨Nat.le_of_ble_eq_true rfl, Nat.le_of_ble_eq_true rfl⟩ ⟨(Nat.zero_le _), (Nat.zero_le _)⟩ dX10_odds_9 (fun r_8 hw => ?_)
  by_cases hc0 : r_8 = 0
  · have hw := hw.1 hc0
    refine W.eq (g2 := F0 m 12 ls (.null :: [])) (by simp [hc0]) ?_
    refine lv_astoreN (lv' := [(5, .null), (4, .ref (qx + 5)), (0, .ref qx), (1, .int x1), (2, .int x2), (3, .int x3)]) hx hb dX10_odds_12 hl (by decide) rfl (fun ls hl => ?_)
    refine lv_aload hx hb dX10_odds_14 (lv_at hl 1 rfl) ?_
    refine lv_ifnull hx hb dX10_odds_16 ?_
    refine lv_aloadN hx hb dX10_odds_19 (lv_at hl 0 rfl) ?_
    refine lv_ifnullN (tgt := 33) hx hb dX10_odds_21 (by decide) ?_
    refine lv_ldc2 (v := (-1 : Int64)) hx hb zc.2.2.2.1 (zc.2.2.2.2.1 _ kc_10_230) dX10_odds_33 ?_
    exact zret_lw ⟨nf_minute, nf_avalanches, nf_begun, nf_climbed, na_huts, na_known, na_levels, na_snow⟩ zc hS hw hM dX10_odds_36
  by_cases hc1 : r_8 = 1
  · have hw := hw.2.1 hc1
    refine W.eq (g2 := F0 m 12 ls (.ref (qx + 28) :: [])) (by simp [hc0, hc1]) ?_
    refine lv_astore (lv' := [(5, .ref (qx + 28)), (4, .ref (qx + 5)), (0, .ref qx), (1, .int x1), (2, .int x2), (3, .int x3)]) hx hb dX10_odds_12 hl (by decide) rfl (fun ls hl => ?_)
    refine lv_aload hx hb dX10_odds_14 (lv_at hl 1 rfl) ?_
    refine lv_ifnull hx hb dX10_odds_16 ?_
    refine lv_aload hx hb dX10_odds_19 (lv_at hl 0 rfl) ?_
    refine lv_ifnull hx hb dX10_odds_21 ?_
    refine lv_iload_n hx hb dX10_odds_24 rfl (lv_at hl 5 rfl) ?_
    refine lv_if_lt (tgt := 33) hx hb dX10_odds_25 (by decide) (fun hc => ?_) (fun hc => ?_)
    · have hw := hw.1 hc
      refine lv_ldc2 (v := (-1 : Int64)) hx hb zc.2.2.2.1 (zc.2.2.2.2.1 _ kc_10_230) dX10_odds_33 ?_
      exact zret_lw ⟨nf_minute, nf_avalanches, nf_begun, nf_climbed, na_huts, na_known, na_levels, na_snow⟩ zc hS hw hM dX10_odds_36
    · have hw := hw.2 hc
      refine lv_iload_n hx hb dX10_odds_28 rfl (lv_at hl 5 rfl) ?_
      refine lv_iconst (v := (2 : Int32)) hx hb dX10_odds_29 (by decide) ?_
      refine lv_icmp_le (tgt := 37) hx hb dX10_odds_30 (by decide) (fun hc => ?_) (fun hc => ?_)
      · have hw := hw.1 hc
        refine lv_aload_n hx hb dX10_odds_37 rfl (lv_at hl 2 rfl) ?_
        refine wxg_10_30_0 zc hK hM dX10_odds_38 ?_
        refine lv_aload hx hb dX10_odds_41 (lv_at hl 1 rfl) ?_
        refine lv_aload hx hb dX10_odds_43 (lv_at hl 0 rfl) ?_
        refine lv_aload hx hb dX10_odds_45 (lv_at hl 0 rfl) ?_
        refine wxg_10_113_28 zc hK hM dX10_odds_47 ?_
        refine zVx_i [.ref (qx + 5), .ref (qx + 28), .int tv1f_deeds] [] zc ky_X3_play kz_X3_play km_10_120 (c_wn_X3_play_6_15 l hw) (wnPreV0 hK (pj_wx_wn_72_5_28 hM)) hS (sb_wx_wn_72_5_28) rfl rfl hl.1 (Nat.le_of_ble_eq_true rfl) ⟨rfl, rfl⟩ ⟨Nat.le_of_ble_eq_true rfl, Nat.le_of_ble_eq_true rfl⟩ ⟨(Nat.zero_le _), (Nat.zero_le _)⟩ dX10_odds_50 (fun r_9 u H1 locs1 hw hM1 hk hS => ?_)
        obtain ⟨nf_minute_3, nf_avalanches_3, nf_begun_3, nf_climbed_3, na_huts_3, na_known_3, na_levels_3, na_snow_3⟩ := u
        have hM := jn_wx_wn_72_5_28 hM hM1 hk
        refine lv_pop hx hb dX10_odds_53 rfl ?_
        refine lv_iload_n hx hb dX10_odds_54 rfl (lv_at hl 5 rfl) ?_
        refine lv_iconst (v := (2 : Int32)) hx hb dX10_odds_55 (by decide) ?_
        refine lv_icmp_ne (tgt := 77) hx hb dX10_odds_56 (by decide) (fun hc => ?_) (fun hc => ?_)
        · have hw := hw.1 hc
          refine lv_aload_n hx hb dX10_odds_77 rfl (lv_at hl 2 rfl) ?_
          refine wxg_10_30_0 zc hK hM dX10_odds_78 ?_
          refine wxg_10_253_72 zc hK hM dX10_odds_81 ?_
          refine lv_bipush (v := (18 : Int32)) hx hb dX10_odds_84 (by decide) ?_
          refine lv_icmp_le (tgt := 93) hx hb dX10_odds_86 (by decide) (fun hc => ?_) (fun hc => ?_)
          · have hw := hw.1 hc
            refine lv_aload hx hb dX10_odds_93 (lv_at hl 1 rfl) ?_
            refine wxg_10_256_5 zc hK hM dX10_odds_95 ?_
            refine zS_i [.int tl0f_slide] [] zc ky_X10_sharedDivisor kz_X10_sharedDivisor km_10_259 (c_z_X10_sharedDivisor l hw) (zPre0 _) rfl rfl hl.1 (Nat.le_of_ble_eq_true rfl) ⟨rfl, rfl⟩ ⟨Nat.le_of_ble_eq_true rfl, Nat.le_of_ble_eq_true rfl⟩ ⟨(Nat.zero_le _), (Nat.zero_le _)⟩ dX10_odds_98 (fun r_10 hw => ?_)
            refine lv_istore (lv' := [(6, .int r_10), (5, .ref (qx + 28)), (4, .ref (qx + 5)), (0, .ref qx), (1, .int x1), (2, .int x2), (3, .int x3)]) hx hb dX10_odds_101 hl (by decide) rfl (fun ls hl => ?_)
            refine lv_iload_n hx hb dX10_odds_103 rfl (lv_at hl 6 rfl) ?_
            refine lv_if_ne (tgt := 115) hx hb dX10_odds_104 (by decide) (fun hc => ?_) (fun hc => ?_)
            · have hw := hw.1 hc
              refine lv_bipush (v := (10 : Int32)) hx hb dX10_odds_115 (by decide) ?_
              exact t_wx_X10_odds_117 zc hK hM hS  (lv_sub hl [3, 0] rfl) hw
            · have hw := hw.2 hc
              refine lv_aload hx hb dX10_odds_107 (lv_at hl 2 rfl) ?_
              refine wxg_10_256_5 zc hK hM dX10_odds_109 ?_
              refine lv_goto (tgt := 117) hx hb dX10_odds_112 (by decide) ?_
              exact t_wx_X10_odds_117 zc hK hM hS  (lv_sub hl [3, 0] rfl) hw
          · have hw := hw.2 hc
            refine lv_ldc2 (v := (-1 : Int64)) hx hb zc.2.2.2.1 (zc.2.2.2.2.1 _ kc_10_230) dX10_odds_89 ?_
            exact zret_lw ⟨nf_minute_3, nf_avalanches_3, nf_begun_3, nf_climbed_3, na_huts_3, na_known_3, na_levels_3, na_snow_3⟩ zc hS hw hM dX10_odds_92
        · have hw := hw.2 hc
          refine lv_aload_n hx hb dX10_odds_59 rfl (lv_at hl 2 rfl) ?_
          refine wxg_10_30_0 zc hK hM dX10_odds_60 ?_
          refine wxg_10_253_72 zc hK hM dX10_odds_63 ?_
          refine lv_bipush (v := (10 : Int32)) hx hb dX10_odds_66 (by decide) ?_
          refine lv_aload hx hb dX10_odds_68 (lv_at hl 1 rfl) ?_
          refine wxg_10_256_5 zc hK hM dX10_odds_70 ?_
          refine lv_isub hx hb dX10_odds_73 ?_
          refine lv_imul hx hb dX10_odds_74 ?_
          refine lv_i2l hx hb dX10_odds_75 rfl ?_
          exact zret_lw ⟨nf_minute_3, nf_avalanches_3, nf_begun_3, nf_climbed_3, na_huts_3, na_known_3, na_levels_3, na_snow_3⟩ zc hS hw hM dX10_odds_76
      · have hw := hw.2 hc
        refine lv_ldc2 (v := (-1 : Int64)) hx hb zc.2.2.2.1 (zc.2.2.2.2.1 _ kc_10_230) dX10_odds_33 ?_
        exact zret_lw ⟨nf_minute, nf_avalanches, nf_begun, nf_climbed, na_huts, na_known, na_levels, na_snow⟩ zc hS hw hM dX10_odds_36
  have hw := hw.2.2 hc0 hc1
  refine W.eq (g2 := F0 m 12 ls (.ref (qx + 24) :: [])) (by simp [hc0, hc1]) ?_
  refine lv_astore (lv' := [(5, .ref (qx + 24)), (4, .ref (qx + 5)), (0, .ref qx), (1, .int x1), (2, .int x2), (3, .int x3)]) hx hb dX10_odds_12 hl (by decide) rfl (fun ls hl => ?_)
  refine lv_aload hx hb dX10_odds_14 (lv_at hl 1 rfl) ?_
  refine lv_ifnull hx hb dX10_odds_16 ?_
  refine lv_aload hx hb dX10_odds_19 (lv_at hl 0 rfl) ?_
  refine lv_ifnull hx hb dX10_odds_21 ?_
  refine lv_iload_n hx hb dX10_odds_24 rfl (lv_at hl 5 rfl) ?_
  refine lv_if_lt (tgt := 33) hx hb dX10_odds_25 (by decide) (fun hc => ?_) (fun hc => ?_)
  · have hw := hw.1 hc
    refine lv_ldc2 (v := (-1 : Int64)) hx hb zc.2.2.2.1 (zc.2.2.2.2.1 _ kc_10_230) dX10_odds_33 ?_
    exact zret_lw ⟨nf_minute, nf_avalanches, nf_begun, nf_climbed, na_huts, na_known, na_levels, na_snow⟩ zc hS hw hM dX10_odds_36
  · have hw := hw.2 hc
    refine lv_iload_n hx hb dX10_odds_28 rfl (lv_at hl 5 rfl) ?_
    refine lv_iconst (v := (2 : Int32)) hx hb dX10_odds_29 (by decide) ?_
    refine lv_icmp_le (tgt := 37) hx hb dX10_odds_30 (by decide) (fun hc => ?_) (fun hc => ?_)
    · have hw := hw.1 hc
      refine lv_aload_n hx hb dX10_odds_37 rfl (lv_at hl 2 rfl) ?_
      refine wxg_10_30_0 zc hK hM dX10_odds_38 ?_
      refine lv_aload hx hb dX10_odds_41 (lv_at hl 1 rfl) ?_
      refine lv_aload hx hb dX10_odds_43 (lv_at hl 0 rfl) ?_
      refine lv_aload hx hb dX10_odds_45 (lv_at hl 0 rfl) ?_
      refine wxg_10_113_24 zc hK hM dX10_odds_47 ?_
      refine zVx_i [.ref (qx + 5), .ref (qx + 24), .int tv0f_deeds] [] zc ky_X3_play kz_X3_play km_10_120 (c_wn_X3_play_6_15 l hw) (wnPreV0 hK (pj_wx_wn_72_5_24 hM)) hS (sb_wx_wn_72_5_24) rfl rfl hl.1 (Nat.le_of_ble_eq_true rfl) ⟨rfl, rfl⟩ ⟨Nat.le_of_ble_eq_true rfl, Nat.le_of_ble_eq_true rfl⟩ ⟨(Nat.zero_le _), (Nat.zero_le _)⟩ dX10_odds_50 (fun r_11 u H1 locs1 hw hM1 hk hS => ?_)
      obtain ⟨nf_minute_4, nf_avalanches_4, nf_begun_4, nf_climbed_4, na_huts_4, na_known_4, na_levels_4, na_snow_4⟩ := u
      have hM := jn_wx_wn_72_5_24 hM hM1 hk
      refine lv_pop hx hb dX10_odds_53 rfl ?_
      refine lv_iload_n hx hb dX10_odds_54 rfl (lv_at hl 5 rfl) ?_
      refine lv_iconst (v := (2 : Int32)) hx hb dX10_odds_55 (by decide) ?_
      refine lv_icmp_ne (tgt := 77) hx hb dX10_odds_56 (by decide) (fun hc => ?_) (fun hc => ?_)
      · have hw := hw.1 hc
        refine lv_aload_n hx hb dX10_odds_77 rfl (lv_at hl 2 rfl) ?_
        refine wxg_10_30_0 zc hK hM dX10_odds_78 ?_
        refine wxg_10_253_72 zc hK hM dX10_odds_81 ?_
        refine lv_bipush (v := (18 : Int32)) hx hb dX10_odds_84 (by decide) ?_
        refine lv_icmp_le (tgt := 93) hx hb dX10_odds_86 (by decide) (fun hc => ?_) (fun hc => ?_)
        · have hw := hw.1 hc
          refine lv_aload hx hb dX10_odds_93 (lv_at hl 1 rfl) ?_
          refine wxg_10_256_5 zc hK hM dX10_odds_95 ?_
          refine zS_i [.int tl0f_slide] [] zc ky_X10_sharedDivisor kz_X10_sharedDivisor km_10_259 (c_z_X10_sharedDivisor l hw) (zPre0 _) rfl rfl hl.1 (Nat.le_of_ble_eq_true rfl) ⟨rfl, rfl⟩ ⟨Nat.le_of_ble_eq_true rfl, Nat.le_of_ble_eq_true rfl⟩ ⟨(Nat.zero_le _), (Nat.zero_le _)⟩ dX10_odds_98 (fun r_12 hw => ?_)
          refine lv_istore (lv' := [(6, .int r_12), (5, .ref (qx + 24)), (4, .ref (qx + 5)), (0, .ref qx), (1, .int x1), (2, .int x2), (3, .int x3)]) hx hb dX10_odds_101 hl (by decide) rfl (fun ls hl => ?_)
          refine lv_iload_n hx hb dX10_odds_103 rfl (lv_at hl 6 rfl) ?_
          refine lv_if_ne (tgt := 115) hx hb dX10_odds_104 (by decide) (fun hc => ?_) (fun hc => ?_)
          · have hw := hw.1 hc
            refine lv_bipush (v := (10 : Int32)) hx hb dX10_odds_115 (by decide) ?_
            exact t_wx_X10_odds_117 zc hK hM hS  (lv_sub hl [3, 0] rfl) hw
          · have hw := hw.2 hc
            refine lv_aload hx hb dX10_odds_107 (lv_at hl 2 rfl) ?_
            refine wxg_10_256_5 zc hK hM dX10_odds_109 ?_
            refine lv_goto (tgt := 117) hx hb dX10_odds_112 (by decide) ?_
            exact t_wx_X10_odds_117 zc hK hM hS  (lv_sub hl [3, 0] rfl) hw
        · have hw := hw.2 hc
          refine lv_ldc2 (v := (-1 : Int64)) hx hb zc.2.2.2.1 (zc.2.2.2.2.1 _ kc_10_230) dX10_odds_89 ?_
          exact zret_lw ⟨nf_minute_4, nf_avalanches_4, nf_begun_4, nf_climbed_4, na_huts_4, na_known_4, na_levels_4, na_snow_4⟩ zc hS hw hM dX10_odds_92
      · have hw := hw.2 hc
        refine lv_aload_n hx hb dX10_odds_59 rfl (lv_at hl 2 rfl) ?_
        refine wxg_10_30_0 zc hK hM dX10_odds_60 ?_
        refine wxg_10_253_72 zc hK hM dX10_odds_63 ?_
        refine lv_bipush (v := (10 : Int32)) hx hb dX10_odds_66 (by decide) ?_
        refine lv_aload hx hb dX10_odds_68 (lv_at hl 1 rfl) ?_
        refine wxg_10_256_5 zc hK hM dX10_odds_70 ?_
        refine lv_isub hx hb dX10_odds_73 ?_
        refine lv_imul hx hb dX10_odds_74 ?_
        refine lv_i2l hx hb dX10_odds_75 rfl ?_
        exact zret_lw ⟨nf_minute_4, nf_avalanches_4, nf_begun_4, nf_climbed_4, na_huts_4, na_known_4, na_levels_4, na_snow_4⟩ zc hS hw hM dX10_odds_76
    · have hw := hw.2 hc
      refine lv_ldc2 (v := (-1 : Int64)) hx hb zc.2.2.2.1 (zc.2.2.2.2.1 _ kc_10_230) dX10_odds_33 ?_
      exact zret_lw ⟨nf_minute, nf_avalanches, nf_begun, nf_climbed, na_huts, na_known, na_levels, na_snow⟩ zc hS hw hM dX10_odds_36
set_option maxRecDepth 20000 in
theorem c_wx_X10_odds (l : Launch) {E : zE} {qx : Nat} {ta_tape : Nat → Int32} {tf_length : Int32} {tf_fault : Int32} {tf_place : Int32} {ta_counts : Nat → Int32} {tl0f_huts : Int32} {tl0f_singers : Int32} {tl0f_villages : Int32} {tl0f_dams : Int32} {tl0f_echoes : Int32} {tl0f_deep : Int32} {tl0f_slide : Int32} {tl0a_heights : Nat → Int32} {tl0a_ladders : Nat → Int32} {tl0a_minutes : Nat → Int32} {tl0a_echoFrom : Nat → Int32} {tl0a_echoTo : Nat → Int32} {tl0a_homes : Nat → Int32} {tl0a_talls : Nat → Int32} {tl0a_known : Nat → Int32} {tl1f_huts : Int32} {tl1f_singers : Int32} {tl1f_villages : Int32} {tl1f_dams : Int32} {tl1f_echoes : Int32} {tl1f_deep : Int32} {tl1f_slide : Int32} {tl1a_heights : Nat → Int32} {tl1a_ladders : Nat → Int32} {tl1a_minutes : Nat → Int32} {tl1a_echoFrom : Nat → Int32} {tl1a_echoTo : Nat → Int32} {tl1a_homes : Nat → Int32} {tl1a_talls : Nat → Int32} {tl1a_known : Nat → Int32} {tv0f_deeds : Int32} {tv0a_kinds : Nat → Int32} {tv0a_firsts : Nat → Int32} {tv0a_seconds : Nat → Int32} {tv1f_deeds : Int32} {tv1a_kinds : Nat → Int32} {tv1a_firsts : Nat → Int32} {tv1a_seconds : Nat → Int32} {ts0f_facts : Int32} {ts0a_heard : Nat → Int32} {ts0a_huts : Nat → Int32} {ts0a_minutes : Nat → Int32} {ts1f_facts : Int32} {ts1a_heard : Nat → Int32} {ts1a_huts : Nat → Int32} {ts1a_minutes : Nat → Int32} {tc0f_voices : Int32} {tc0f_step : Int32} {tc0a_parts : Nat → Int32} {tc0a_heights : Nat → Int32} {tc1f_voices : Int32} {tc1f_step : Int32} {tc1a_parts : Nat → Int32} {tc1a_heights : Nat → Int32} {m_images : Nat → Option Nat} {rlf_huts : Int32} {rlf_singers : Int32} {rlf_villages : Int32} {rlf_dams : Int32} {rlf_echoes : Int32} {rlf_deep : Int32} {rlf_slide : Int32} {rla_heights : Nat → Int32} {rla_ladders : Nat → Int32} {rla_minutes : Nat → Int32} {rla_echoFrom : Nat → Int32} {rla_echoTo : Nat → Int32} {rla_homes : Nat → Int32} {rla_talls : Nat → Int32} {rla_known : Nat → Int32} {rvf_deeds : Int32} {rva_kinds : Nat → Int32} {rva_firsts : Nat → Int32} {rva_seconds : Nat → Int32} {rsf_facts : Int32} {rsa_heard : Nat → Int32} {rsa_huts : Nat → Int32} {rsa_minutes : Nat → Int32} {rcf_voices : Int32} {rcf_step : Int32} {rca_parts : Nat → Int32} {rca_heights : Nat → Int32} {rf_fault : Int32} {rf_faultPlace : Int32} {ra_numbers : Nat → Int32} {ra_tape : Nat → Int32} {rf_length : Int32} {rf_behind : Int32} {rf_kind : Int32} {rf_first : Int32} {rf_value : Int32} {rf_hutsToldOf : Int32} {rf_singersToldOf : Int32} {nf_minute : Int32} {nf_avalanches : Int32} {nf_begun : Int32} {nf_climbed : Int32} {nf_seed : Int32} {na_huts : Nat → Int32} {na_known : Nat → Int32} {na_levels : Nat → Int32} {na_snow : Nat → Int32} {na_open : Nat → Int32} {pa_heard : Nat → Int32} {pa_walked : Nat → Int32} {pa_total : Nat → Int32} {pa_longest : Nat → Int32} {pa_next : Nat → Int32} {pa_cover : Nat → Int32} {pa_now : Nat → Int32} {pa_then : Nat → Int32} {ko_stands : Option Nat} {ka_gaps : Nat → Int32} {ka_behind : Nat → Int32} {ba_less : Nat → Int32} {ba_full : Nat → Int32} {x1 : Int32} {x2 : Int32} {x3 : Int32} {post : Int64 → (Int32) → (Int32) → (Int32) → (Int32) → (Nat → Int32) → (Nat → Int32) → (Nat → Int32) → (Nat → Int32) → Prop} (hw : q_wx_X10_odds_0 ta_counts tl0f_huts tl0f_singers tl0f_dams tl0f_echoes tl0f_deep tl0f_slide tl0a_heights tl0a_ladders tl0a_minutes tl0a_echoFrom tl0a_echoTo tl0a_homes tl0a_talls tl0a_known tl1f_huts tl1f_singers tl1f_dams tl1f_echoes tl1f_deep tl1f_slide tl1a_heights tl1a_ladders tl1a_minutes tl1a_echoFrom tl1a_echoTo tl1a_homes tl1a_talls tl1a_known tv0f_deeds tv0a_kinds tv0a_firsts tv0a_seconds tv1f_deeds tv1a_kinds tv1a_firsts tv1a_seconds nf_minute nf_avalanches nf_begun nf_climbed na_huts na_known na_levels na_snow x1 x2 x3 post) : Met l yX10_odds (Cond.code yX10_odds cX10_odds 7 (some .long) :: zb) rm_wx_X10_odds (va_Pc [.ref qx, .int x1, .int x2, .int x3] (fun U => wxW E qx ta_tape tf_length tf_fault tf_place ta_counts tl0f_huts tl0f_singers tl0f_villages tl0f_dams tl0f_echoes tl0f_deep tl0f_slide tl0a_heights tl0a_ladders tl0a_minutes tl0a_echoFrom tl0a_echoTo tl0a_homes tl0a_talls tl0a_known tl1f_huts tl1f_singers tl1f_villages tl1f_dams tl1f_echoes tl1f_deep tl1f_slide tl1a_heights tl1a_ladders tl1a_minutes tl1a_echoFrom tl1a_echoTo tl1a_homes tl1a_talls tl1a_known tv0f_deeds tv0a_kinds tv0a_firsts tv0a_seconds tv1f_deeds tv1a_kinds tv1a_firsts tv1a_seconds ts0f_facts ts0a_heard ts0a_huts ts0a_minutes ts1f_facts ts1a_heard ts1a_huts ts1a_minutes tc0f_voices tc0f_step tc0a_parts tc0a_heights tc1f_voices tc1f_step tc1a_parts tc1a_heights m_images rlf_huts rlf_singers rlf_villages rlf_dams rlf_echoes rlf_deep rlf_slide rla_heights rla_ladders rla_minutes rla_echoFrom rla_echoTo rla_homes rla_talls rla_known rvf_deeds rva_kinds rva_firsts rva_seconds rsf_facts rsa_heard rsa_huts rsa_minutes rcf_voices rcf_step rca_parts rca_heights rf_fault rf_faultPlace ra_numbers ra_tape rf_length rf_behind rf_kind rf_first rf_value rf_hutsToldOf rf_singersToldOf nf_minute nf_avalanches nf_begun nf_climbed nf_seed na_huts na_known na_levels na_snow na_open pa_heard pa_walked pa_total pa_longest pa_next pa_cover pa_now pa_then ko_stands ka_gaps ka_behind ba_less ba_full U.heap ∧ zK E U)) (zQl (S := (Int32) × (Int32) × (Int32) × (Int32) × (Nat → Int32) × (Nat → Int32) × (Nat → Int32) × (Nat → Int32)) (fun r u => post r u.1 u.2.1 u.2.2.1 u.2.2.2.1 u.2.2.2.2.1 u.2.2.2.2.2.1 u.2.2.2.2.2.2.1 u.2.2.2.2.2.2.2) (fun u H => wxW E qx ta_tape tf_length tf_fault tf_place ta_counts tl0f_huts tl0f_singers tl0f_villages tl0f_dams tl0f_echoes tl0f_deep tl0f_slide tl0a_heights tl0a_ladders tl0a_minutes tl0a_echoFrom tl0a_echoTo tl0a_homes tl0a_talls tl0a_known tl1f_huts tl1f_singers tl1f_villages tl1f_dams tl1f_echoes tl1f_deep tl1f_slide tl1a_heights tl1a_ladders tl1a_minutes tl1a_echoFrom tl1a_echoTo tl1a_homes tl1a_talls tl1a_known tv0f_deeds tv0a_kinds tv0a_firsts tv0a_seconds tv1f_deeds tv1a_kinds tv1a_firsts tv1a_seconds ts0f_facts ts0a_heard ts0a_huts ts0a_minutes ts1f_facts ts1a_heard ts1a_huts ts1a_minutes tc0f_voices tc0f_step tc0a_parts tc0a_heights tc1f_voices tc1f_step tc1a_parts tc1a_heights m_images rlf_huts rlf_singers rlf_villages rlf_dams rlf_echoes rlf_deep rlf_slide rla_heights rla_ladders rla_minutes rla_echoFrom rla_echoTo rla_homes rla_talls rla_known rvf_deeds rva_kinds rva_firsts rva_seconds rsf_facts rsa_heard rsa_huts rsa_minutes rcf_voices rcf_step rca_parts rca_heights rf_fault rf_faultPlace ra_numbers ra_tape rf_length rf_behind rf_kind rf_first rf_value rf_hutsToldOf rf_singersToldOf u.1 u.2.1 u.2.2.1 u.2.2.2.1 nf_seed u.2.2.2.2.1 u.2.2.2.2.2.1 u.2.2.2.2.2.2.1 u.2.2.2.2.2.2.2 na_open pa_heard pa_walked pa_total pa_longest pa_next pa_cover pa_now pa_then ko_stands ka_gaps ka_behind ba_less ba_full H) (wxA qx)) 0 0 (wxA qx) := by
  refine Met.ofW (cc := cX10_odds) (maxL := 7) (ret := (some .long)) (by decide) rfl ?_
  intro p e s m args below meth c s₁ B hml hv
  obtain ⟨rfl, hM, hK⟩ := hv
  have zc := zc_of B hml
  have hl := lv_entry ([.ref qx, .int x1, .int x2, .int x3]) (n := 7) (Nat.le_of_ble_eq_true rfl)
  rw [lg_entry_eq]
  generalize (lg_sl ([.ref qx, .int x1, .int x2, .int x3]) ++ List.replicate (7 - (lg_sl ([.ref qx, .int x1, .int x2, .int x3])).length) Slot.unset).toArray = ls at hl ⊢
  have hl : lv_has ls 7 [(0, .ref qx), (1, .int x1), (2, .int x2), (3, .int x3)] := hl
  exact t_wx_X10_odds_0 zc hK hM va_S.rf (lv_sub hl [0, 1, 2, 3] rfl) hw
-- wx_X10_drawn
abbrev rm_wx_X10_drawn : Room := { frames := 6, cells := 0, slots := 0, locals := 142 }
def q_wx_X10_drawn_0 (ta_counts : Nat → Int32) (tl0f_huts : Int32) (tl0f_singers : Int32) (tl0f_dams : Int32) (tl0f_echoes : Int32) (tl0f_deep : Int32) (tl0a_heights : Nat → Int32) (tl0a_ladders : Nat → Int32) (tl0a_minutes : Nat → Int32) (tl0a_echoFrom : Nat → Int32) (tl0a_echoTo : Nat → Int32) (tl0a_homes : Nat → Int32) (tl0a_talls : Nat → Int32) (tl0a_known : Nat → Int32) (tl1f_huts : Int32) (tl1f_singers : Int32) (tl1f_dams : Int32) (tl1f_echoes : Int32) (tl1f_deep : Int32) (tl1a_heights : Nat → Int32) (tl1a_ladders : Nat → Int32) (tl1a_minutes : Nat → Int32) (tl1a_echoFrom : Nat → Int32) (tl1a_echoTo : Nat → Int32) (tl1a_homes : Nat → Int32) (tl1a_talls : Nat → Int32) (tl1a_known : Nat → Int32) (nf_minute : Int32) (nf_avalanches : Int32) (nf_begun : Int32) (nf_climbed : Int32) (nf_seed : Int32) (na_huts : Nat → Int32) (na_known : Nat → Int32) (na_levels : Nat → Int32) (na_snow : Nat → Int32) (na_open : Nat → Int32) (x1 : Int32) (x2 : Int32) (x3 : Int32) (x4 : Int32) (post : Int32 → (Int32) → (Int32) → (Int32) → (Int32) → (Int32) → (Nat → Int32) → (Nat → Int32) → (Nat → Int32) → (Nat → Int32) → (Nat → Int32) → Prop) : Prop :=
  q_wx_X10_landAt_0 ta_counts x1 (fun r_1 => (r_1 = 0 → (post (-1000 : Int32) nf_minute nf_avalanches nf_begun nf_climbed nf_seed na_huts na_known na_levels na_snow na_open)) ∧ (r_1 = 1 → ((tl1f_singers = 0 → (post (-1000 : Int32) nf_minute nf_avalanches nf_begun nf_climbed nf_seed na_huts na_known na_levels na_snow na_open)) ∧ (¬ tl1f_singers = 0 → ((x3 < 0 → (post (-1000 : Int32) nf_minute nf_avalanches nf_begun nf_climbed nf_seed na_huts na_known na_levels na_snow na_open)) ∧ (¬ x3 < 0 → ((x3 ≤ (60 : Int32) → (q_wn_X3_draw_6_0 nf_minute nf_avalanches nf_begun nf_climbed nf_seed na_huts na_known na_levels na_snow tl1f_huts tl1f_singers tl1f_dams tl1f_echoes tl1f_deep tl1a_heights tl1a_ladders tl1a_minutes tl1a_echoFrom tl1a_echoTo tl1a_homes tl1a_talls tl1a_known x2 x3 (fun nf_minute_1 nf_avalanches_1 nf_begun_1 nf_climbed_1 nf_seed_1 na_huts_1 na_known_1 na_levels_1 na_snow_1 => q_wn_X3_look_6_0 nf_minute_1 nf_avalanches_1 nf_begun_1 nf_climbed_1 na_huts_1 na_known_1 na_levels_1 na_snow_1 na_open tl1f_huts tl1f_singers tl1f_dams tl1f_deep tl1a_heights tl1a_ladders tl1a_minutes tl1a_talls x4 (fun r_2 na_open_1 => post r_2 nf_minute_1 nf_avalanches_1 nf_begun_1 nf_climbed_1 nf_seed_1 na_huts_1 na_known_1 na_levels_1 na_snow_1 na_open_1)))) ∧ (¬ x3 ≤ (60 : Int32) → (post (-1000 : Int32) nf_minute nf_avalanches nf_begun nf_climbed nf_seed na_huts na_known na_levels na_snow na_open)))))))) ∧ (¬ r_1 = 0 → ¬ r_1 = 1 → ((tl0f_singers = 0 → (post (-1000 : Int32) nf_minute nf_avalanches nf_begun nf_climbed nf_seed na_huts na_known na_levels na_snow na_open)) ∧ (¬ tl0f_singers = 0 → ((x3 < 0 → (post (-1000 : Int32) nf_minute nf_avalanches nf_begun nf_climbed nf_seed na_huts na_known na_levels na_snow na_open)) ∧ (¬ x3 < 0 → ((x3 ≤ (60 : Int32) → (q_wn_X3_draw_6_0 nf_minute nf_avalanches nf_begun nf_climbed nf_seed na_huts na_known na_levels na_snow tl0f_huts tl0f_singers tl0f_dams tl0f_echoes tl0f_deep tl0a_heights tl0a_ladders tl0a_minutes tl0a_echoFrom tl0a_echoTo tl0a_homes tl0a_talls tl0a_known x2 x3 (fun nf_minute_2 nf_avalanches_2 nf_begun_2 nf_climbed_2 nf_seed_2 na_huts_2 na_known_2 na_levels_2 na_snow_2 => q_wn_X3_look_6_0 nf_minute_2 nf_avalanches_2 nf_begun_2 nf_climbed_2 na_huts_2 na_known_2 na_levels_2 na_snow_2 na_open tl0f_huts tl0f_singers tl0f_dams tl0f_deep tl0a_heights tl0a_ladders tl0a_minutes tl0a_talls x4 (fun r_3 na_open_2 => post r_3 nf_minute_2 nf_avalanches_2 nf_begun_2 nf_climbed_2 nf_seed_2 na_huts_2 na_known_2 na_levels_2 na_snow_2 na_open_2)))) ∧ (¬ x3 ≤ (60 : Int32) → (post (-1000 : Int32) nf_minute nf_avalanches nf_begun nf_climbed nf_seed na_huts na_known na_levels na_snow na_open)))))))))
set_option maxRecDepth 20000 in
theorem t_wx_X10_drawn_0 {p : Program} {l : Launch} {e : Env} {s : State} {m : MethodId} {args : Array Value} {below : List Frame} {meth : Method} {c : Code} {E : zE} {qx : Nat} {ta_tape : Nat → Int32} {tf_length : Int32} {tf_fault : Int32} {tf_place : Int32} {ta_counts : Nat → Int32} {tl0f_huts : Int32} {tl0f_singers : Int32} {tl0f_villages : Int32} {tl0f_dams : Int32} {tl0f_echoes : Int32} {tl0f_deep : Int32} {tl0f_slide : Int32} {tl0a_heights : Nat → Int32} {tl0a_ladders : Nat → Int32} {tl0a_minutes : Nat → Int32} {tl0a_echoFrom : Nat → Int32} {tl0a_echoTo : Nat → Int32} {tl0a_homes : Nat → Int32} {tl0a_talls : Nat → Int32} {tl0a_known : Nat → Int32} {tl1f_huts : Int32} {tl1f_singers : Int32} {tl1f_villages : Int32} {tl1f_dams : Int32} {tl1f_echoes : Int32} {tl1f_deep : Int32} {tl1f_slide : Int32} {tl1a_heights : Nat → Int32} {tl1a_ladders : Nat → Int32} {tl1a_minutes : Nat → Int32} {tl1a_echoFrom : Nat → Int32} {tl1a_echoTo : Nat → Int32} {tl1a_homes : Nat → Int32} {tl1a_talls : Nat → Int32} {tl1a_known : Nat → Int32} {tv0f_deeds : Int32} {tv0a_kinds : Nat → Int32} {tv0a_firsts : Nat → Int32} {tv0a_seconds : Nat → Int32} {tv1f_deeds : Int32} {tv1a_kinds : Nat → Int32} {tv1a_firsts : Nat → Int32} {tv1a_seconds : Nat → Int32} {ts0f_facts : Int32} {ts0a_heard : Nat → Int32} {ts0a_huts : Nat → Int32} {ts0a_minutes : Nat → Int32} {ts1f_facts : Int32} {ts1a_heard : Nat → Int32} {ts1a_huts : Nat → Int32} {ts1a_minutes : Nat → Int32} {tc0f_voices : Int32} {tc0f_step : Int32} {tc0a_parts : Nat → Int32} {tc0a_heights : Nat → Int32} {tc1f_voices : Int32} {tc1f_step : Int32} {tc1a_parts : Nat → Int32} {tc1a_heights : Nat → Int32} {m_images : Nat → Option Nat} {rlf_huts : Int32} {rlf_singers : Int32} {rlf_villages : Int32} {rlf_dams : Int32} {rlf_echoes : Int32} {rlf_deep : Int32} {rlf_slide : Int32} {rla_heights : Nat → Int32} {rla_ladders : Nat → Int32} {rla_minutes : Nat → Int32} {rla_echoFrom : Nat → Int32} {rla_echoTo : Nat → Int32} {rla_homes : Nat → Int32} {rla_talls : Nat → Int32} {rla_known : Nat → Int32} {rvf_deeds : Int32} {rva_kinds : Nat → Int32} {rva_firsts : Nat → Int32} {rva_seconds : Nat → Int32} {rsf_facts : Int32} {rsa_heard : Nat → Int32} {rsa_huts : Nat → Int32} {rsa_minutes : Nat → Int32} {rcf_voices : Int32} {rcf_step : Int32} {rca_parts : Nat → Int32} {rca_heights : Nat → Int32} {rf_fault : Int32} {rf_faultPlace : Int32} {ra_numbers : Nat → Int32} {ra_tape : Nat → Int32} {rf_length : Int32} {rf_behind : Int32} {rf_kind : Int32} {rf_first : Int32} {rf_value : Int32} {rf_hutsToldOf : Int32} {rf_singersToldOf : Int32} {nf_minute : Int32} {nf_avalanches : Int32} {nf_begun : Int32} {nf_climbed : Int32} {nf_seed : Int32} {na_huts : Nat → Int32} {na_known : Nat → Int32} {na_levels : Nat → Int32} {na_snow : Nat → Int32} {na_open : Nat → Int32} {pa_heard : Nat → Int32} {pa_walked : Nat → Int32} {pa_total : Nat → Int32} {pa_longest : Nat → Int32} {pa_next : Nat → Int32} {pa_cover : Nat → Int32} {pa_now : Nat → Int32} {pa_then : Nat → Int32} {ko_stands : Option Nat} {ka_gaps : Nat → Int32} {ka_behind : Nat → Int32} {ba_less : Nat → Int32} {ba_full : Nat → Int32} {post : Int32 → (Int32) → (Int32) → (Int32) → (Int32) → (Int32) → (Nat → Int32) → (Nat → Int32) → (Nat → Int32) → (Nat → Int32) → (Nat → Int32) → Prop} {x1 : Int32} {x2 : Int32} {x3 : Int32} {x4 : Int32} {ls : Array Slot} {H : Heap} {locs : List Loc}
    (zc : zC p s m args meth c cX10_drawn 6 RX10 (some .int))
    (hK : zK E s)
    (hM : wxW E qx ta_tape tf_length tf_fault tf_place ta_counts tl0f_huts tl0f_singers tl0f_villages tl0f_dams tl0f_echoes tl0f_deep tl0f_slide tl0a_heights tl0a_ladders tl0a_minutes tl0a_echoFrom tl0a_echoTo tl0a_homes tl0a_talls tl0a_known tl1f_huts tl1f_singers tl1f_villages tl1f_dams tl1f_echoes tl1f_deep tl1f_slide tl1a_heights tl1a_ladders tl1a_minutes tl1a_echoFrom tl1a_echoTo tl1a_homes tl1a_talls tl1a_known tv0f_deeds tv0a_kinds tv0a_firsts tv0a_seconds tv1f_deeds tv1a_kinds tv1a_firsts tv1a_seconds ts0f_facts ts0a_heard ts0a_huts ts0a_minutes ts1f_facts ts1a_heard ts1a_huts ts1a_minutes tc0f_voices tc0f_step tc0a_parts tc0a_heights tc1f_voices tc1f_step tc1a_parts tc1a_heights m_images rlf_huts rlf_singers rlf_villages rlf_dams rlf_echoes rlf_deep rlf_slide rla_heights rla_ladders rla_minutes rla_echoFrom rla_echoTo rla_homes rla_talls rla_known rvf_deeds rva_kinds rva_firsts rva_seconds rsf_facts rsa_heard rsa_huts rsa_minutes rcf_voices rcf_step rca_parts rca_heights rf_fault rf_faultPlace ra_numbers ra_tape rf_length rf_behind rf_kind rf_first rf_value rf_hutsToldOf rf_singersToldOf nf_minute nf_avalanches nf_begun nf_climbed nf_seed na_huts na_known na_levels na_snow na_open pa_heard pa_walked pa_total pa_longest pa_next pa_cover pa_now pa_then ko_stands ka_gaps ka_behind ba_less ba_full H)
    (hS : va_S (wxA qx) s.heap H locs)
    (hl : lv_has ls 6 [(0, .ref qx), (1, .int x1), (2, .int x2), (3, .int x3), (4, .int x4)])
    (hw : q_wx_X10_drawn_0 ta_counts tl0f_huts tl0f_singers tl0f_dams tl0f_echoes tl0f_deep tl0a_heights tl0a_ladders tl0a_minutes tl0a_echoFrom tl0a_echoTo tl0a_homes tl0a_talls tl0a_known tl1f_huts tl1f_singers tl1f_dams tl1f_echoes tl1f_deep tl1a_heights tl1a_ladders tl1a_minutes tl1a_echoFrom tl1a_echoTo tl1a_homes tl1a_talls tl1a_known nf_minute nf_avalanches nf_begun nf_climbed nf_seed na_huts na_known na_levels na_snow na_open x1 x2 x3 x4 post) :
    W p l e rm_wx_X10_drawn s m args below meth c H locs 0 0 (MQ below (zQi (S := (Int32) × (Int32) × (Int32) × (Int32) × (Int32) × (Nat → Int32) × (Nat → Int32) × (Nat → Int32) × (Nat → Int32) × (Nat → Int32)) (fun r u => post r u.1 u.2.1 u.2.2.1 u.2.2.2.1 u.2.2.2.2.1 u.2.2.2.2.2.1 u.2.2.2.2.2.2.1 u.2.2.2.2.2.2.2.1 u.2.2.2.2.2.2.2.2.1 u.2.2.2.2.2.2.2.2.2) (fun u H => wxW E qx ta_tape tf_length tf_fault tf_place ta_counts tl0f_huts tl0f_singers tl0f_villages tl0f_dams tl0f_echoes tl0f_deep tl0f_slide tl0a_heights tl0a_ladders tl0a_minutes tl0a_echoFrom tl0a_echoTo tl0a_homes tl0a_talls tl0a_known tl1f_huts tl1f_singers tl1f_villages tl1f_dams tl1f_echoes tl1f_deep tl1f_slide tl1a_heights tl1a_ladders tl1a_minutes tl1a_echoFrom tl1a_echoTo tl1a_homes tl1a_talls tl1a_known tv0f_deeds tv0a_kinds tv0a_firsts tv0a_seconds tv1f_deeds tv1a_kinds tv1a_firsts tv1a_seconds ts0f_facts ts0a_heard ts0a_huts ts0a_minutes ts1f_facts ts1a_heard ts1a_huts ts1a_minutes tc0f_voices tc0f_step tc0a_parts tc0a_heights tc1f_voices tc1f_step tc1a_parts tc1a_heights m_images rlf_huts rlf_singers rlf_villages rlf_dams rlf_echoes rlf_deep rlf_slide rla_heights rla_ladders rla_minutes rla_echoFrom rla_echoTo rla_homes rla_talls rla_known rvf_deeds rva_kinds rva_firsts rva_seconds rsf_facts rsa_heard rsa_huts rsa_minutes rcf_voices rcf_step rca_parts rca_heights rf_fault rf_faultPlace ra_numbers ra_tape rf_length rf_behind rf_kind rf_first rf_value rf_hutsToldOf rf_singersToldOf u.1 u.2.1 u.2.2.1 u.2.2.2.1 u.2.2.2.2.1 u.2.2.2.2.2.1 u.2.2.2.2.2.2.1 u.2.2.2.2.2.2.2.1 u.2.2.2.2.2.2.2.2.1 u.2.2.2.2.2.2.2.2.2 pa_heard pa_walked pa_total pa_longest pa_next pa_cover pa_now pa_then ko_stands ka_gaps ka_behind ba_less ba_full H) (wxA qx)) args s 0 0 (wxA qx)) (F0 m 0 ls []) := by
  have hx := zc.1
  have hb := zc.2.1
  refine lv_aload_n hx hb dX10_drawn_0 rfl (lv_at hl 0 rfl) ?_
  refine lv_iload_n hx hb dX10_drawn_1 rfl (lv_at hl 1 rfl) ?_
  refine zV_r [.int x1] [] zc ky_X10_landAt kz_X10_landAt km_10_89 (c_wx_X10_landAt l hw) (wxPreV0 hK hM) rfl rfl hl.1 (Nat.le_of_ble_eq_true rfl) ⟨rfl, rfl⟩ ⟨Nat.le_of_ble_eq_true rfl, Nat.le_of_ble_eq_true rfl⟩ ⟨(Nat.zero_le _), (Nat.zero_le _)⟩ dX10_drawn_2 (fun r_1 hw => ?_)
  by_cases hc0 : r_1 = 0
  · have hw := hw.1 hc0
    refine W.eq (g2 := F0 m 5 ls (.null :: [])) (by simp [hc0]) ?_
    refine lv_astoreN (lv' := [(5, .null), (0, .ref qx), (1, .int x1), (2, .int x2), (3, .int x3), (4, .int x4)]) hx hb dX10_drawn_5 hl (by decide) rfl (fun ls hl => ?_)
    refine lv_aloadN hx hb dX10_drawn_7 (lv_at hl 0 rfl) ?_
    refine lv_ifnullN (tgt := 30) hx hb dX10_drawn_9 (by decide) ?_
    refine lv_sipush (v := (-1000 : Int32)) hx hb dX10_drawn_30 (by decide) ?_
    exact zret_iw ⟨nf_minute, nf_avalanches, nf_begun, nf_climbed, nf_seed, na_huts, na_known, na_levels, na_snow, na_open⟩ zc hS hw hM dX10_drawn_33
  by_cases hc1 : r_1 = 1
  · have hw := hw.2.1 hc1
    refine W.eq (g2 := F0 m 5 ls (.ref (qx + 14) :: [])) (by simp [hc0, hc1]) ?_
    refine lv_astore (lv' := [(5, .ref (qx + 14)), (0, .ref qx), (1, .int x1), (2, .int x2), (3, .int x3), (4, .int x4)]) hx hb dX10_drawn_5 hl (by decide) rfl (fun ls hl => ?_)
    refine lv_aload hx hb dX10_drawn_7 (lv_at hl 0 rfl) ?_
    refine lv_ifnull hx hb dX10_drawn_9 ?_
    refine lv_aload hx hb dX10_drawn_12 (lv_at hl 0 rfl) ?_
    refine wxg_10_266_14 zc hK hM dX10_drawn_14 ?_
    refine lv_if_eq (tgt := 30) hx hb dX10_drawn_17 (by decide) (fun hc => ?_) (fun hc => ?_)
    · have hw := hw.1 hc
      refine lv_sipush (v := (-1000 : Int32)) hx hb dX10_drawn_30 (by decide) ?_
      exact zret_iw ⟨nf_minute, nf_avalanches, nf_begun, nf_climbed, nf_seed, na_huts, na_known, na_levels, na_snow, na_open⟩ zc hS hw hM dX10_drawn_33
    · have hw := hw.2 hc
      refine lv_iload_n hx hb dX10_drawn_20 rfl (lv_at hl 4 rfl) ?_
      refine lv_if_lt (tgt := 30) hx hb dX10_drawn_21 (by decide) (fun hc => ?_) (fun hc => ?_)
      · have hw := hw.1 hc
        refine lv_sipush (v := (-1000 : Int32)) hx hb dX10_drawn_30 (by decide) ?_
        exact zret_iw ⟨nf_minute, nf_avalanches, nf_begun, nf_climbed, nf_seed, na_huts, na_known, na_levels, na_snow, na_open⟩ zc hS hw hM dX10_drawn_33
      · have hw := hw.2 hc
        refine lv_iload_n hx hb dX10_drawn_24 rfl (lv_at hl 4 rfl) ?_
        refine lv_bipush (v := (60 : Int32)) hx hb dX10_drawn_25 (by decide) ?_
        refine lv_icmp_le (tgt := 34) hx hb dX10_drawn_27 (by decide) (fun hc => ?_) (fun hc => ?_)
        · have hw := hw.1 hc
          refine lv_aload_n hx hb dX10_drawn_34 rfl (lv_at hl 1 rfl) ?_
          refine wxg_10_30_0 zc hK hM dX10_drawn_35 ?_
          refine lv_aload hx hb dX10_drawn_38 (lv_at hl 0 rfl) ?_
          refine lv_iload_n hx hb dX10_drawn_40 rfl (lv_at hl 3 rfl) ?_
          refine lv_iload_n hx hb dX10_drawn_41 rfl (lv_at hl 4 rfl) ?_
          refine zVx_v [.ref (qx + 14), .int x2, .int x3] [] zc ky_X3_draw kz_X3_draw km_10_269 (c_wn_X3_draw_6 l hw) (wnPreV0 hK (pj_wx_wn_72_14_24 hM)) hS (sb_wx_wn_72_14_24) rfl rfl hl.1 (Nat.le_of_ble_eq_true rfl) ⟨rfl, rfl⟩ ⟨Nat.le_of_ble_eq_true rfl, Nat.le_of_ble_eq_true rfl⟩ ⟨(Nat.zero_le _), (Nat.zero_le _)⟩ dX10_drawn_42 (fun u H1 locs1 hw hM1 hk hS => ?_)
          obtain ⟨nf_minute_1, nf_avalanches_1, nf_begun_1, nf_climbed_1, nf_seed_1, na_huts_1, na_known_1, na_levels_1, na_snow_1⟩ := u
          have hM := jn_wx_wn_72_14_24 hM hM1 hk
          refine lv_aload_n hx hb dX10_drawn_45 rfl (lv_at hl 1 rfl) ?_
          refine wxg_10_30_0 zc hK hM dX10_drawn_46 ?_
          refine lv_aload hx hb dX10_drawn_49 (lv_at hl 0 rfl) ?_
          refine lv_iload hx hb dX10_drawn_51 (lv_at hl 5 rfl) ?_
          refine zVx_i [.ref (qx + 14), .int x4] [] zc ky_X3_look kz_X3_look km_10_132 (c_wn_X3_look_6 l hw) (wnPreV0 hK (pj_wx_wn_72_14_24 hM)) hS (sb_wx_wn_72_14_24) rfl rfl hl.1 (Nat.le_of_ble_eq_true rfl) ⟨rfl, rfl⟩ ⟨Nat.le_of_ble_eq_true rfl, Nat.le_of_ble_eq_true rfl⟩ ⟨(Nat.zero_le _), (Nat.zero_le _)⟩ dX10_drawn_53 (fun r_2 na_open_1 H1 locs1 hw hM1 hk hS => ?_)
          have hM := jn_wx_wn_72_14_24 hM hM1 hk
          exact zret_iw ⟨nf_minute_1, nf_avalanches_1, nf_begun_1, nf_climbed_1, nf_seed_1, na_huts_1, na_known_1, na_levels_1, na_snow_1, na_open_1⟩ zc hS hw hM dX10_drawn_56
        · have hw := hw.2 hc
          refine lv_sipush (v := (-1000 : Int32)) hx hb dX10_drawn_30 (by decide) ?_
          exact zret_iw ⟨nf_minute, nf_avalanches, nf_begun, nf_climbed, nf_seed, na_huts, na_known, na_levels, na_snow, na_open⟩ zc hS hw hM dX10_drawn_33
  have hw := hw.2.2 hc0 hc1
  refine W.eq (g2 := F0 m 5 ls (.ref (qx + 5) :: [])) (by simp [hc0, hc1]) ?_
  refine lv_astore (lv' := [(5, .ref (qx + 5)), (0, .ref qx), (1, .int x1), (2, .int x2), (3, .int x3), (4, .int x4)]) hx hb dX10_drawn_5 hl (by decide) rfl (fun ls hl => ?_)
  refine lv_aload hx hb dX10_drawn_7 (lv_at hl 0 rfl) ?_
  refine lv_ifnull hx hb dX10_drawn_9 ?_
  refine lv_aload hx hb dX10_drawn_12 (lv_at hl 0 rfl) ?_
  refine wxg_10_266_5 zc hK hM dX10_drawn_14 ?_
  refine lv_if_eq (tgt := 30) hx hb dX10_drawn_17 (by decide) (fun hc => ?_) (fun hc => ?_)
  · have hw := hw.1 hc
    refine lv_sipush (v := (-1000 : Int32)) hx hb dX10_drawn_30 (by decide) ?_
    exact zret_iw ⟨nf_minute, nf_avalanches, nf_begun, nf_climbed, nf_seed, na_huts, na_known, na_levels, na_snow, na_open⟩ zc hS hw hM dX10_drawn_33
  · have hw := hw.2 hc
    refine lv_iload_n hx hb dX10_drawn_20 rfl (lv_at hl 4 rfl) ?_
    refine lv_if_lt (tgt := 30) hx hb dX10_drawn_21 (by decide) (fun hc => ?_) (fun hc => ?_)
    · have hw := hw.1 hc
      refine lv_sipush (v := (-1000 : Int32)) hx hb dX10_drawn_30 (by decide) ?_
      exact zret_iw ⟨nf_minute, nf_avalanches, nf_begun, nf_climbed, nf_seed, na_huts, na_known, na_levels, na_snow, na_open⟩ zc hS hw hM dX10_drawn_33
    · have hw := hw.2 hc
      refine lv_iload_n hx hb dX10_drawn_24 rfl (lv_at hl 4 rfl) ?_
      refine lv_bipush (v := (60 : Int32)) hx hb dX10_drawn_25 (by decide) ?_
      refine lv_icmp_le (tgt := 34) hx hb dX10_drawn_27 (by decide) (fun hc => ?_) (fun hc => ?_)
      · have hw := hw.1 hc
        refine lv_aload_n hx hb dX10_drawn_34 rfl (lv_at hl 1 rfl) ?_
        refine wxg_10_30_0 zc hK hM dX10_drawn_35 ?_
        refine lv_aload hx hb dX10_drawn_38 (lv_at hl 0 rfl) ?_
        refine lv_iload_n hx hb dX10_drawn_40 rfl (lv_at hl 3 rfl) ?_
        refine lv_iload_n hx hb dX10_drawn_41 rfl (lv_at hl 4 rfl) ?_
        refine zVx_v [.ref (qx + 5), .int x2, .int x3] [] zc ky_X3_draw kz_X3_draw km_10_269 (c_wn_X3_draw_6 l hw) (wnPreV0 hK (pj_wx_wn_72_5_24 hM)) hS (sb_wx_wn_72_5_24) rfl rfl hl.1 (Nat.le_of_ble_eq_true rfl) ⟨rfl, rfl⟩ ⟨Nat.le_of_ble_eq_true rfl, Nat.le_of_ble_eq_true rfl⟩ ⟨(Nat.zero_le _), (Nat.zero_le _)⟩ dX10_drawn_42 (fun u H1 locs1 hw hM1 hk hS => ?_)
        obtain ⟨nf_minute_2, nf_avalanches_2, nf_begun_2, nf_climbed_2, nf_seed_2, na_huts_2, na_known_2, na_levels_2, na_snow_2⟩ := u
        have hM := jn_wx_wn_72_5_24 hM hM1 hk
        refine lv_aload_n hx hb dX10_drawn_45 rfl (lv_at hl 1 rfl) ?_
        refine wxg_10_30_0 zc hK hM dX10_drawn_46 ?_
        refine lv_aload hx hb dX10_drawn_49 (lv_at hl 0 rfl) ?_
        refine lv_iload hx hb dX10_drawn_51 (lv_at hl 5 rfl) ?_
        refine zVx_i [.ref (qx + 5), .int x4] [] zc ky_X3_look kz_X3_look km_10_132 (c_wn_X3_look_6 l hw) (wnPreV0 hK (pj_wx_wn_72_5_24 hM)) hS (sb_wx_wn_72_5_24) rfl rfl hl.1 (Nat.le_of_ble_eq_true rfl) ⟨rfl, rfl⟩ ⟨Nat.le_of_ble_eq_true rfl, Nat.le_of_ble_eq_true rfl⟩ ⟨(Nat.zero_le _), (Nat.zero_le _)⟩ dX10_drawn_53 (fun r_3 na_open_2 H1 locs1 hw hM1 hk hS => ?_)
        have hM := jn_wx_wn_72_5_24 hM hM1 hk
        exact zret_iw ⟨nf_minute_2, nf_avalanches_2, nf_begun_2, nf_climbed_2, nf_seed_2, na_huts_2, na_known_2, na_levels_2, na_snow_2, na_open_2⟩ zc hS hw hM dX10_drawn_56
      · have hw := hw.2 hc
        refine lv_sipush (v := (-1000 : Int32)) hx hb dX10_drawn_30 (by decide) ?_
        exact zret_iw ⟨nf_minute, nf_avalanches, nf_begun, nf_climbed, nf_seed, na_huts, na_known, na_levels, na_snow, na_open⟩ zc hS hw hM dX10_drawn_33
set_option maxRecDepth 20000 in
theorem c_wx_X10_drawn (l : Launch) {E : zE} {qx : Nat} {ta_tape : Nat → Int32} {tf_length : Int32} {tf_fault : Int32} {tf_place : Int32} {ta_counts : Nat → Int32} {tl0f_huts : Int32} {tl0f_singers : Int32} {tl0f_villages : Int32} {tl0f_dams : Int32} {tl0f_echoes : Int32} {tl0f_deep : Int32} {tl0f_slide : Int32} {tl0a_heights : Nat → Int32} {tl0a_ladders : Nat → Int32} {tl0a_minutes : Nat → Int32} {tl0a_echoFrom : Nat → Int32} {tl0a_echoTo : Nat → Int32} {tl0a_homes : Nat → Int32} {tl0a_talls : Nat → Int32} {tl0a_known : Nat → Int32} {tl1f_huts : Int32} {tl1f_singers : Int32} {tl1f_villages : Int32} {tl1f_dams : Int32} {tl1f_echoes : Int32} {tl1f_deep : Int32} {tl1f_slide : Int32} {tl1a_heights : Nat → Int32} {tl1a_ladders : Nat → Int32} {tl1a_minutes : Nat → Int32} {tl1a_echoFrom : Nat → Int32} {tl1a_echoTo : Nat → Int32} {tl1a_homes : Nat → Int32} {tl1a_talls : Nat → Int32} {tl1a_known : Nat → Int32} {tv0f_deeds : Int32} {tv0a_kinds : Nat → Int32} {tv0a_firsts : Nat → Int32} {tv0a_seconds : Nat → Int32} {tv1f_deeds : Int32} {tv1a_kinds : Nat → Int32} {tv1a_firsts : Nat → Int32} {tv1a_seconds : Nat → Int32} {ts0f_facts : Int32} {ts0a_heard : Nat → Int32} {ts0a_huts : Nat → Int32} {ts0a_minutes : Nat → Int32} {ts1f_facts : Int32} {ts1a_heard : Nat → Int32} {ts1a_huts : Nat → Int32} {ts1a_minutes : Nat → Int32} {tc0f_voices : Int32} {tc0f_step : Int32} {tc0a_parts : Nat → Int32} {tc0a_heights : Nat → Int32} {tc1f_voices : Int32} {tc1f_step : Int32} {tc1a_parts : Nat → Int32} {tc1a_heights : Nat → Int32} {m_images : Nat → Option Nat} {rlf_huts : Int32} {rlf_singers : Int32} {rlf_villages : Int32} {rlf_dams : Int32} {rlf_echoes : Int32} {rlf_deep : Int32} {rlf_slide : Int32} {rla_heights : Nat → Int32} {rla_ladders : Nat → Int32} {rla_minutes : Nat → Int32} {rla_echoFrom : Nat → Int32} {rla_echoTo : Nat → Int32} {rla_homes : Nat → Int32} {rla_talls : Nat → Int32} {rla_known : Nat → Int32} {rvf_deeds : Int32} {rva_kinds : Nat → Int32} {rva_firsts : Nat → Int32} {rva_seconds : Nat → Int32} {rsf_facts : Int32} {rsa_heard : Nat → Int32} {rsa_huts : Nat → Int32} {rsa_minutes : Nat → Int32} {rcf_voices : Int32} {rcf_step : Int32} {rca_parts : Nat → Int32} {rca_heights : Nat → Int32} {rf_fault : Int32} {rf_faultPlace : Int32} {ra_numbers : Nat → Int32} {ra_tape : Nat → Int32} {rf_length : Int32} {rf_behind : Int32} {rf_kind : Int32} {rf_first : Int32} {rf_value : Int32} {rf_hutsToldOf : Int32} {rf_singersToldOf : Int32} {nf_minute : Int32} {nf_avalanches : Int32} {nf_begun : Int32} {nf_climbed : Int32} {nf_seed : Int32} {na_huts : Nat → Int32} {na_known : Nat → Int32} {na_levels : Nat → Int32} {na_snow : Nat → Int32} {na_open : Nat → Int32} {pa_heard : Nat → Int32} {pa_walked : Nat → Int32} {pa_total : Nat → Int32} {pa_longest : Nat → Int32} {pa_next : Nat → Int32} {pa_cover : Nat → Int32} {pa_now : Nat → Int32} {pa_then : Nat → Int32} {ko_stands : Option Nat} {ka_gaps : Nat → Int32} {ka_behind : Nat → Int32} {ba_less : Nat → Int32} {ba_full : Nat → Int32} {x1 : Int32} {x2 : Int32} {x3 : Int32} {x4 : Int32} {post : Int32 → (Int32) → (Int32) → (Int32) → (Int32) → (Int32) → (Nat → Int32) → (Nat → Int32) → (Nat → Int32) → (Nat → Int32) → (Nat → Int32) → Prop} (hw : q_wx_X10_drawn_0 ta_counts tl0f_huts tl0f_singers tl0f_dams tl0f_echoes tl0f_deep tl0a_heights tl0a_ladders tl0a_minutes tl0a_echoFrom tl0a_echoTo tl0a_homes tl0a_talls tl0a_known tl1f_huts tl1f_singers tl1f_dams tl1f_echoes tl1f_deep tl1a_heights tl1a_ladders tl1a_minutes tl1a_echoFrom tl1a_echoTo tl1a_homes tl1a_talls tl1a_known nf_minute nf_avalanches nf_begun nf_climbed nf_seed na_huts na_known na_levels na_snow na_open x1 x2 x3 x4 post) : Met l yX10_drawn (Cond.code yX10_drawn cX10_drawn 6 (some .int) :: zb) rm_wx_X10_drawn (va_Pc [.ref qx, .int x1, .int x2, .int x3, .int x4] (fun U => wxW E qx ta_tape tf_length tf_fault tf_place ta_counts tl0f_huts tl0f_singers tl0f_villages tl0f_dams tl0f_echoes tl0f_deep tl0f_slide tl0a_heights tl0a_ladders tl0a_minutes tl0a_echoFrom tl0a_echoTo tl0a_homes tl0a_talls tl0a_known tl1f_huts tl1f_singers tl1f_villages tl1f_dams tl1f_echoes tl1f_deep tl1f_slide tl1a_heights tl1a_ladders tl1a_minutes tl1a_echoFrom tl1a_echoTo tl1a_homes tl1a_talls tl1a_known tv0f_deeds tv0a_kinds tv0a_firsts tv0a_seconds tv1f_deeds tv1a_kinds tv1a_firsts tv1a_seconds ts0f_facts ts0a_heard ts0a_huts ts0a_minutes ts1f_facts ts1a_heard ts1a_huts ts1a_minutes tc0f_voices tc0f_step tc0a_parts tc0a_heights tc1f_voices tc1f_step tc1a_parts tc1a_heights m_images rlf_huts rlf_singers rlf_villages rlf_dams rlf_echoes rlf_deep rlf_slide rla_heights rla_ladders rla_minutes rla_echoFrom rla_echoTo rla_homes rla_talls rla_known rvf_deeds rva_kinds rva_firsts rva_seconds rsf_facts rsa_heard rsa_huts rsa_minutes rcf_voices rcf_step rca_parts rca_heights rf_fault rf_faultPlace ra_numbers ra_tape rf_length rf_behind rf_kind rf_first rf_value rf_hutsToldOf rf_singersToldOf nf_minute nf_avalanches nf_begun nf_climbed nf_seed na_huts na_known na_levels na_snow na_open pa_heard pa_walked pa_total pa_longest pa_next pa_cover pa_now pa_then ko_stands ka_gaps ka_behind ba_less ba_full U.heap ∧ zK E U)) (zQi (S := (Int32) × (Int32) × (Int32) × (Int32) × (Int32) × (Nat → Int32) × (Nat → Int32) × (Nat → Int32) × (Nat → Int32) × (Nat → Int32)) (fun r u => post r u.1 u.2.1 u.2.2.1 u.2.2.2.1 u.2.2.2.2.1 u.2.2.2.2.2.1 u.2.2.2.2.2.2.1 u.2.2.2.2.2.2.2.1 u.2.2.2.2.2.2.2.2.1 u.2.2.2.2.2.2.2.2.2) (fun u H => wxW E qx ta_tape tf_length tf_fault tf_place ta_counts tl0f_huts tl0f_singers tl0f_villages tl0f_dams tl0f_echoes tl0f_deep tl0f_slide tl0a_heights tl0a_ladders tl0a_minutes tl0a_echoFrom tl0a_echoTo tl0a_homes tl0a_talls tl0a_known tl1f_huts tl1f_singers tl1f_villages tl1f_dams tl1f_echoes tl1f_deep tl1f_slide tl1a_heights tl1a_ladders tl1a_minutes tl1a_echoFrom tl1a_echoTo tl1a_homes tl1a_talls tl1a_known tv0f_deeds tv0a_kinds tv0a_firsts tv0a_seconds tv1f_deeds tv1a_kinds tv1a_firsts tv1a_seconds ts0f_facts ts0a_heard ts0a_huts ts0a_minutes ts1f_facts ts1a_heard ts1a_huts ts1a_minutes tc0f_voices tc0f_step tc0a_parts tc0a_heights tc1f_voices tc1f_step tc1a_parts tc1a_heights m_images rlf_huts rlf_singers rlf_villages rlf_dams rlf_echoes rlf_deep rlf_slide rla_heights rla_ladders rla_minutes rla_echoFrom rla_echoTo rla_homes rla_talls rla_known rvf_deeds rva_kinds rva_firsts rva_seconds rsf_facts rsa_heard rsa_huts rsa_minutes rcf_voices rcf_step rca_parts rca_heights rf_fault rf_faultPlace ra_numbers ra_tape rf_length rf_behind rf_kind rf_first rf_value rf_hutsToldOf rf_singersToldOf u.1 u.2.1 u.2.2.1 u.2.2.2.1 u.2.2.2.2.1 u.2.2.2.2.2.1 u.2.2.2.2.2.2.1 u.2.2.2.2.2.2.2.1 u.2.2.2.2.2.2.2.2.1 u.2.2.2.2.2.2.2.2.2 pa_heard pa_walked pa_total pa_longest pa_next pa_cover pa_now pa_then ko_stands ka_gaps ka_behind ba_less ba_full H) (wxA qx)) 0 0 (wxA qx) := by
  refine Met.ofW (cc := cX10_drawn) (maxL := 6) (ret := (some .int)) (by decide) rfl ?_
  intro p e s m args below meth c s₁ B hml hv
  obtain ⟨rfl, hM, hK⟩ := hv
  have zc := zc_of B hml
  have hl := lv_entry ([.ref qx, .int x1, .int x2, .int x3, .int x4]) (n := 6) (Nat.le_of_ble_eq_true rfl)
  rw [lg_entry_eq]
  generalize (lg_sl ([.ref qx, .int x1, .int x2, .int x3, .int x4]) ++ List.replicate (6 - (lg_sl ([.ref qx, .int x1, .int x2, .int x3, .int x4])).length) Slot.unset).toArray = ls at hl ⊢
  have hl : lv_has ls 6 [(0, .ref qx), (1, .int x1), (2, .int x2), (3, .int x3), (4, .int x4)] := hl
  exact t_wx_X10_drawn_0 zc hK hM va_S.rf (lv_sub hl [0, 1, 2, 3, 4] rfl) hw
-- wx_X10_psalm
abbrev rm_wx_X10_psalm : Room := { frames := 3, cells := 0, slots := 0, locals := 67 }
def q_wx_X10_psalm_0 (ta_counts : Nat → Int32) (tl0f_huts : Int32) (tl0f_dams : Int32) (tl0f_echoes : Int32) (tl0a_heights : Nat → Int32) (tl0a_minutes : Nat → Int32) (tl0a_echoFrom : Nat → Int32) (tl0a_echoTo : Nat → Int32) (tl1f_huts : Int32) (tl1f_dams : Int32) (tl1f_echoes : Int32) (tl1a_heights : Nat → Int32) (tl1a_minutes : Nat → Int32) (tl1a_echoFrom : Nat → Int32) (tl1a_echoTo : Nat → Int32) (pa_heard : Nat → Int32) (x1 : Int32) (x2 : Int32) (x3 : Int32) (x4 : Int32) (post : Int32 → (Nat → Int32) → Prop) : Prop :=
  q_wx_X10_landAt_0 ta_counts x1 (fun r_1 => (r_1 = 0 → (post (-2 : Int32) pa_heard)) ∧ (r_1 = 1 → (q_wl_X2_hasHut_0 tl1f_huts x2 (fun r_2 => (r_2 = 0 → (post (-2 : Int32) pa_heard)) ∧ (¬ r_2 = 0 → ((x3 < 0 → (post (-2 : Int32) pa_heard)) ∧ (¬ x3 < 0 → (((99 : Int32) < x3 → (post (-2 : Int32) pa_heard)) ∧ (¬ (99 : Int32) < x3 → ((x4 < 0 → (post (-2 : Int32) pa_heard)) ∧ (¬ x4 < 0 → ((x4 ≤ (2 : Int32) → (q_wp_X7_hear_9_0 pa_heard tl1f_huts tl1f_dams tl1f_echoes tl1a_heights tl1a_minutes tl1a_echoFrom tl1a_echoTo (fun pa_heard_1 => q_wp_X7_fromBy_9_0 pa_heard_1 tl1f_huts x2 x3 (fun r_3 => (¬ x4 = 0 → ((¬ r_3 = 0 → ((¬ x4 = (1 : Int32) → (q_wp_X7_soonest_9_0 pa_heard_1 tl1f_huts x2 (fun r_4 => post (x3 - r_4) pa_heard_1))) ∧ (x4 = (1 : Int32) → (q_wl_X2_highest_0 tl1f_huts tl1a_heights r_3 (fun r_5 => post r_5 pa_heard_1))))) ∧ (r_3 = 0 → (post (-1 : Int32) pa_heard_1)))) ∧ (x4 = 0 → (post r_3 pa_heard_1)))))) ∧ (¬ x4 ≤ (2 : Int32) → (post (-2 : Int32) pa_heard))))))))))))) ∧ (¬ r_1 = 0 → ¬ r_1 = 1 → (q_wl_X2_hasHut_0 tl0f_huts x2 (fun r_6 => (r_6 = 0 → (post (-2 : Int32) pa_heard)) ∧ (¬ r_6 = 0 → ((x3 < 0 → (post (-2 : Int32) pa_heard)) ∧ (¬ x3 < 0 → (((99 : Int32) < x3 → (post (-2 : Int32) pa_heard)) ∧ (¬ (99 : Int32) < x3 → ((x4 < 0 → (post (-2 : Int32) pa_heard)) ∧ (¬ x4 < 0 → ((x4 ≤ (2 : Int32) → (q_wp_X7_hear_9_0 pa_heard tl0f_huts tl0f_dams tl0f_echoes tl0a_heights tl0a_minutes tl0a_echoFrom tl0a_echoTo (fun pa_heard_2 => q_wp_X7_fromBy_9_0 pa_heard_2 tl0f_huts x2 x3 (fun r_7 => (¬ x4 = 0 → ((¬ r_7 = 0 → ((¬ x4 = (1 : Int32) → (q_wp_X7_soonest_9_0 pa_heard_2 tl0f_huts x2 (fun r_8 => post (x3 - r_8) pa_heard_2))) ∧ (x4 = (1 : Int32) → (q_wl_X2_highest_0 tl0f_huts tl0a_heights r_7 (fun r_9 => post r_9 pa_heard_2))))) ∧ (r_7 = 0 → (post (-1 : Int32) pa_heard_2)))) ∧ (x4 = 0 → (post r_7 pa_heard_2)))))) ∧ (¬ x4 ≤ (2 : Int32) → (post (-2 : Int32) pa_heard))))))))))))))
set_option maxRecDepth 20000 in
theorem t_wx_X10_psalm_0 {p : Program} {l : Launch} {e : Env} {s : State} {m : MethodId} {args : Array Value} {below : List Frame} {meth : Method} {c : Code} {E : zE} {qx : Nat} {ta_tape : Nat → Int32} {tf_length : Int32} {tf_fault : Int32} {tf_place : Int32} {ta_counts : Nat → Int32} {tl0f_huts : Int32} {tl0f_singers : Int32} {tl0f_villages : Int32} {tl0f_dams : Int32} {tl0f_echoes : Int32} {tl0f_deep : Int32} {tl0f_slide : Int32} {tl0a_heights : Nat → Int32} {tl0a_ladders : Nat → Int32} {tl0a_minutes : Nat → Int32} {tl0a_echoFrom : Nat → Int32} {tl0a_echoTo : Nat → Int32} {tl0a_homes : Nat → Int32} {tl0a_talls : Nat → Int32} {tl0a_known : Nat → Int32} {tl1f_huts : Int32} {tl1f_singers : Int32} {tl1f_villages : Int32} {tl1f_dams : Int32} {tl1f_echoes : Int32} {tl1f_deep : Int32} {tl1f_slide : Int32} {tl1a_heights : Nat → Int32} {tl1a_ladders : Nat → Int32} {tl1a_minutes : Nat → Int32} {tl1a_echoFrom : Nat → Int32} {tl1a_echoTo : Nat → Int32} {tl1a_homes : Nat → Int32} {tl1a_talls : Nat → Int32} {tl1a_known : Nat → Int32} {tv0f_deeds : Int32} {tv0a_kinds : Nat → Int32} {tv0a_firsts : Nat → Int32} {tv0a_seconds : Nat → Int32} {tv1f_deeds : Int32} {tv1a_kinds : Nat → Int32} {tv1a_firsts : Nat → Int32} {tv1a_seconds : Nat → Int32} {ts0f_facts : Int32} {ts0a_heard : Nat → Int32} {ts0a_huts : Nat → Int32} {ts0a_minutes : Nat → Int32} {ts1f_facts : Int32} {ts1a_heard : Nat → Int32} {ts1a_huts : Nat → Int32} {ts1a_minutes : Nat → Int32} {tc0f_voices : Int32} {tc0f_step : Int32} {tc0a_parts : Nat → Int32} {tc0a_heights : Nat → Int32} {tc1f_voices : Int32} {tc1f_step : Int32} {tc1a_parts : Nat → Int32} {tc1a_heights : Nat → Int32} {m_images : Nat → Option Nat} {rlf_huts : Int32} {rlf_singers : Int32} {rlf_villages : Int32} {rlf_dams : Int32} {rlf_echoes : Int32} {rlf_deep : Int32} {rlf_slide : Int32} {rla_heights : Nat → Int32} {rla_ladders : Nat → Int32} {rla_minutes : Nat → Int32} {rla_echoFrom : Nat → Int32} {rla_echoTo : Nat → Int32} {rla_homes : Nat → Int32} {rla_talls : Nat → Int32} {rla_known : Nat → Int32} {rvf_deeds : Int32} {rva_kinds : Nat → Int32} {rva_firsts : Nat → Int32} {rva_seconds : Nat → Int32} {rsf_facts : Int32} {rsa_heard : Nat → Int32} {rsa_huts : Nat → Int32} {rsa_minutes : Nat → Int32} {rcf_voices : Int32} {rcf_step : Int32} {rca_parts : Nat → Int32} {rca_heights : Nat → Int32} {rf_fault : Int32} {rf_faultPlace : Int32} {ra_numbers : Nat → Int32} {ra_tape : Nat → Int32} {rf_length : Int32} {rf_behind : Int32} {rf_kind : Int32} {rf_first : Int32} {rf_value : Int32} {rf_hutsToldOf : Int32} {rf_singersToldOf : Int32} {nf_minute : Int32} {nf_avalanches : Int32} {nf_begun : Int32} {nf_climbed : Int32} {nf_seed : Int32} {na_huts : Nat → Int32} {na_known : Nat → Int32} {na_levels : Nat → Int32} {na_snow : Nat → Int32} {na_open : Nat → Int32} {pa_heard : Nat → Int32} {pa_walked : Nat → Int32} {pa_total : Nat → Int32} {pa_longest : Nat → Int32} {pa_next : Nat → Int32} {pa_cover : Nat → Int32} {pa_now : Nat → Int32} {pa_then : Nat → Int32} {ko_stands : Option Nat} {ka_gaps : Nat → Int32} {ka_behind : Nat → Int32} {ba_less : Nat → Int32} {ba_full : Nat → Int32} {post : Int32 → (Nat → Int32) → Prop} {x1 : Int32} {x2 : Int32} {x3 : Int32} {x4 : Int32} {ls : Array Slot} {H : Heap} {locs : List Loc}
    (zc : zC p s m args meth c cX10_psalm 7 RX10 (some .int))
    (hK : zK E s)
    (hM : wxW E qx ta_tape tf_length tf_fault tf_place ta_counts tl0f_huts tl0f_singers tl0f_villages tl0f_dams tl0f_echoes tl0f_deep tl0f_slide tl0a_heights tl0a_ladders tl0a_minutes tl0a_echoFrom tl0a_echoTo tl0a_homes tl0a_talls tl0a_known tl1f_huts tl1f_singers tl1f_villages tl1f_dams tl1f_echoes tl1f_deep tl1f_slide tl1a_heights tl1a_ladders tl1a_minutes tl1a_echoFrom tl1a_echoTo tl1a_homes tl1a_talls tl1a_known tv0f_deeds tv0a_kinds tv0a_firsts tv0a_seconds tv1f_deeds tv1a_kinds tv1a_firsts tv1a_seconds ts0f_facts ts0a_heard ts0a_huts ts0a_minutes ts1f_facts ts1a_heard ts1a_huts ts1a_minutes tc0f_voices tc0f_step tc0a_parts tc0a_heights tc1f_voices tc1f_step tc1a_parts tc1a_heights m_images rlf_huts rlf_singers rlf_villages rlf_dams rlf_echoes rlf_deep rlf_slide rla_heights rla_ladders rla_minutes rla_echoFrom rla_echoTo rla_homes rla_talls rla_known rvf_deeds rva_kinds rva_firsts rva_seconds rsf_facts rsa_heard rsa_huts rsa_minutes rcf_voices rcf_step rca_parts rca_heights rf_fault rf_faultPlace ra_numbers ra_tape rf_length rf_behind rf_kind rf_first rf_value rf_hutsToldOf rf_singersToldOf nf_minute nf_avalanches nf_begun nf_climbed nf_seed na_huts na_known na_levels na_snow na_open pa_heard pa_walked pa_total pa_longest pa_next pa_cover pa_now pa_then ko_stands ka_gaps ka_behind ba_less ba_full H)
    (hS : va_S (wxA qx) s.heap H locs)
    (hl : lv_has ls 7 [(0, .ref qx), (1, .int x1), (2, .int x2), (3, .int x3), (4, .int x4)])
    (hw : q_wx_X10_psalm_0 ta_counts tl0f_huts tl0f_dams tl0f_echoes tl0a_heights tl0a_minutes tl0a_echoFrom tl0a_echoTo tl1f_huts tl1f_dams tl1f_echoes tl1a_heights tl1a_minutes tl1a_echoFrom tl1a_echoTo pa_heard x1 x2 x3 x4 post) :
    W p l e rm_wx_X10_psalm s m args below meth c H locs 0 0 (MQ below (zQi (S := (Nat → Int32)) (fun r u => post r u) (fun u H => wxW E qx ta_tape tf_length tf_fault tf_place ta_counts tl0f_huts tl0f_singers tl0f_villages tl0f_dams tl0f_echoes tl0f_deep tl0f_slide tl0a_heights tl0a_ladders tl0a_minutes tl0a_echoFrom tl0a_echoTo tl0a_homes tl0a_talls tl0a_known tl1f_huts tl1f_singers tl1f_villages tl1f_dams tl1f_echoes tl1f_deep tl1f_slide tl1a_heights tl1a_ladders tl1a_minutes tl1a_echoFrom tl1a_echoTo tl1a_homes tl1a_talls tl1a_known tv0f_deeds tv0a_kinds tv0a_firsts tv0a_seconds tv1f_deeds tv1a_kinds tv1a_firsts tv1a_seconds ts0f_facts ts0a_heard ts0a_huts ts0a_minutes ts1f_facts ts1a_heard ts1a_huts ts1a_minutes tc0f_voices tc0f_step tc0a_parts tc0a_heights tc1f_voices tc1f_step tc1a_parts tc1a_heights m_images rlf_huts rlf_singers rlf_villages rlf_dams rlf_echoes rlf_deep rlf_slide rla_heights rla_ladders rla_minutes rla_echoFrom rla_echoTo rla_homes rla_talls rla_known rvf_deeds rva_kinds rva_firsts rva_seconds rsf_facts rsa_heard rsa_huts rsa_minutes rcf_voices rcf_step rca_parts rca_heights rf_fault rf_faultPlace ra_numbers ra_tape rf_length rf_behind rf_kind rf_first rf_value rf_hutsToldOf rf_singersToldOf nf_minute nf_avalanches nf_begun nf_climbed nf_seed na_huts na_known na_levels na_snow na_open u pa_walked pa_total pa_longest pa_next pa_cover pa_now pa_then ko_stands ka_gaps ka_behind ba_less ba_full H) (wxA qx)) args s 0 0 (wxA qx)) (F0 m 0 ls []) := by
  have hx := zc.1
  have hb := zc.2.1
  refine lv_aload_n hx hb dX10_psalm_0 rfl (lv_at hl 0 rfl) ?_
  refine lv_iload_n hx hb dX10_psalm_1 rfl (lv_at hl 1 rfl) ?_
  refine zV_r [.int x1] [] zc ky_X10_landAt kz_X10_landAt km_10_89 (c_wx_X10_landAt l hw) (wxPreV0 hK hM) rfl rfl hl.1 (Nat.le_of_ble_eq_true rfl) ⟨rfl, rfl⟩ ⟨Nat.le_of_ble_eq_true rfl, Nat.le_of_ble_eq_true rfl⟩ ⟨(Nat.zero_le _), (Nat.zero_le _)⟩ dX10_psalm_2 (fun r_1 hw => ?_)
  by_cases hc0 : r_1 = 0
  · have hw := hw.1 hc0
    refine W.eq (g2 := F0 m 5 ls (.null :: [])) (by simp [hc0]) ?_
    refine lv_astoreN (lv' := [(5, .null), (0, .ref qx), (1, .int x1), (2, .int x2), (3, .int x3), (4, .int x4)]) hx hb dX10_psalm_5 hl (by decide) rfl (fun ls hl => ?_)
    refine lv_aloadN hx hb dX10_psalm_7 (lv_at hl 0 rfl) ?_
    refine lv_ifnullN (tgt := 42) hx hb dX10_psalm_9 (by decide) ?_
    refine lv_bipush (v := (-2 : Int32)) hx hb dX10_psalm_42 (by decide) ?_
    exact zret_iw pa_heard zc hS hw hM dX10_psalm_44
  by_cases hc1 : r_1 = 1
  · have hw := hw.2.1 hc1
    refine W.eq (g2 := F0 m 5 ls (.ref (qx + 14) :: [])) (by simp [hc0, hc1]) ?_
    refine lv_astore (lv' := [(5, .ref (qx + 14)), (0, .ref qx), (1, .int x1), (2, .int x2), (3, .int x3), (4, .int x4)]) hx hb dX10_psalm_5 hl (by decide) rfl (fun ls hl => ?_)
    refine lv_aload hx hb dX10_psalm_7 (lv_at hl 0 rfl) ?_
    refine lv_ifnull hx hb dX10_psalm_9 ?_
    refine lv_aload hx hb dX10_psalm_12 (lv_at hl 0 rfl) ?_
    refine lv_iload_n hx hb dX10_psalm_14 rfl (lv_at hl 3 rfl) ?_
    refine zV_i [.int x2] [] zc ky_X2_hasHut kz_X2_hasHut km_10_135 (c_wl_X2_hasHut l hw) (wlPreV0 hK (pj_wx_wl_14 hM)) rfl rfl hl.1 (Nat.le_of_ble_eq_true rfl) ⟨rfl, rfl⟩ ⟨Nat.le_of_ble_eq_true rfl, Nat.le_of_ble_eq_true rfl⟩ ⟨(Nat.zero_le _), (Nat.zero_le _)⟩ dX10_psalm_15 (fun r_2 hw => ?_)
    refine lv_if_eq (tgt := 42) hx hb dX10_psalm_18 (by decide) (fun hc => ?_) (fun hc => ?_)
    · have hw := hw.1 hc
      refine lv_bipush (v := (-2 : Int32)) hx hb dX10_psalm_42 (by decide) ?_
      exact zret_iw pa_heard zc hS hw hM dX10_psalm_44
    · have hw := hw.2 hc
      refine lv_iload_n hx hb dX10_psalm_21 rfl (lv_at hl 4 rfl) ?_
      refine lv_if_lt (tgt := 42) hx hb dX10_psalm_22 (by decide) (fun hc => ?_) (fun hc => ?_)
      · have hw := hw.1 hc
        refine lv_bipush (v := (-2 : Int32)) hx hb dX10_psalm_42 (by decide) ?_
        exact zret_iw pa_heard zc hS hw hM dX10_psalm_44
      · have hw := hw.2 hc
        refine lv_iload_n hx hb dX10_psalm_25 rfl (lv_at hl 4 rfl) ?_
        refine lv_bipush (v := (99 : Int32)) hx hb dX10_psalm_26 (by decide) ?_
        refine lv_icmp_gt (tgt := 42) hx hb dX10_psalm_28 (by decide) (fun hc => ?_) (fun hc => ?_)
        · have hw := hw.1 hc
          refine lv_bipush (v := (-2 : Int32)) hx hb dX10_psalm_42 (by decide) ?_
          exact zret_iw pa_heard zc hS hw hM dX10_psalm_44
        · have hw := hw.2 hc
          refine lv_iload hx hb dX10_psalm_31 (lv_at hl 5 rfl) ?_
          refine lv_if_lt (tgt := 42) hx hb dX10_psalm_33 (by decide) (fun hc => ?_) (fun hc => ?_)
          · have hw := hw.1 hc
            refine lv_bipush (v := (-2 : Int32)) hx hb dX10_psalm_42 (by decide) ?_
            exact zret_iw pa_heard zc hS hw hM dX10_psalm_44
          · have hw := hw.2 hc
            refine lv_iload hx hb dX10_psalm_36 (lv_at hl 5 rfl) ?_
            refine lv_iconst (v := (2 : Int32)) hx hb dX10_psalm_38 (by decide) ?_
            refine lv_icmp_le (tgt := 45) hx hb dX10_psalm_39 (by decide) (fun hc => ?_) (fun hc => ?_)
            · have hw := hw.1 hc
              refine lv_aload_n hx hb dX10_psalm_45 rfl (lv_at hl 1 rfl) ?_
              refine wxg_10_37_0 zc hK hM dX10_psalm_46 ?_
              refine lv_aload hx hb dX10_psalm_49 (lv_at hl 0 rfl) ?_
              refine zVx_v [.ref (qx + 14)] [] zc ky_X7_hear kz_X7_hear km_10_139 (c_wp_X7_hear_9 l hw) (wpPreV0 hK (pj_wx_wp_78_14_33 hM)) hS (sb_wx_wp_78_14_33) rfl rfl hl.1 (Nat.le_of_ble_eq_true rfl) ⟨rfl, rfl⟩ ⟨Nat.le_of_ble_eq_true rfl, Nat.le_of_ble_eq_true rfl⟩ ⟨(Nat.zero_le _), (Nat.zero_le _)⟩ dX10_psalm_51 (fun pa_heard_1 H1 locs1 hw hM1 hk hS => ?_)
              have hM := jn_wx_wp_78_14_33 hM hM1 hk
              refine lv_aload_n hx hb dX10_psalm_54 rfl (lv_at hl 1 rfl) ?_
              refine wxg_10_37_0 zc hK hM dX10_psalm_55 ?_
              refine lv_aload hx hb dX10_psalm_58 (lv_at hl 0 rfl) ?_
              refine lv_iload_n hx hb dX10_psalm_60 rfl (lv_at hl 3 rfl) ?_
              refine lv_iload_n hx hb dX10_psalm_61 rfl (lv_at hl 4 rfl) ?_
              refine zV_i [.ref (qx + 14), .int x2, .int x3] [] zc ky_X7_fromBy kz_X7_fromBy km_10_273 (c_wp_X7_fromBy_9 l hw) (wpPreV0 hK (pj_wx_wp_78_14_33 hM)) rfl rfl hl.1 (Nat.le_of_ble_eq_true rfl) ⟨rfl, rfl⟩ ⟨Nat.le_of_ble_eq_true rfl, Nat.le_of_ble_eq_true rfl⟩ ⟨(Nat.zero_le _), (Nat.zero_le _)⟩ dX10_psalm_62 (fun r_3 hw => ?_)
              refine lv_istore (lv' := [(6, .int r_3), (5, .ref (qx + 14)), (0, .ref qx), (1, .int x1), (2, .int x2), (3, .int x3), (4, .int x4)]) hx hb dX10_psalm_65 hl (by decide) rfl (fun ls hl => ?_)
              refine lv_iload hx hb dX10_psalm_67 (lv_at hl 6 rfl) ?_
              refine lv_if_ne (tgt := 75) hx hb dX10_psalm_69 (by decide) (fun hc => ?_) (fun hc => ?_)
              · have hw := hw.1 hc
                refine lv_iload hx hb dX10_psalm_75 (lv_at hl 0 rfl) ?_
                refine lv_if_ne (tgt := 82) hx hb dX10_psalm_77 (by decide) (fun hc => ?_) (fun hc => ?_)
                · have hw := hw.1 hc
                  refine lv_iload hx hb dX10_psalm_82 (lv_at hl 6 rfl) ?_
                  refine lv_iconst (v := (1 : Int32)) hx hb dX10_psalm_84 (by decide) ?_
                  refine lv_icmp_ne (tgt := 98) hx hb dX10_psalm_85 (by decide) (fun hc => ?_) (fun hc => ?_)
                  · have hw := hw.1 hc
                    refine lv_iload_n hx hb dX10_psalm_98 rfl (lv_at hl 5 rfl) ?_
                    refine lv_aload_n hx hb dX10_psalm_99 rfl (lv_at hl 2 rfl) ?_
                    refine wxg_10_37_0 zc hK hM dX10_psalm_100 ?_
                    refine lv_aload hx hb dX10_psalm_103 (lv_at hl 1 rfl) ?_
                    refine lv_iload_n hx hb dX10_psalm_105 rfl (lv_at hl 4 rfl) ?_
                    refine zV_i [.ref (qx + 14), .int x2] [.int x3] zc ky_X7_soonest kz_X7_soonest km_10_279 (c_wp_X7_soonest_9 l hw) (wpPreV0 hK (pj_wx_wp_78_14_33 hM)) rfl rfl hl.1 (Nat.le_of_ble_eq_true rfl) ⟨rfl, rfl⟩ ⟨Nat.le_of_ble_eq_true rfl, Nat.le_of_ble_eq_true rfl⟩ ⟨(Nat.zero_le _), (Nat.zero_le _)⟩ dX10_psalm_106 (fun r_4 hw => ?_)
                    refine lv_isub hx hb dX10_psalm_109 ?_
                    exact zret_iw pa_heard_1 zc hS hw hM dX10_psalm_110
                  · have hw := hw.2 hc
                    refine lv_aload hx hb dX10_psalm_88 (lv_at hl 1 rfl) ?_
                    refine lv_iload hx hb dX10_psalm_90 (lv_at hl 0 rfl) ?_
                    refine zV_i [.int r_3] [] zc ky_X2_highest kz_X2_highest km_10_276 (c_wl_X2_highest l hw) (wlPreV0 hK (pj_wx_wl_14 hM)) rfl rfl hl.1 (Nat.le_of_ble_eq_true rfl) ⟨rfl, rfl⟩ ⟨Nat.le_of_ble_eq_true rfl, Nat.le_of_ble_eq_true rfl⟩ ⟨(Nat.zero_le _), (Nat.zero_le _)⟩ dX10_psalm_92 (fun r_5 hw => ?_)
                    refine lv_goto (tgt := 110) hx hb dX10_psalm_95 (by decide) ?_
                    exact zret_iw pa_heard_1 zc hS hw hM dX10_psalm_110
                · have hw := hw.2 hc
                  refine lv_iconst (v := (-1 : Int32)) hx hb dX10_psalm_80 (by decide) ?_
                  exact zret_iw pa_heard_1 zc hS hw hM dX10_psalm_81
              · have hw := hw.2 hc
                refine lv_iload hx hb dX10_psalm_72 (lv_at hl 0 rfl) ?_
                exact zret_iw pa_heard_1 zc hS hw hM dX10_psalm_74
            · have hw := hw.2 hc
              refine lv_bipush (v := (-2 : Int32)) hx hb dX10_psalm_42 (by decide) ?_
              exact zret_iw pa_heard zc hS hw hM dX10_psalm_44
  have hw := hw.2.2 hc0 hc1
  refine W.eq (g2 := F0 m 5 ls (.ref (qx + 5) :: [])) (by simp [hc0, hc1]) ?_
  refine lv_astore (lv' := [(5, .ref (qx + 5)), (0, .ref qx), (1, .int x1), (2, .int x2), (3, .int x3), (4, .int x4)]) hx hb dX10_psalm_5 hl (by decide) rfl (fun ls hl => ?_)
  refine lv_aload hx hb dX10_psalm_7 (lv_at hl 0 rfl) ?_
  refine lv_ifnull hx hb dX10_psalm_9 ?_
  refine lv_aload hx hb dX10_psalm_12 (lv_at hl 0 rfl) ?_
  refine lv_iload_n hx hb dX10_psalm_14 rfl (lv_at hl 3 rfl) ?_
  refine zV_i [.int x2] [] zc ky_X2_hasHut kz_X2_hasHut km_10_135 (c_wl_X2_hasHut l hw) (wlPreV0 hK (pj_wx_wl_5 hM)) rfl rfl hl.1 (Nat.le_of_ble_eq_true rfl) ⟨rfl, rfl⟩ ⟨Nat.le_of_ble_eq_true rfl, Nat.le_of_ble_eq_true rfl⟩ ⟨(Nat.zero_le _), (Nat.zero_le _)⟩ dX10_psalm_15 (fun r_6 hw => ?_)
  refine lv_if_eq (tgt := 42) hx hb dX10_psalm_18 (by decide) (fun hc => ?_) (fun hc => ?_)
  · have hw := hw.1 hc
    refine lv_bipush (v := (-2 : Int32)) hx hb dX10_psalm_42 (by decide) ?_
    exact zret_iw pa_heard zc hS hw hM dX10_psalm_44
  · have hw := hw.2 hc
    refine lv_iload_n hx hb dX10_psalm_21 rfl (lv_at hl 4 rfl) ?_
    refine lv_if_lt (tgt := 42) hx hb dX10_psalm_22 (by decide) (fun hc => ?_) (fun hc => ?_)
    · have hw := hw.1 hc
      refine lv_bipush (v := (-2 : Int32)) hx hb dX10_psalm_42 (by decide) ?_
      exact zret_iw pa_heard zc hS hw hM dX10_psalm_44
    · have hw := hw.2 hc
      refine lv_iload_n hx hb dX10_psalm_25 rfl (lv_at hl 4 rfl) ?_
      refine lv_bipush (v := (99 : Int32)) hx hb dX10_psalm_26 (by decide) ?_
      refine lv_icmp_gt (tgt := 42) hx hb dX10_psalm_28 (by decide) (fun hc => ?_) (fun hc => ?_)
      · have hw := hw.1 hc
        refine lv_bipush (v := (-2 : Int32)) hx hb dX10_psalm_42 (by decide) ?_
        exact zret_iw pa_heard zc hS hw hM dX10_psalm_44
      · have hw := hw.2 hc
        refine lv_iload hx hb dX10_psalm_31 (lv_at hl 5 rfl) ?_
        refine lv_if_lt (tgt := 42) hx hb dX10_psalm_33 (by decide) (fun hc => ?_) (fun hc => ?_)
        · have hw := hw.1 hc
          refine lv_bipush (v := (-2 : Int32)) hx hb dX10_psalm_42 (by decide) ?_
          exact zret_iw pa_heard zc hS hw hM dX10_psalm_44
        · have hw := hw.2 hc
          refine lv_iload hx hb dX10_psalm_36 (lv_at hl 5 rfl) ?_
          refine lv_iconst (v := (2 : Int32)) hx hb dX10_psalm_38 (by decide) ?_
          refine lv_icmp_le (tgt := 45) hx hb dX10_psalm_39 (by decide) (fun hc => ?_) (fun hc => ?_)
          · have hw := hw.1 hc
            refine lv_aload_n hx hb dX10_psalm_45 rfl (lv_at hl 1 rfl) ?_
            refine wxg_10_37_0 zc hK hM dX10_psalm_46 ?_
            refine lv_aload hx hb dX10_psalm_49 (lv_at hl 0 rfl) ?_
            refine zVx_v [.ref (qx + 5)] [] zc ky_X7_hear kz_X7_hear km_10_139 (c_wp_X7_hear_9 l hw) (wpPreV0 hK (pj_wx_wp_78_5_33 hM)) hS (sb_wx_wp_78_5_33) rfl rfl hl.1 (Nat.le_of_ble_eq_true rfl) ⟨rfl, rfl⟩ ⟨Nat.le_of_ble_eq_true rfl, Nat.le_of_ble_eq_true rfl⟩ ⟨(Nat.zero_le _), (Nat.zero_le _)⟩ dX10_psalm_51 (fun pa_heard_2 H1 locs1 hw hM1 hk hS => ?_)
            have hM := jn_wx_wp_78_5_33 hM hM1 hk
            refine lv_aload_n hx hb dX10_psalm_54 rfl (lv_at hl 1 rfl) ?_
            refine wxg_10_37_0 zc hK hM dX10_psalm_55 ?_
            refine lv_aload hx hb dX10_psalm_58 (lv_at hl 0 rfl) ?_
            refine lv_iload_n hx hb dX10_psalm_60 rfl (lv_at hl 3 rfl) ?_
            refine lv_iload_n hx hb dX10_psalm_61 rfl (lv_at hl 4 rfl) ?_
            refine zV_i [.ref (qx + 5), .int x2, .int x3] [] zc ky_X7_fromBy kz_X7_fromBy km_10_273 (c_wp_X7_fromBy_9 l hw) (wpPreV0 hK (pj_wx_wp_78_5_33 hM)) rfl rfl hl.1 (Nat.le_of_ble_eq_true rfl) ⟨rfl, rfl⟩ ⟨Nat.le_of_ble_eq_true rfl, Nat.le_of_ble_eq_true rfl⟩ ⟨(Nat.zero_le _), (Nat.zero_le _)⟩ dX10_psalm_62 (fun r_7 hw => ?_)
            refine lv_istore (lv' := [(6, .int r_7), (5, .ref (qx + 5)), (0, .ref qx), (1, .int x1), (2, .int x2), (3, .int x3), (4, .int x4)]) hx hb dX10_psalm_65 hl (by decide) rfl (fun ls hl => ?_)
            refine lv_iload hx hb dX10_psalm_67 (lv_at hl 6 rfl) ?_
            refine lv_if_ne (tgt := 75) hx hb dX10_psalm_69 (by decide) (fun hc => ?_) (fun hc => ?_)
            · have hw := hw.1 hc
              refine lv_iload hx hb dX10_psalm_75 (lv_at hl 0 rfl) ?_
              refine lv_if_ne (tgt := 82) hx hb dX10_psalm_77 (by decide) (fun hc => ?_) (fun hc => ?_)
              · have hw := hw.1 hc
                refine lv_iload hx hb dX10_psalm_82 (lv_at hl 6 rfl) ?_
                refine lv_iconst (v := (1 : Int32)) hx hb dX10_psalm_84 (by decide) ?_
                refine lv_icmp_ne (tgt := 98) hx hb dX10_psalm_85 (by decide) (fun hc => ?_) (fun hc => ?_)
                · have hw := hw.1 hc
                  refine lv_iload_n hx hb dX10_psalm_98 rfl (lv_at hl 5 rfl) ?_
                  refine lv_aload_n hx hb dX10_psalm_99 rfl (lv_at hl 2 rfl) ?_
                  refine wxg_10_37_0 zc hK hM dX10_psalm_100 ?_
                  refine lv_aload hx hb dX10_psalm_103 (lv_at hl 1 rfl) ?_
                  refine lv_iload_n hx hb dX10_psalm_105 rfl (lv_at hl 4 rfl) ?_
                  refine zV_i [.ref (qx + 5), .int x2] [.int x3] zc ky_X7_soonest kz_X7_soonest km_10_279 (c_wp_X7_soonest_9 l hw) (wpPreV0 hK (pj_wx_wp_78_5_33 hM)) rfl rfl hl.1 (Nat.le_of_ble_eq_true rfl) ⟨rfl, rfl⟩ ⟨Nat.le_of_ble_eq_true rfl, Nat.le_of_ble_eq_true rfl⟩ ⟨(Nat.zero_le _), (Nat.zero_le _)⟩ dX10_psalm_106 (fun r_8 hw => ?_)
                  refine lv_isub hx hb dX10_psalm_109 ?_
                  exact zret_iw pa_heard_2 zc hS hw hM dX10_psalm_110
                · have hw := hw.2 hc
                  refine lv_aload hx hb dX10_psalm_88 (lv_at hl 1 rfl) ?_
                  refine lv_iload hx hb dX10_psalm_90 (lv_at hl 0 rfl) ?_
                  refine zV_i [.int r_7] [] zc ky_X2_highest kz_X2_highest km_10_276 (c_wl_X2_highest l hw) (wlPreV0 hK (pj_wx_wl_5 hM)) rfl rfl hl.1 (Nat.le_of_ble_eq_true rfl) ⟨rfl, rfl⟩ ⟨Nat.le_of_ble_eq_true rfl, Nat.le_of_ble_eq_true rfl⟩ ⟨(Nat.zero_le _), (Nat.zero_le _)⟩ dX10_psalm_92 (fun r_9 hw => ?_)
                  refine lv_goto (tgt := 110) hx hb dX10_psalm_95 (by decide) ?_
                  exact zret_iw pa_heard_2 zc hS hw hM dX10_psalm_110
              · have hw := hw.2 hc
                refine lv_iconst (v := (-1 : Int32)) hx hb dX10_psalm_80 (by decide) ?_
                exact zret_iw pa_heard_2 zc hS hw hM dX10_psalm_81
            · have hw := hw.2 hc
              refine lv_iload hx hb dX10_psalm_72 (lv_at hl 0 rfl) ?_
              exact zret_iw pa_heard_2 zc hS hw hM dX10_psalm_74
          · have hw := hw.2 hc
            refine lv_bipush (v := (-2 : Int32)) hx hb dX10_psalm_42 (by decide) ?_
            exact zret_iw pa_heard zc hS hw hM dX10_psalm_44
set_option maxRecDepth 20000 in
theorem c_wx_X10_psalm (l : Launch) {E : zE} {qx : Nat} {ta_tape : Nat → Int32} {tf_length : Int32} {tf_fault : Int32} {tf_place : Int32} {ta_counts : Nat → Int32} {tl0f_huts : Int32} {tl0f_singers : Int32} {tl0f_villages : Int32} {tl0f_dams : Int32} {tl0f_echoes : Int32} {tl0f_deep : Int32} {tl0f_slide : Int32} {tl0a_heights : Nat → Int32} {tl0a_ladders : Nat → Int32} {tl0a_minutes : Nat → Int32} {tl0a_echoFrom : Nat → Int32} {tl0a_echoTo : Nat → Int32} {tl0a_homes : Nat → Int32} {tl0a_talls : Nat → Int32} {tl0a_known : Nat → Int32} {tl1f_huts : Int32} {tl1f_singers : Int32} {tl1f_villages : Int32} {tl1f_dams : Int32} {tl1f_echoes : Int32} {tl1f_deep : Int32} {tl1f_slide : Int32} {tl1a_heights : Nat → Int32} {tl1a_ladders : Nat → Int32} {tl1a_minutes : Nat → Int32} {tl1a_echoFrom : Nat → Int32} {tl1a_echoTo : Nat → Int32} {tl1a_homes : Nat → Int32} {tl1a_talls : Nat → Int32} {tl1a_known : Nat → Int32} {tv0f_deeds : Int32} {tv0a_kinds : Nat → Int32} {tv0a_firsts : Nat → Int32} {tv0a_seconds : Nat → Int32} {tv1f_deeds : Int32} {tv1a_kinds : Nat → Int32} {tv1a_firsts : Nat → Int32} {tv1a_seconds : Nat → Int32} {ts0f_facts : Int32} {ts0a_heard : Nat → Int32} {ts0a_huts : Nat → Int32} {ts0a_minutes : Nat → Int32} {ts1f_facts : Int32} {ts1a_heard : Nat → Int32} {ts1a_huts : Nat → Int32} {ts1a_minutes : Nat → Int32} {tc0f_voices : Int32} {tc0f_step : Int32} {tc0a_parts : Nat → Int32} {tc0a_heights : Nat → Int32} {tc1f_voices : Int32} {tc1f_step : Int32} {tc1a_parts : Nat → Int32} {tc1a_heights : Nat → Int32} {m_images : Nat → Option Nat} {rlf_huts : Int32} {rlf_singers : Int32} {rlf_villages : Int32} {rlf_dams : Int32} {rlf_echoes : Int32} {rlf_deep : Int32} {rlf_slide : Int32} {rla_heights : Nat → Int32} {rla_ladders : Nat → Int32} {rla_minutes : Nat → Int32} {rla_echoFrom : Nat → Int32} {rla_echoTo : Nat → Int32} {rla_homes : Nat → Int32} {rla_talls : Nat → Int32} {rla_known : Nat → Int32} {rvf_deeds : Int32} {rva_kinds : Nat → Int32} {rva_firsts : Nat → Int32} {rva_seconds : Nat → Int32} {rsf_facts : Int32} {rsa_heard : Nat → Int32} {rsa_huts : Nat → Int32} {rsa_minutes : Nat → Int32} {rcf_voices : Int32} {rcf_step : Int32} {rca_parts : Nat → Int32} {rca_heights : Nat → Int32} {rf_fault : Int32} {rf_faultPlace : Int32} {ra_numbers : Nat → Int32} {ra_tape : Nat → Int32} {rf_length : Int32} {rf_behind : Int32} {rf_kind : Int32} {rf_first : Int32} {rf_value : Int32} {rf_hutsToldOf : Int32} {rf_singersToldOf : Int32} {nf_minute : Int32} {nf_avalanches : Int32} {nf_begun : Int32} {nf_climbed : Int32} {nf_seed : Int32} {na_huts : Nat → Int32} {na_known : Nat → Int32} {na_levels : Nat → Int32} {na_snow : Nat → Int32} {na_open : Nat → Int32} {pa_heard : Nat → Int32} {pa_walked : Nat → Int32} {pa_total : Nat → Int32} {pa_longest : Nat → Int32} {pa_next : Nat → Int32} {pa_cover : Nat → Int32} {pa_now : Nat → Int32} {pa_then : Nat → Int32} {ko_stands : Option Nat} {ka_gaps : Nat → Int32} {ka_behind : Nat → Int32} {ba_less : Nat → Int32} {ba_full : Nat → Int32} {x1 : Int32} {x2 : Int32} {x3 : Int32} {x4 : Int32} {post : Int32 → (Nat → Int32) → Prop} (hw : q_wx_X10_psalm_0 ta_counts tl0f_huts tl0f_dams tl0f_echoes tl0a_heights tl0a_minutes tl0a_echoFrom tl0a_echoTo tl1f_huts tl1f_dams tl1f_echoes tl1a_heights tl1a_minutes tl1a_echoFrom tl1a_echoTo pa_heard x1 x2 x3 x4 post) : Met l yX10_psalm (Cond.code yX10_psalm cX10_psalm 7 (some .int) :: zb) rm_wx_X10_psalm (va_Pc [.ref qx, .int x1, .int x2, .int x3, .int x4] (fun U => wxW E qx ta_tape tf_length tf_fault tf_place ta_counts tl0f_huts tl0f_singers tl0f_villages tl0f_dams tl0f_echoes tl0f_deep tl0f_slide tl0a_heights tl0a_ladders tl0a_minutes tl0a_echoFrom tl0a_echoTo tl0a_homes tl0a_talls tl0a_known tl1f_huts tl1f_singers tl1f_villages tl1f_dams tl1f_echoes tl1f_deep tl1f_slide tl1a_heights tl1a_ladders tl1a_minutes tl1a_echoFrom tl1a_echoTo tl1a_homes tl1a_talls tl1a_known tv0f_deeds tv0a_kinds tv0a_firsts tv0a_seconds tv1f_deeds tv1a_kinds tv1a_firsts tv1a_seconds ts0f_facts ts0a_heard ts0a_huts ts0a_minutes ts1f_facts ts1a_heard ts1a_huts ts1a_minutes tc0f_voices tc0f_step tc0a_parts tc0a_heights tc1f_voices tc1f_step tc1a_parts tc1a_heights m_images rlf_huts rlf_singers rlf_villages rlf_dams rlf_echoes rlf_deep rlf_slide rla_heights rla_ladders rla_minutes rla_echoFrom rla_echoTo rla_homes rla_talls rla_known rvf_deeds rva_kinds rva_firsts rva_seconds rsf_facts rsa_heard rsa_huts rsa_minutes rcf_voices rcf_step rca_parts rca_heights rf_fault rf_faultPlace ra_numbers ra_tape rf_length rf_behind rf_kind rf_first rf_value rf_hutsToldOf rf_singersToldOf nf_minute nf_avalanches nf_begun nf_climbed nf_seed na_huts na_known na_levels na_snow na_open pa_heard pa_walked pa_total pa_longest pa_next pa_cover pa_now pa_then ko_stands ka_gaps ka_behind ba_less ba_full U.heap ∧ zK E U)) (zQi (S := (Nat → Int32)) (fun r u => post r u) (fun u H => wxW E qx ta_tape tf_length tf_fault tf_place ta_counts tl0f_huts tl0f_singers tl0f_villages tl0f_dams tl0f_echoes tl0f_deep tl0f_slide tl0a_heights tl0a_ladders tl0a_minutes tl0a_echoFrom tl0a_echoTo tl0a_homes tl0a_talls tl0a_known tl1f_huts tl1f_singers tl1f_villages tl1f_dams tl1f_echoes tl1f_deep tl1f_slide tl1a_heights tl1a_ladders tl1a_minutes tl1a_echoFrom tl1a_echoTo tl1a_homes tl1a_talls tl1a_known tv0f_deeds tv0a_kinds tv0a_firsts tv0a_seconds tv1f_deeds tv1a_kinds tv1a_firsts tv1a_seconds ts0f_facts ts0a_heard ts0a_huts ts0a_minutes ts1f_facts ts1a_heard ts1a_huts ts1a_minutes tc0f_voices tc0f_step tc0a_parts tc0a_heights tc1f_voices tc1f_step tc1a_parts tc1a_heights m_images rlf_huts rlf_singers rlf_villages rlf_dams rlf_echoes rlf_deep rlf_slide rla_heights rla_ladders rla_minutes rla_echoFrom rla_echoTo rla_homes rla_talls rla_known rvf_deeds rva_kinds rva_firsts rva_seconds rsf_facts rsa_heard rsa_huts rsa_minutes rcf_voices rcf_step rca_parts rca_heights rf_fault rf_faultPlace ra_numbers ra_tape rf_length rf_behind rf_kind rf_first rf_value rf_hutsToldOf rf_singersToldOf nf_minute nf_avalanches nf_begun nf_climbed nf_seed na_huts na_known na_levels na_snow na_open u pa_walked pa_total pa_longest pa_next pa_cover pa_now pa_then ko_stands ka_gaps ka_behind ba_less ba_full H) (wxA qx)) 0 0 (wxA qx) := by
  refine Met.ofW (cc := cX10_psalm) (maxL := 7) (ret := (some .int)) (by decide) rfl ?_
  intro p e s m args below meth c s₁ B hml hv
  obtain ⟨rfl, hM, hK⟩ := hv
  have zc := zc_of B hml
  have hl := lv_entry ([.ref qx, .int x1, .int x2, .int x3, .int x4]) (n := 7) (Nat.le_of_ble_eq_true rfl)
  rw [lg_entry_eq]
  generalize (lg_sl ([.ref qx, .int x1, .int x2, .int x3, .int x4]) ++ List.replicate (7 - (lg_sl ([.ref qx, .int x1, .int x2, .int x3, .int x4])).length) Slot.unset).toArray = ls at hl ⊢
  have hl : lv_has ls 7 [(0, .ref qx), (1, .int x1), (2, .int x2), (3, .int x3), (4, .int x4)] := hl
  exact t_wx_X10_psalm_0 zc hK hM va_S.rf (lv_sub hl [0, 1, 2, 3, 4] rfl) hw
-- wx_X10_meet
abbrev rm_wx_X10_meet : Room := { frames := 2, cells := 0, slots := 0, locals := 69 }
def q_wx_X10_meet_0 (ta_counts : Nat → Int32) (tl0f_huts : Int32) (tl0f_singers : Int32) (tl0a_minutes : Nat → Int32) (tl0a_homes : Nat → Int32) (tl1f_huts : Int32) (tl1f_singers : Int32) (tl1a_minutes : Nat → Int32) (tl1a_homes : Nat → Int32) (pa_walked : Nat → Int32) (x1 : Int32) (x2 : Int32) (x3 : Int32) (x4 : Int32) (post : Int32 → (Nat → Int32) → Prop) : Prop :=
  q_wx_X10_landAt_0 ta_counts x1 (fun r_1 => (r_1 = 0 → (post (-1 : Int32) pa_walked)) ∧ (r_1 = 1 → (q_wl_X2_hasSinger_0 tl1f_singers x2 (fun r_2 => (r_2 = 0 → (post (-1 : Int32) pa_walked)) ∧ (¬ r_2 = 0 → (q_wl_X2_hasSinger_0 tl1f_singers x3 (fun r_3 => (r_3 = 0 → (post (-1 : Int32) pa_walked)) ∧ (¬ r_3 = 0 → ((¬ x2 = x3 → (q_wp_X7_walk_9_0 pa_walked tl1f_huts tl1a_minutes (fun pa_walked_1 => vp_in x2 6 ∧ (vp_in x3 6 ∧ (q_wp_X7_together_9_2_0 pa_walked_1 tl1f_huts (tl1a_homes (Int32.toNatClampNeg x2)) (tl1a_homes (Int32.toNatClampNeg x3)) x4 (fun r_4 => post r_4 pa_walked_1)))))) ∧ (x2 = x3 → (post (-1 : Int32) pa_walked)))))))))) ∧ (¬ r_1 = 0 → ¬ r_1 = 1 → (q_wl_X2_hasSinger_0 tl0f_singers x2 (fun r_5 => (r_5 = 0 → (post (-1 : Int32) pa_walked)) ∧ (¬ r_5 = 0 → (q_wl_X2_hasSinger_0 tl0f_singers x3 (fun r_6 => (r_6 = 0 → (post (-1 : Int32) pa_walked)) ∧ (¬ r_6 = 0 → ((¬ x2 = x3 → (q_wp_X7_walk_9_0 pa_walked tl0f_huts tl0a_minutes (fun pa_walked_2 => vp_in x2 6 ∧ (vp_in x3 6 ∧ (q_wp_X7_together_9_2_0 pa_walked_2 tl0f_huts (tl0a_homes (Int32.toNatClampNeg x2)) (tl0a_homes (Int32.toNatClampNeg x3)) x4 (fun r_7 => post r_7 pa_walked_2)))))) ∧ (x2 = x3 → (post (-1 : Int32) pa_walked)))))))))))
set_option maxRecDepth 20000 in
theorem t_wx_X10_meet_0 {p : Program} {l : Launch} {e : Env} {s : State} {m : MethodId} {args : Array Value} {below : List Frame} {meth : Method} {c : Code} {E : zE} {qx : Nat} {ta_tape : Nat → Int32} {tf_length : Int32} {tf_fault : Int32} {tf_place : Int32} {ta_counts : Nat → Int32} {tl0f_huts : Int32} {tl0f_singers : Int32} {tl0f_villages : Int32} {tl0f_dams : Int32} {tl0f_echoes : Int32} {tl0f_deep : Int32} {tl0f_slide : Int32} {tl0a_heights : Nat → Int32} {tl0a_ladders : Nat → Int32} {tl0a_minutes : Nat → Int32} {tl0a_echoFrom : Nat → Int32} {tl0a_echoTo : Nat → Int32} {tl0a_homes : Nat → Int32} {tl0a_talls : Nat → Int32} {tl0a_known : Nat → Int32} {tl1f_huts : Int32} {tl1f_singers : Int32} {tl1f_villages : Int32} {tl1f_dams : Int32} {tl1f_echoes : Int32} {tl1f_deep : Int32} {tl1f_slide : Int32} {tl1a_heights : Nat → Int32} {tl1a_ladders : Nat → Int32} {tl1a_minutes : Nat → Int32} {tl1a_echoFrom : Nat → Int32} {tl1a_echoTo : Nat → Int32} {tl1a_homes : Nat → Int32} {tl1a_talls : Nat → Int32} {tl1a_known : Nat → Int32} {tv0f_deeds : Int32} {tv0a_kinds : Nat → Int32} {tv0a_firsts : Nat → Int32} {tv0a_seconds : Nat → Int32} {tv1f_deeds : Int32} {tv1a_kinds : Nat → Int32} {tv1a_firsts : Nat → Int32} {tv1a_seconds : Nat → Int32} {ts0f_facts : Int32} {ts0a_heard : Nat → Int32} {ts0a_huts : Nat → Int32} {ts0a_minutes : Nat → Int32} {ts1f_facts : Int32} {ts1a_heard : Nat → Int32} {ts1a_huts : Nat → Int32} {ts1a_minutes : Nat → Int32} {tc0f_voices : Int32} {tc0f_step : Int32} {tc0a_parts : Nat → Int32} {tc0a_heights : Nat → Int32} {tc1f_voices : Int32} {tc1f_step : Int32} {tc1a_parts : Nat → Int32} {tc1a_heights : Nat → Int32} {m_images : Nat → Option Nat} {rlf_huts : Int32} {rlf_singers : Int32} {rlf_villages : Int32} {rlf_dams : Int32} {rlf_echoes : Int32} {rlf_deep : Int32} {rlf_slide : Int32} {rla_heights : Nat → Int32} {rla_ladders : Nat → Int32} {rla_minutes : Nat → Int32} {rla_echoFrom : Nat → Int32} {rla_echoTo : Nat → Int32} {rla_homes : Nat → Int32} {rla_talls : Nat → Int32} {rla_known : Nat → Int32} {rvf_deeds : Int32} {rva_kinds : Nat → Int32} {rva_firsts : Nat → Int32} {rva_seconds : Nat → Int32} {rsf_facts : Int32} {rsa_heard : Nat → Int32} {rsa_huts : Nat → Int32} {rsa_minutes : Nat → Int32} {rcf_voices : Int32} {rcf_step : Int32} {rca_parts : Nat → Int32} {rca_heights : Nat → Int32} {rf_fault : Int32} {rf_faultPlace : Int32} {ra_numbers : Nat → Int32} {ra_tape : Nat → Int32} {rf_length : Int32} {rf_behind : Int32} {rf_kind : Int32} {rf_first : Int32} {rf_value : Int32} {rf_hutsToldOf : Int32} {rf_singersToldOf : Int32} {nf_minute : Int32} {nf_avalanches : Int32} {nf_begun : Int32} {nf_climbed : Int32} {nf_seed : Int32} {na_huts : Nat → Int32} {na_known : Nat → Int32} {na_levels : Nat → Int32} {na_snow : Nat → Int32} {na_open : Nat → Int32} {pa_heard : Nat → Int32} {pa_walked : Nat → Int32} {pa_total : Nat → Int32} {pa_longest : Nat → Int32} {pa_next : Nat → Int32} {pa_cover : Nat → Int32} {pa_now : Nat → Int32} {pa_then : Nat → Int32} {ko_stands : Option Nat} {ka_gaps : Nat → Int32} {ka_behind : Nat → Int32} {ba_less : Nat → Int32} {ba_full : Nat → Int32} {post : Int32 → (Nat → Int32) → Prop} {x1 : Int32} {x2 : Int32} {x3 : Int32} {x4 : Int32} {ls : Array Slot} {H : Heap} {locs : List Loc}
    (zc : zC p s m args meth c cX10_meet 6 RX10 (some .int))
    (hK : zK E s)
    (hM : wxW E qx ta_tape tf_length tf_fault tf_place ta_counts tl0f_huts tl0f_singers tl0f_villages tl0f_dams tl0f_echoes tl0f_deep tl0f_slide tl0a_heights tl0a_ladders tl0a_minutes tl0a_echoFrom tl0a_echoTo tl0a_homes tl0a_talls tl0a_known tl1f_huts tl1f_singers tl1f_villages tl1f_dams tl1f_echoes tl1f_deep tl1f_slide tl1a_heights tl1a_ladders tl1a_minutes tl1a_echoFrom tl1a_echoTo tl1a_homes tl1a_talls tl1a_known tv0f_deeds tv0a_kinds tv0a_firsts tv0a_seconds tv1f_deeds tv1a_kinds tv1a_firsts tv1a_seconds ts0f_facts ts0a_heard ts0a_huts ts0a_minutes ts1f_facts ts1a_heard ts1a_huts ts1a_minutes tc0f_voices tc0f_step tc0a_parts tc0a_heights tc1f_voices tc1f_step tc1a_parts tc1a_heights m_images rlf_huts rlf_singers rlf_villages rlf_dams rlf_echoes rlf_deep rlf_slide rla_heights rla_ladders rla_minutes rla_echoFrom rla_echoTo rla_homes rla_talls rla_known rvf_deeds rva_kinds rva_firsts rva_seconds rsf_facts rsa_heard rsa_huts rsa_minutes rcf_voices rcf_step rca_parts rca_heights rf_fault rf_faultPlace ra_numbers ra_tape rf_length rf_behind rf_kind rf_first rf_value rf_hutsToldOf rf_singersToldOf nf_minute nf_avalanches nf_begun nf_climbed nf_seed na_huts na_known na_levels na_snow na_open pa_heard pa_walked pa_total pa_longest pa_next pa_cover pa_now pa_then ko_stands ka_gaps ka_behind ba_less ba_full H)
    (hS : va_S (wxA qx) s.heap H locs)
    (hl : lv_has ls 6 [(0, .ref qx), (1, .int x1), (2, .int x2), (3, .int x3), (4, .int x4)])
    (hw : q_wx_X10_meet_0 ta_counts tl0f_huts tl0f_singers tl0a_minutes tl0a_homes tl1f_huts tl1f_singers tl1a_minutes tl1a_homes pa_walked x1 x2 x3 x4 post) :
    W p l e rm_wx_X10_meet s m args below meth c H locs 0 0 (MQ below (zQi (S := (Nat → Int32)) (fun r u => post r u) (fun u H => wxW E qx ta_tape tf_length tf_fault tf_place ta_counts tl0f_huts tl0f_singers tl0f_villages tl0f_dams tl0f_echoes tl0f_deep tl0f_slide tl0a_heights tl0a_ladders tl0a_minutes tl0a_echoFrom tl0a_echoTo tl0a_homes tl0a_talls tl0a_known tl1f_huts tl1f_singers tl1f_villages tl1f_dams tl1f_echoes tl1f_deep tl1f_slide tl1a_heights tl1a_ladders tl1a_minutes tl1a_echoFrom tl1a_echoTo tl1a_homes tl1a_talls tl1a_known tv0f_deeds tv0a_kinds tv0a_firsts tv0a_seconds tv1f_deeds tv1a_kinds tv1a_firsts tv1a_seconds ts0f_facts ts0a_heard ts0a_huts ts0a_minutes ts1f_facts ts1a_heard ts1a_huts ts1a_minutes tc0f_voices tc0f_step tc0a_parts tc0a_heights tc1f_voices tc1f_step tc1a_parts tc1a_heights m_images rlf_huts rlf_singers rlf_villages rlf_dams rlf_echoes rlf_deep rlf_slide rla_heights rla_ladders rla_minutes rla_echoFrom rla_echoTo rla_homes rla_talls rla_known rvf_deeds rva_kinds rva_firsts rva_seconds rsf_facts rsa_heard rsa_huts rsa_minutes rcf_voices rcf_step rca_parts rca_heights rf_fault rf_faultPlace ra_numbers ra_tape rf_length rf_behind rf_kind rf_first rf_value rf_hutsToldOf rf_singersToldOf nf_minute nf_avalanches nf_begun nf_climbed nf_seed na_huts na_known na_levels na_snow na_open pa_heard u pa_total pa_longest pa_next pa_cover pa_now pa_then ko_stands ka_gaps ka_behind ba_less ba_full H) (wxA qx)) args s 0 0 (wxA qx)) (F0 m 0 ls []) := by
  have hx := zc.1
  have hb := zc.2.1
  refine lv_aload_n hx hb dX10_meet_0 rfl (lv_at hl 0 rfl) ?_
  refine lv_iload_n hx hb dX10_meet_1 rfl (lv_at hl 1 rfl) ?_
  refine zV_r [.int x1] [] zc ky_X10_landAt kz_X10_landAt km_10_89 (c_wx_X10_landAt l hw) (wxPreV0 hK hM) rfl rfl hl.1 (Nat.le_of_ble_eq_true rfl) ⟨rfl, rfl⟩ ⟨Nat.le_of_ble_eq_true rfl, Nat.le_of_ble_eq_true rfl⟩ ⟨(Nat.zero_le _), (Nat.zero_le _)⟩ dX10_meet_2 (fun r_1 hw => ?_)
  by_cases hc0 : r_1 = 0
  · have hw := hw.1 hc0
    refine W.eq (g2 := F0 m 5 ls (.null :: [])) (by simp [hc0]) ?_
    refine lv_astoreN (lv' := [(5, .null), (0, .ref qx), (1, .int x1), (2, .int x2), (3, .int x3), (4, .int x4)]) hx hb dX10_meet_5 hl (by decide) rfl (fun ls hl => ?_)
    refine lv_aloadN hx hb dX10_meet_7 (lv_at hl 0 rfl) ?_
    refine lv_ifnullN (tgt := 35) hx hb dX10_meet_9 (by decide) ?_
    refine lv_iconst (v := (-1 : Int32)) hx hb dX10_meet_35 (by decide) ?_
    exact zret_iw pa_walked zc hS hw hM dX10_meet_36
  by_cases hc1 : r_1 = 1
  · have hw := hw.2.1 hc1
    refine W.eq (g2 := F0 m 5 ls (.ref (qx + 14) :: [])) (by simp [hc0, hc1]) ?_
    refine lv_astore (lv' := [(5, .ref (qx + 14)), (0, .ref qx), (1, .int x1), (2, .int x2), (3, .int x3), (4, .int x4)]) hx hb dX10_meet_5 hl (by decide) rfl (fun ls hl => ?_)
    refine lv_aload hx hb dX10_meet_7 (lv_at hl 0 rfl) ?_
    refine lv_ifnull hx hb dX10_meet_9 ?_
    refine lv_aload hx hb dX10_meet_12 (lv_at hl 0 rfl) ?_
    refine lv_iload_n hx hb dX10_meet_14 rfl (lv_at hl 3 rfl) ?_
    refine zV_i [.int x2] [] zc ky_X2_hasSinger kz_X2_hasSinger km_10_282 (c_wl_X2_hasSinger l hw) (wlPreV0 hK (pj_wx_wl_14 hM)) rfl rfl hl.1 (Nat.le_of_ble_eq_true rfl) ⟨rfl, rfl⟩ ⟨Nat.le_of_ble_eq_true rfl, Nat.le_of_ble_eq_true rfl⟩ ⟨(Nat.zero_le _), (Nat.zero_le _)⟩ dX10_meet_15 (fun r_2 hw => ?_)
    refine lv_if_eq (tgt := 35) hx hb dX10_meet_18 (by decide) (fun hc => ?_) (fun hc => ?_)
    · have hw := hw.1 hc
      refine lv_iconst (v := (-1 : Int32)) hx hb dX10_meet_35 (by decide) ?_
      exact zret_iw pa_walked zc hS hw hM dX10_meet_36
    · have hw := hw.2 hc
      refine lv_aload hx hb dX10_meet_21 (lv_at hl 0 rfl) ?_
      refine lv_iload_n hx hb dX10_meet_23 rfl (lv_at hl 4 rfl) ?_
      refine zV_i [.int x3] [] zc ky_X2_hasSinger kz_X2_hasSinger km_10_282 (c_wl_X2_hasSinger l hw) (wlPreV0 hK (pj_wx_wl_14 hM)) rfl rfl hl.1 (Nat.le_of_ble_eq_true rfl) ⟨rfl, rfl⟩ ⟨Nat.le_of_ble_eq_true rfl, Nat.le_of_ble_eq_true rfl⟩ ⟨(Nat.zero_le _), (Nat.zero_le _)⟩ dX10_meet_24 (fun r_3 hw => ?_)
      refine lv_if_eq (tgt := 35) hx hb dX10_meet_27 (by decide) (fun hc => ?_) (fun hc => ?_)
      · have hw := hw.1 hc
        refine lv_iconst (v := (-1 : Int32)) hx hb dX10_meet_35 (by decide) ?_
        exact zret_iw pa_walked zc hS hw hM dX10_meet_36
      · have hw := hw.2 hc
        refine lv_iload_n hx hb dX10_meet_30 rfl (lv_at hl 3 rfl) ?_
        refine lv_iload_n hx hb dX10_meet_31 rfl (lv_at hl 4 rfl) ?_
        refine lv_icmp_ne (tgt := 37) hx hb dX10_meet_32 (by decide) (fun hc => ?_) (fun hc => ?_)
        · have hw := hw.1 hc
          refine lv_aload_n hx hb dX10_meet_37 rfl (lv_at hl 1 rfl) ?_
          refine wxg_10_37_0 zc hK hM dX10_meet_38 ?_
          refine lv_aload hx hb dX10_meet_41 (lv_at hl 0 rfl) ?_
          refine zVx_v [.ref (qx + 14)] [] zc ky_X7_walk kz_X7_walk km_10_285 (c_wp_X7_walk_9 l hw) (wpPreV0 hK (pj_wx_wp_78_14_33 hM)) hS (sb_wx_wp_78_14_33) rfl rfl hl.1 (Nat.le_of_ble_eq_true rfl) ⟨rfl, rfl⟩ ⟨Nat.le_of_ble_eq_true rfl, Nat.le_of_ble_eq_true rfl⟩ ⟨(Nat.zero_le _), (Nat.zero_le _)⟩ dX10_meet_43 (fun pa_walked_1 H1 locs1 hw hM1 hk hS => ?_)
          have hM := jn_wx_wp_78_14_33 hM hM1 hk
          refine lv_aload_n hx hb dX10_meet_46 rfl (lv_at hl 1 rfl) ?_
          refine wxg_10_37_0 zc hK hM dX10_meet_47 ?_
          refine lv_aload hx hb dX10_meet_50 (lv_at hl 0 rfl) ?_
          refine lv_aload_n hx hb dX10_meet_52 rfl (lv_at hl 1 rfl) ?_
          refine wxg_10_37_0 zc hK hM dX10_meet_53 ?_
          refine wxg_10_288_78 zc hK hM dX10_meet_56 ?_
          refine lv_aload hx hb dX10_meet_59 (lv_at hl 0 rfl) ?_
          refine wxg_10_291_14 zc hK hM dX10_meet_61 ?_
          refine lv_iload_n hx hb dX10_meet_64 rfl (lv_at hl 3 rfl) ?_
          refine wxld_20 zc hK hM hw.1 dX10_meet_65 ?_
          have hw := hw.2
          refine lv_aload hx hb dX10_meet_66 (lv_at hl 0 rfl) ?_
          refine wxg_10_291_14 zc hK hM dX10_meet_68 ?_
          refine lv_iload_n hx hb dX10_meet_71 rfl (lv_at hl 4 rfl) ?_
          refine wxld_20 zc hK hM hw.1 dX10_meet_72 ?_
          have hw := hw.2
          refine lv_iload hx hb dX10_meet_73 (lv_at hl 5 rfl) ?_
          refine zV_i [.ref (qx + 14), .ref (qx + 80), .int (tl1a_homes (Int32.toNatClampNeg x2)), .int (tl1a_homes (Int32.toNatClampNeg x3)), .int x4] [] zc ky_X7_together kz_X7_together km_10_294 (c_wp_X7_together_9_2 l hw) (wpPreV0 hK (pj_wx_wp_78_14_33 hM)) rfl rfl hl.1 (Nat.le_of_ble_eq_true rfl) ⟨rfl, rfl⟩ ⟨Nat.le_of_ble_eq_true rfl, Nat.le_of_ble_eq_true rfl⟩ ⟨(Nat.zero_le _), (Nat.zero_le _)⟩ dX10_meet_75 (fun r_4 hw => ?_)
          exact zret_iw pa_walked_1 zc hS hw hM dX10_meet_78
        · have hw := hw.2 hc
          refine lv_iconst (v := (-1 : Int32)) hx hb dX10_meet_35 (by decide) ?_
          exact zret_iw pa_walked zc hS hw hM dX10_meet_36
  have hw := hw.2.2 hc0 hc1
  refine W.eq (g2 := F0 m 5 ls (.ref (qx + 5) :: [])) (by simp [hc0, hc1]) ?_
  refine lv_astore (lv' := [(5, .ref (qx + 5)), (0, .ref qx), (1, .int x1), (2, .int x2), (3, .int x3), (4, .int x4)]) hx hb dX10_meet_5 hl (by decide) rfl (fun ls hl => ?_)
  refine lv_aload hx hb dX10_meet_7 (lv_at hl 0 rfl) ?_
  refine lv_ifnull hx hb dX10_meet_9 ?_
  refine lv_aload hx hb dX10_meet_12 (lv_at hl 0 rfl) ?_
  refine lv_iload_n hx hb dX10_meet_14 rfl (lv_at hl 3 rfl) ?_
  refine zV_i [.int x2] [] zc ky_X2_hasSinger kz_X2_hasSinger km_10_282 (c_wl_X2_hasSinger l hw) (wlPreV0 hK (pj_wx_wl_5 hM)) rfl rfl hl.1 (Nat.le_of_ble_eq_true rfl) ⟨rfl, rfl⟩ ⟨Nat.le_of_ble_eq_true rfl, Nat.le_of_ble_eq_true rfl⟩ ⟨(Nat.zero_le _), (Nat.zero_le _)⟩ dX10_meet_15 (fun r_5 hw => ?_)
  refine lv_if_eq (tgt := 35) hx hb dX10_meet_18 (by decide) (fun hc => ?_) (fun hc => ?_)
  · have hw := hw.1 hc
    refine lv_iconst (v := (-1 : Int32)) hx hb dX10_meet_35 (by decide) ?_
    exact zret_iw pa_walked zc hS hw hM dX10_meet_36
  · have hw := hw.2 hc
    refine lv_aload hx hb dX10_meet_21 (lv_at hl 0 rfl) ?_
    refine lv_iload_n hx hb dX10_meet_23 rfl (lv_at hl 4 rfl) ?_
    refine zV_i [.int x3] [] zc ky_X2_hasSinger kz_X2_hasSinger km_10_282 (c_wl_X2_hasSinger l hw) (wlPreV0 hK (pj_wx_wl_5 hM)) rfl rfl hl.1 (Nat.le_of_ble_eq_true rfl) ⟨rfl, rfl⟩ ⟨Nat.le_of_ble_eq_true rfl, Nat.le_of_ble_eq_true rfl⟩ ⟨(Nat.zero_le _), (Nat.zero_le _)⟩ dX10_meet_24 (fun r_6 hw => ?_)
    refine lv_if_eq (tgt := 35) hx hb dX10_meet_27 (by decide) (fun hc => ?_) (fun hc => ?_)
    · have hw := hw.1 hc
      refine lv_iconst (v := (-1 : Int32)) hx hb dX10_meet_35 (by decide) ?_
      exact zret_iw pa_walked zc hS hw hM dX10_meet_36
    · have hw := hw.2 hc
      refine lv_iload_n hx hb dX10_meet_30 rfl (lv_at hl 3 rfl) ?_
      refine lv_iload_n hx hb dX10_meet_31 rfl (lv_at hl 4 rfl) ?_
      refine lv_icmp_ne (tgt := 37) hx hb dX10_meet_32 (by decide) (fun hc => ?_) (fun hc => ?_)
      · have hw := hw.1 hc
        refine lv_aload_n hx hb dX10_meet_37 rfl (lv_at hl 1 rfl) ?_
        refine wxg_10_37_0 zc hK hM dX10_meet_38 ?_
        refine lv_aload hx hb dX10_meet_41 (lv_at hl 0 rfl) ?_
        refine zVx_v [.ref (qx + 5)] [] zc ky_X7_walk kz_X7_walk km_10_285 (c_wp_X7_walk_9 l hw) (wpPreV0 hK (pj_wx_wp_78_5_33 hM)) hS (sb_wx_wp_78_5_33) rfl rfl hl.1 (Nat.le_of_ble_eq_true rfl) ⟨rfl, rfl⟩ ⟨Nat.le_of_ble_eq_true rfl, Nat.le_of_ble_eq_true rfl⟩ ⟨(Nat.zero_le _), (Nat.zero_le _)⟩ dX10_meet_43 (fun pa_walked_2 H1 locs1 hw hM1 hk hS => ?_)
        have hM := jn_wx_wp_78_5_33 hM hM1 hk
        refine lv_aload_n hx hb dX10_meet_46 rfl (lv_at hl 1 rfl) ?_
        refine wxg_10_37_0 zc hK hM dX10_meet_47 ?_
        refine lv_aload hx hb dX10_meet_50 (lv_at hl 0 rfl) ?_
        refine lv_aload_n hx hb dX10_meet_52 rfl (lv_at hl 1 rfl) ?_
        refine wxg_10_37_0 zc hK hM dX10_meet_53 ?_
        refine wxg_10_288_78 zc hK hM dX10_meet_56 ?_
        refine lv_aload hx hb dX10_meet_59 (lv_at hl 0 rfl) ?_
        refine wxg_10_291_5 zc hK hM dX10_meet_61 ?_
        refine lv_iload_n hx hb dX10_meet_64 rfl (lv_at hl 3 rfl) ?_
        refine wxld_11 zc hK hM hw.1 dX10_meet_65 ?_
        have hw := hw.2
        refine lv_aload hx hb dX10_meet_66 (lv_at hl 0 rfl) ?_
        refine wxg_10_291_5 zc hK hM dX10_meet_68 ?_
        refine lv_iload_n hx hb dX10_meet_71 rfl (lv_at hl 4 rfl) ?_
        refine wxld_11 zc hK hM hw.1 dX10_meet_72 ?_
        have hw := hw.2
        refine lv_iload hx hb dX10_meet_73 (lv_at hl 5 rfl) ?_
        refine zV_i [.ref (qx + 5), .ref (qx + 80), .int (tl0a_homes (Int32.toNatClampNeg x2)), .int (tl0a_homes (Int32.toNatClampNeg x3)), .int x4] [] zc ky_X7_together kz_X7_together km_10_294 (c_wp_X7_together_9_2 l hw) (wpPreV0 hK (pj_wx_wp_78_5_33 hM)) rfl rfl hl.1 (Nat.le_of_ble_eq_true rfl) ⟨rfl, rfl⟩ ⟨Nat.le_of_ble_eq_true rfl, Nat.le_of_ble_eq_true rfl⟩ ⟨(Nat.zero_le _), (Nat.zero_le _)⟩ dX10_meet_75 (fun r_7 hw => ?_)
        exact zret_iw pa_walked_2 zc hS hw hM dX10_meet_78
      · have hw := hw.2 hc
        refine lv_iconst (v := (-1 : Int32)) hx hb dX10_meet_35 (by decide) ?_
        exact zret_iw pa_walked zc hS hw hM dX10_meet_36
set_option maxRecDepth 20000 in
theorem c_wx_X10_meet (l : Launch) {E : zE} {qx : Nat} {ta_tape : Nat → Int32} {tf_length : Int32} {tf_fault : Int32} {tf_place : Int32} {ta_counts : Nat → Int32} {tl0f_huts : Int32} {tl0f_singers : Int32} {tl0f_villages : Int32} {tl0f_dams : Int32} {tl0f_echoes : Int32} {tl0f_deep : Int32} {tl0f_slide : Int32} {tl0a_heights : Nat → Int32} {tl0a_ladders : Nat → Int32} {tl0a_minutes : Nat → Int32} {tl0a_echoFrom : Nat → Int32} {tl0a_echoTo : Nat → Int32} {tl0a_homes : Nat → Int32} {tl0a_talls : Nat → Int32} {tl0a_known : Nat → Int32} {tl1f_huts : Int32} {tl1f_singers : Int32} {tl1f_villages : Int32} {tl1f_dams : Int32} {tl1f_echoes : Int32} {tl1f_deep : Int32} {tl1f_slide : Int32} {tl1a_heights : Nat → Int32} {tl1a_ladders : Nat → Int32} {tl1a_minutes : Nat → Int32} {tl1a_echoFrom : Nat → Int32} {tl1a_echoTo : Nat → Int32} {tl1a_homes : Nat → Int32} {tl1a_talls : Nat → Int32} {tl1a_known : Nat → Int32} {tv0f_deeds : Int32} {tv0a_kinds : Nat → Int32} {tv0a_firsts : Nat → Int32} {tv0a_seconds : Nat → Int32} {tv1f_deeds : Int32} {tv1a_kinds : Nat → Int32} {tv1a_firsts : Nat → Int32} {tv1a_seconds : Nat → Int32} {ts0f_facts : Int32} {ts0a_heard : Nat → Int32} {ts0a_huts : Nat → Int32} {ts0a_minutes : Nat → Int32} {ts1f_facts : Int32} {ts1a_heard : Nat → Int32} {ts1a_huts : Nat → Int32} {ts1a_minutes : Nat → Int32} {tc0f_voices : Int32} {tc0f_step : Int32} {tc0a_parts : Nat → Int32} {tc0a_heights : Nat → Int32} {tc1f_voices : Int32} {tc1f_step : Int32} {tc1a_parts : Nat → Int32} {tc1a_heights : Nat → Int32} {m_images : Nat → Option Nat} {rlf_huts : Int32} {rlf_singers : Int32} {rlf_villages : Int32} {rlf_dams : Int32} {rlf_echoes : Int32} {rlf_deep : Int32} {rlf_slide : Int32} {rla_heights : Nat → Int32} {rla_ladders : Nat → Int32} {rla_minutes : Nat → Int32} {rla_echoFrom : Nat → Int32} {rla_echoTo : Nat → Int32} {rla_homes : Nat → Int32} {rla_talls : Nat → Int32} {rla_known : Nat → Int32} {rvf_deeds : Int32} {rva_kinds : Nat → Int32} {rva_firsts : Nat → Int32} {rva_seconds : Nat → Int32} {rsf_facts : Int32} {rsa_heard : Nat → Int32} {rsa_huts : Nat → Int32} {rsa_minutes : Nat → Int32} {rcf_voices : Int32} {rcf_step : Int32} {rca_parts : Nat → Int32} {rca_heights : Nat → Int32} {rf_fault : Int32} {rf_faultPlace : Int32} {ra_numbers : Nat → Int32} {ra_tape : Nat → Int32} {rf_length : Int32} {rf_behind : Int32} {rf_kind : Int32} {rf_first : Int32} {rf_value : Int32} {rf_hutsToldOf : Int32} {rf_singersToldOf : Int32} {nf_minute : Int32} {nf_avalanches : Int32} {nf_begun : Int32} {nf_climbed : Int32} {nf_seed : Int32} {na_huts : Nat → Int32} {na_known : Nat → Int32} {na_levels : Nat → Int32} {na_snow : Nat → Int32} {na_open : Nat → Int32} {pa_heard : Nat → Int32} {pa_walked : Nat → Int32} {pa_total : Nat → Int32} {pa_longest : Nat → Int32} {pa_next : Nat → Int32} {pa_cover : Nat → Int32} {pa_now : Nat → Int32} {pa_then : Nat → Int32} {ko_stands : Option Nat} {ka_gaps : Nat → Int32} {ka_behind : Nat → Int32} {ba_less : Nat → Int32} {ba_full : Nat → Int32} {x1 : Int32} {x2 : Int32} {x3 : Int32} {x4 : Int32} {post : Int32 → (Nat → Int32) → Prop} (hw : q_wx_X10_meet_0 ta_counts tl0f_huts tl0f_singers tl0a_minutes tl0a_homes tl1f_huts tl1f_singers tl1a_minutes tl1a_homes pa_walked x1 x2 x3 x4 post) : Met l yX10_meet (Cond.code yX10_meet cX10_meet 6 (some .int) :: zb) rm_wx_X10_meet (va_Pc [.ref qx, .int x1, .int x2, .int x3, .int x4] (fun U => wxW E qx ta_tape tf_length tf_fault tf_place ta_counts tl0f_huts tl0f_singers tl0f_villages tl0f_dams tl0f_echoes tl0f_deep tl0f_slide tl0a_heights tl0a_ladders tl0a_minutes tl0a_echoFrom tl0a_echoTo tl0a_homes tl0a_talls tl0a_known tl1f_huts tl1f_singers tl1f_villages tl1f_dams tl1f_echoes tl1f_deep tl1f_slide tl1a_heights tl1a_ladders tl1a_minutes tl1a_echoFrom tl1a_echoTo tl1a_homes tl1a_talls tl1a_known tv0f_deeds tv0a_kinds tv0a_firsts tv0a_seconds tv1f_deeds tv1a_kinds tv1a_firsts tv1a_seconds ts0f_facts ts0a_heard ts0a_huts ts0a_minutes ts1f_facts ts1a_heard ts1a_huts ts1a_minutes tc0f_voices tc0f_step tc0a_parts tc0a_heights tc1f_voices tc1f_step tc1a_parts tc1a_heights m_images rlf_huts rlf_singers rlf_villages rlf_dams rlf_echoes rlf_deep rlf_slide rla_heights rla_ladders rla_minutes rla_echoFrom rla_echoTo rla_homes rla_talls rla_known rvf_deeds rva_kinds rva_firsts rva_seconds rsf_facts rsa_heard rsa_huts rsa_minutes rcf_voices rcf_step rca_parts rca_heights rf_fault rf_faultPlace ra_numbers ra_tape rf_length rf_behind rf_kind rf_first rf_value rf_hutsToldOf rf_singersToldOf nf_minute nf_avalanches nf_begun nf_climbed nf_seed na_huts na_known na_levels na_snow na_open pa_heard pa_walked pa_total pa_longest pa_next pa_cover pa_now pa_then ko_stands ka_gaps ka_behind ba_less ba_full U.heap ∧ zK E U)) (zQi (S := (Nat → Int32)) (fun r u => post r u) (fun u H => wxW E qx ta_tape tf_length tf_fault tf_place ta_counts tl0f_huts tl0f_singers tl0f_villages tl0f_dams tl0f_echoes tl0f_deep tl0f_slide tl0a_heights tl0a_ladders tl0a_minutes tl0a_echoFrom tl0a_echoTo tl0a_homes tl0a_talls tl0a_known tl1f_huts tl1f_singers tl1f_villages tl1f_dams tl1f_echoes tl1f_deep tl1f_slide tl1a_heights tl1a_ladders tl1a_minutes tl1a_echoFrom tl1a_echoTo tl1a_homes tl1a_talls tl1a_known tv0f_deeds tv0a_kinds tv0a_firsts tv0a_seconds tv1f_deeds tv1a_kinds tv1a_firsts tv1a_seconds ts0f_facts ts0a_heard ts0a_huts ts0a_minutes ts1f_facts ts1a_heard ts1a_huts ts1a_minutes tc0f_voices tc0f_step tc0a_parts tc0a_heights tc1f_voices tc1f_step tc1a_parts tc1a_heights m_images rlf_huts rlf_singers rlf_villages rlf_dams rlf_echoes rlf_deep rlf_slide rla_heights rla_ladders rla_minutes rla_echoFrom rla_echoTo rla_homes rla_talls rla_known rvf_deeds rva_kinds rva_firsts rva_seconds rsf_facts rsa_heard rsa_huts rsa_minutes rcf_voices rcf_step rca_parts rca_heights rf_fault rf_faultPlace ra_numbers ra_tape rf_length rf_behind rf_kind rf_first rf_value rf_hutsToldOf rf_singersToldOf nf_minute nf_avalanches nf_begun nf_climbed nf_seed na_huts na_known na_levels na_snow na_open pa_heard u pa_total pa_longest pa_next pa_cover pa_now pa_then ko_stands ka_gaps ka_behind ba_less ba_full H) (wxA qx)) 0 0 (wxA qx) := by
  refine Met.ofW (cc := cX10_meet) (maxL := 6) (ret := (some .int)) (by decide) rfl ?_
  intro p e s m args below meth c s₁ B hml hv
  obtain ⟨rfl, hM, hK⟩ := hv
  have zc := zc_of B hml
  have hl := lv_entry ([.ref qx, .int x1, .int x2, .int x3, .int x4]) (n := 6) (Nat.le_of_ble_eq_true rfl)
  rw [lg_entry_eq]
  generalize (lg_sl ([.ref qx, .int x1, .int x2, .int x3, .int x4]) ++ List.replicate (6 - (lg_sl ([.ref qx, .int x1, .int x2, .int x3, .int x4])).length) Slot.unset).toArray = ls at hl ⊢
  have hl : lv_has ls 6 [(0, .ref qx), (1, .int x1), (2, .int x2), (3, .int x3), (4, .int x4)] := hl
  exact t_wx_X10_meet_0 zc hK hM va_S.rf (lv_sub hl [0, 1, 2, 3, 4] rfl) hw
-- wx_X10_carry
abbrev rm_wx_X10_carry : Room := { frames := 3, cells := 0, slots := 0, locals := 91 }
def q_wx_X10_carry_0 (ta_counts : Nat → Int32) (tl0f_huts : Int32) (tl0f_singers : Int32) (tl0f_villages : Int32) (tl0f_dams : Int32) (tl0f_echoes : Int32) (tl0a_heights : Nat → Int32) (tl0a_minutes : Nat → Int32) (tl0a_echoFrom : Nat → Int32) (tl0a_echoTo : Nat → Int32) (tl0a_homes : Nat → Int32) (tl1f_huts : Int32) (tl1f_singers : Int32) (tl1f_villages : Int32) (tl1f_dams : Int32) (tl1f_echoes : Int32) (tl1a_heights : Nat → Int32) (tl1a_minutes : Nat → Int32) (tl1a_echoFrom : Nat → Int32) (tl1a_echoTo : Nat → Int32) (tl1a_homes : Nat → Int32) (pa_heard : Nat → Int32) (pa_walked : Nat → Int32) (x1 : Int32) (x2 : Int32) (x3 : Int32) (post : Int32 → (Nat → Int32) → (Nat → Int32) → Prop) : Prop :=
  q_wx_X10_landAt_0 ta_counts x1 (fun r_1 => (r_1 = 0 → (post (-1 : Int32) pa_heard pa_walked)) ∧ (r_1 = 1 → (q_wl_X2_hasSinger_0 tl1f_singers x2 (fun r_2 => (¬ r_2 = 0 → (q_wp_X7_hear_9_0 pa_heard tl1f_huts tl1f_dams tl1f_echoes tl1a_heights tl1a_minutes tl1a_echoFrom tl1a_echoTo (fun pa_heard_1 => q_wp_X7_walk_9_0 pa_walked tl1f_huts tl1a_minutes (fun pa_walked_1 => vp_in x2 6 ∧ (q_wp_X7_carried_9_0 pa_heard_1 pa_walked_1 tl1f_huts tl1f_villages tl1f_dams (tl1a_homes (Int32.toNatClampNeg x2)) x3 (fun r_3 => post r_3 pa_heard_1 pa_walked_1)))))) ∧ (r_2 = 0 → (post (-1 : Int32) pa_heard pa_walked))))) ∧ (¬ r_1 = 0 → ¬ r_1 = 1 → (q_wl_X2_hasSinger_0 tl0f_singers x2 (fun r_4 => (¬ r_4 = 0 → (q_wp_X7_hear_9_0 pa_heard tl0f_huts tl0f_dams tl0f_echoes tl0a_heights tl0a_minutes tl0a_echoFrom tl0a_echoTo (fun pa_heard_2 => q_wp_X7_walk_9_0 pa_walked tl0f_huts tl0a_minutes (fun pa_walked_2 => vp_in x2 6 ∧ (q_wp_X7_carried_9_0 pa_heard_2 pa_walked_2 tl0f_huts tl0f_villages tl0f_dams (tl0a_homes (Int32.toNatClampNeg x2)) x3 (fun r_5 => post r_5 pa_heard_2 pa_walked_2)))))) ∧ (r_4 = 0 → (post (-1 : Int32) pa_heard pa_walked))))))
set_option maxRecDepth 20000 in
theorem t_wx_X10_carry_0 {p : Program} {l : Launch} {e : Env} {s : State} {m : MethodId} {args : Array Value} {below : List Frame} {meth : Method} {c : Code} {E : zE} {qx : Nat} {ta_tape : Nat → Int32} {tf_length : Int32} {tf_fault : Int32} {tf_place : Int32} {ta_counts : Nat → Int32} {tl0f_huts : Int32} {tl0f_singers : Int32} {tl0f_villages : Int32} {tl0f_dams : Int32} {tl0f_echoes : Int32} {tl0f_deep : Int32} {tl0f_slide : Int32} {tl0a_heights : Nat → Int32} {tl0a_ladders : Nat → Int32} {tl0a_minutes : Nat → Int32} {tl0a_echoFrom : Nat → Int32} {tl0a_echoTo : Nat → Int32} {tl0a_homes : Nat → Int32} {tl0a_talls : Nat → Int32} {tl0a_known : Nat → Int32} {tl1f_huts : Int32} {tl1f_singers : Int32} {tl1f_villages : Int32} {tl1f_dams : Int32} {tl1f_echoes : Int32} {tl1f_deep : Int32} {tl1f_slide : Int32} {tl1a_heights : Nat → Int32} {tl1a_ladders : Nat → Int32} {tl1a_minutes : Nat → Int32} {tl1a_echoFrom : Nat → Int32} {tl1a_echoTo : Nat → Int32} {tl1a_homes : Nat → Int32} {tl1a_talls : Nat → Int32} {tl1a_known : Nat → Int32} {tv0f_deeds : Int32} {tv0a_kinds : Nat → Int32} {tv0a_firsts : Nat → Int32} {tv0a_seconds : Nat → Int32} {tv1f_deeds : Int32} {tv1a_kinds : Nat → Int32} {tv1a_firsts : Nat → Int32} {tv1a_seconds : Nat → Int32} {ts0f_facts : Int32} {ts0a_heard : Nat → Int32} {ts0a_huts : Nat → Int32} {ts0a_minutes : Nat → Int32} {ts1f_facts : Int32} {ts1a_heard : Nat → Int32} {ts1a_huts : Nat → Int32} {ts1a_minutes : Nat → Int32} {tc0f_voices : Int32} {tc0f_step : Int32} {tc0a_parts : Nat → Int32} {tc0a_heights : Nat → Int32} {tc1f_voices : Int32} {tc1f_step : Int32} {tc1a_parts : Nat → Int32} {tc1a_heights : Nat → Int32} {m_images : Nat → Option Nat} {rlf_huts : Int32} {rlf_singers : Int32} {rlf_villages : Int32} {rlf_dams : Int32} {rlf_echoes : Int32} {rlf_deep : Int32} {rlf_slide : Int32} {rla_heights : Nat → Int32} {rla_ladders : Nat → Int32} {rla_minutes : Nat → Int32} {rla_echoFrom : Nat → Int32} {rla_echoTo : Nat → Int32} {rla_homes : Nat → Int32} {rla_talls : Nat → Int32} {rla_known : Nat → Int32} {rvf_deeds : Int32} {rva_kinds : Nat → Int32} {rva_firsts : Nat → Int32} {rva_seconds : Nat → Int32} {rsf_facts : Int32} {rsa_heard : Nat → Int32} {rsa_huts : Nat → Int32} {rsa_minutes : Nat → Int32} {rcf_voices : Int32} {rcf_step : Int32} {rca_parts : Nat → Int32} {rca_heights : Nat → Int32} {rf_fault : Int32} {rf_faultPlace : Int32} {ra_numbers : Nat → Int32} {ra_tape : Nat → Int32} {rf_length : Int32} {rf_behind : Int32} {rf_kind : Int32} {rf_first : Int32} {rf_value : Int32} {rf_hutsToldOf : Int32} {rf_singersToldOf : Int32} {nf_minute : Int32} {nf_avalanches : Int32} {nf_begun : Int32} {nf_climbed : Int32} {nf_seed : Int32} {na_huts : Nat → Int32} {na_known : Nat → Int32} {na_levels : Nat → Int32} {na_snow : Nat → Int32} {na_open : Nat → Int32} {pa_heard : Nat → Int32} {pa_walked : Nat → Int32} {pa_total : Nat → Int32} {pa_longest : Nat → Int32} {pa_next : Nat → Int32} {pa_cover : Nat → Int32} {pa_now : Nat → Int32} {pa_then : Nat → Int32} {ko_stands : Option Nat} {ka_gaps : Nat → Int32} {ka_behind : Nat → Int32} {ba_less : Nat → Int32} {ba_full : Nat → Int32} {post : Int32 → (Nat → Int32) → (Nat → Int32) → Prop} {x1 : Int32} {x2 : Int32} {x3 : Int32} {ls : Array Slot} {H : Heap} {locs : List Loc}
    (zc : zC p s m args meth c cX10_carry 5 RX10 (some .int))
    (hK : zK E s)
    (hM : wxW E qx ta_tape tf_length tf_fault tf_place ta_counts tl0f_huts tl0f_singers tl0f_villages tl0f_dams tl0f_echoes tl0f_deep tl0f_slide tl0a_heights tl0a_ladders tl0a_minutes tl0a_echoFrom tl0a_echoTo tl0a_homes tl0a_talls tl0a_known tl1f_huts tl1f_singers tl1f_villages tl1f_dams tl1f_echoes tl1f_deep tl1f_slide tl1a_heights tl1a_ladders tl1a_minutes tl1a_echoFrom tl1a_echoTo tl1a_homes tl1a_talls tl1a_known tv0f_deeds tv0a_kinds tv0a_firsts tv0a_seconds tv1f_deeds tv1a_kinds tv1a_firsts tv1a_seconds ts0f_facts ts0a_heard ts0a_huts ts0a_minutes ts1f_facts ts1a_heard ts1a_huts ts1a_minutes tc0f_voices tc0f_step tc0a_parts tc0a_heights tc1f_voices tc1f_step tc1a_parts tc1a_heights m_images rlf_huts rlf_singers rlf_villages rlf_dams rlf_echoes rlf_deep rlf_slide rla_heights rla_ladders rla_minutes rla_echoFrom rla_echoTo rla_homes rla_talls rla_known rvf_deeds rva_kinds rva_firsts rva_seconds rsf_facts rsa_heard rsa_huts rsa_minutes rcf_voices rcf_step rca_parts rca_heights rf_fault rf_faultPlace ra_numbers ra_tape rf_length rf_behind rf_kind rf_first rf_value rf_hutsToldOf rf_singersToldOf nf_minute nf_avalanches nf_begun nf_climbed nf_seed na_huts na_known na_levels na_snow na_open pa_heard pa_walked pa_total pa_longest pa_next pa_cover pa_now pa_then ko_stands ka_gaps ka_behind ba_less ba_full H)
    (hS : va_S (wxA qx) s.heap H locs)
    (hl : lv_has ls 5 [(0, .ref qx), (1, .int x1), (2, .int x2), (3, .int x3)])
    (hw : q_wx_X10_carry_0 ta_counts tl0f_huts tl0f_singers tl0f_villages tl0f_dams tl0f_echoes tl0a_heights tl0a_minutes tl0a_echoFrom tl0a_echoTo tl0a_homes tl1f_huts tl1f_singers tl1f_villages tl1f_dams tl1f_echoes tl1a_heights tl1a_minutes tl1a_echoFrom tl1a_echoTo tl1a_homes pa_heard pa_walked x1 x2 x3 post) :
    W p l e rm_wx_X10_carry s m args below meth c H locs 0 0 (MQ below (zQi (S := (Nat → Int32) × (Nat → Int32)) (fun r u => post r u.1 u.2) (fun u H => wxW E qx ta_tape tf_length tf_fault tf_place ta_counts tl0f_huts tl0f_singers tl0f_villages tl0f_dams tl0f_echoes tl0f_deep tl0f_slide tl0a_heights tl0a_ladders tl0a_minutes tl0a_echoFrom tl0a_echoTo tl0a_homes tl0a_talls tl0a_known tl1f_huts tl1f_singers tl1f_villages tl1f_dams tl1f_echoes tl1f_deep tl1f_slide tl1a_heights tl1a_ladders tl1a_minutes tl1a_echoFrom tl1a_echoTo tl1a_homes tl1a_talls tl1a_known tv0f_deeds tv0a_kinds tv0a_firsts tv0a_seconds tv1f_deeds tv1a_kinds tv1a_firsts tv1a_seconds ts0f_facts ts0a_heard ts0a_huts ts0a_minutes ts1f_facts ts1a_heard ts1a_huts ts1a_minutes tc0f_voices tc0f_step tc0a_parts tc0a_heights tc1f_voices tc1f_step tc1a_parts tc1a_heights m_images rlf_huts rlf_singers rlf_villages rlf_dams rlf_echoes rlf_deep rlf_slide rla_heights rla_ladders rla_minutes rla_echoFrom rla_echoTo rla_homes rla_talls rla_known rvf_deeds rva_kinds rva_firsts rva_seconds rsf_facts rsa_heard rsa_huts rsa_minutes rcf_voices rcf_step rca_parts rca_heights rf_fault rf_faultPlace ra_numbers ra_tape rf_length rf_behind rf_kind rf_first rf_value rf_hutsToldOf rf_singersToldOf nf_minute nf_avalanches nf_begun nf_climbed nf_seed na_huts na_known na_levels na_snow na_open u.1 u.2 pa_total pa_longest pa_next pa_cover pa_now pa_then ko_stands ka_gaps ka_behind ba_less ba_full H) (wxA qx)) args s 0 0 (wxA qx)) (F0 m 0 ls []) := by
  have hx := zc.1
  have hb := zc.2.1
  refine lv_aload_n hx hb dX10_carry_0 rfl (lv_at hl 0 rfl) ?_
  refine lv_iload_n hx hb dX10_carry_1 rfl (lv_at hl 1 rfl) ?_
  refine zV_r [.int x1] [] zc ky_X10_landAt kz_X10_landAt km_10_89 (c_wx_X10_landAt l hw) (wxPreV0 hK hM) rfl rfl hl.1 (Nat.le_of_ble_eq_true rfl) ⟨rfl, rfl⟩ ⟨Nat.le_of_ble_eq_true rfl, Nat.le_of_ble_eq_true rfl⟩ ⟨(Nat.zero_le _), (Nat.zero_le _)⟩ dX10_carry_2 (fun r_1 hw => ?_)
  by_cases hc0 : r_1 = 0
  · have hw := hw.1 hc0
    refine W.eq (g2 := F0 m 5 ls (.null :: [])) (by simp [hc0]) ?_
    refine lv_astoreN (lv' := [(4, .null), (0, .ref qx), (1, .int x1), (2, .int x2), (3, .int x3)]) hx hb dX10_carry_5 hl (by decide) rfl (fun ls hl => ?_)
    refine lv_aloadN hx hb dX10_carry_7 (lv_at hl 0 rfl) ?_
    refine lv_ifnullN (tgt := 21) hx hb dX10_carry_9 (by decide) ?_
    refine lv_iconst (v := (-1 : Int32)) hx hb dX10_carry_21 (by decide) ?_
    exact zret_iw ⟨pa_heard, pa_walked⟩ zc hS hw hM dX10_carry_22
  by_cases hc1 : r_1 = 1
  · have hw := hw.2.1 hc1
    refine W.eq (g2 := F0 m 5 ls (.ref (qx + 14) :: [])) (by simp [hc0, hc1]) ?_
    refine lv_astore (lv' := [(4, .ref (qx + 14)), (0, .ref qx), (1, .int x1), (2, .int x2), (3, .int x3)]) hx hb dX10_carry_5 hl (by decide) rfl (fun ls hl => ?_)
    refine lv_aload hx hb dX10_carry_7 (lv_at hl 0 rfl) ?_
    refine lv_ifnull hx hb dX10_carry_9 ?_
    refine lv_aload hx hb dX10_carry_12 (lv_at hl 0 rfl) ?_
    refine lv_iload_n hx hb dX10_carry_14 rfl (lv_at hl 3 rfl) ?_
    refine zV_i [.int x2] [] zc ky_X2_hasSinger kz_X2_hasSinger km_10_282 (c_wl_X2_hasSinger l hw) (wlPreV0 hK (pj_wx_wl_14 hM)) rfl rfl hl.1 (Nat.le_of_ble_eq_true rfl) ⟨rfl, rfl⟩ ⟨Nat.le_of_ble_eq_true rfl, Nat.le_of_ble_eq_true rfl⟩ ⟨(Nat.zero_le _), (Nat.zero_le _)⟩ dX10_carry_15 (fun r_2 hw => ?_)
    refine lv_if_ne (tgt := 23) hx hb dX10_carry_18 (by decide) (fun hc => ?_) (fun hc => ?_)
    · have hw := hw.1 hc
      refine lv_aload_n hx hb dX10_carry_23 rfl (lv_at hl 1 rfl) ?_
      refine wxg_10_37_0 zc hK hM dX10_carry_24 ?_
      refine lv_aload hx hb dX10_carry_27 (lv_at hl 0 rfl) ?_
      refine zVx_v [.ref (qx + 14)] [] zc ky_X7_hear kz_X7_hear km_10_139 (c_wp_X7_hear_9 l hw) (wpPreV0 hK (pj_wx_wp_78_14_33 hM)) hS (sb_wx_wp_78_14_33) rfl rfl hl.1 (Nat.le_of_ble_eq_true rfl) ⟨rfl, rfl⟩ ⟨Nat.le_of_ble_eq_true rfl, Nat.le_of_ble_eq_true rfl⟩ ⟨(Nat.zero_le _), (Nat.zero_le _)⟩ dX10_carry_29 (fun pa_heard_1 H1 locs1 hw hM1 hk hS => ?_)
      have hM := jn_wx_wp_78_14_33 hM hM1 hk
      refine lv_aload_n hx hb dX10_carry_32 rfl (lv_at hl 1 rfl) ?_
      refine wxg_10_37_0 zc hK hM dX10_carry_33 ?_
      refine lv_aload hx hb dX10_carry_36 (lv_at hl 0 rfl) ?_
      refine zVx_v [.ref (qx + 14)] [] zc ky_X7_walk kz_X7_walk km_10_285 (c_wp_X7_walk_9 l hw) (wpPreV0 hK (pj_wx_wp_78_14_33 hM)) hS (sb_wx_wp_78_14_33) rfl rfl hl.1 (Nat.le_of_ble_eq_true rfl) ⟨rfl, rfl⟩ ⟨Nat.le_of_ble_eq_true rfl, Nat.le_of_ble_eq_true rfl⟩ ⟨(Nat.zero_le _), (Nat.zero_le _)⟩ dX10_carry_38 (fun pa_walked_1 H1 locs1 hw hM1 hk hS => ?_)
      have hM := jn_wx_wp_78_14_33 hM hM1 hk
      refine lv_aload_n hx hb dX10_carry_41 rfl (lv_at hl 1 rfl) ?_
      refine wxg_10_37_0 zc hK hM dX10_carry_42 ?_
      refine lv_aload hx hb dX10_carry_45 (lv_at hl 0 rfl) ?_
      refine lv_aload hx hb dX10_carry_47 (lv_at hl 0 rfl) ?_
      refine wxg_10_291_14 zc hK hM dX10_carry_49 ?_
      refine lv_iload_n hx hb dX10_carry_52 rfl (lv_at hl 3 rfl) ?_
      refine wxld_20 zc hK hM hw.1 dX10_carry_53 ?_
      have hw := hw.2
      refine lv_iload_n hx hb dX10_carry_54 rfl (lv_at hl 4 rfl) ?_
      refine zV_i [.ref (qx + 14), .int (tl1a_homes (Int32.toNatClampNeg x2)), .int x3] [] zc ky_X7_carried kz_X7_carried km_10_298 (c_wp_X7_carried_9 l hw) (wpPreV0 hK (pj_wx_wp_78_14_33 hM)) rfl rfl hl.1 (Nat.le_of_ble_eq_true rfl) ⟨rfl, rfl⟩ ⟨Nat.le_of_ble_eq_true rfl, Nat.le_of_ble_eq_true rfl⟩ ⟨(Nat.zero_le _), (Nat.zero_le _)⟩ dX10_carry_55 (fun r_3 hw => ?_)
      exact zret_iw ⟨pa_heard_1, pa_walked_1⟩ zc hS hw hM dX10_carry_58
    · have hw := hw.2 hc
      refine lv_iconst (v := (-1 : Int32)) hx hb dX10_carry_21 (by decide) ?_
      exact zret_iw ⟨pa_heard, pa_walked⟩ zc hS hw hM dX10_carry_22
  have hw := hw.2.2 hc0 hc1
  refine W.eq (g2 := F0 m 5 ls (.ref (qx + 5) :: [])) (by simp [hc0, hc1]) ?_
  refine lv_astore (lv' := [(4, .ref (qx + 5)), (0, .ref qx), (1, .int x1), (2, .int x2), (3, .int x3)]) hx hb dX10_carry_5 hl (by decide) rfl (fun ls hl => ?_)
  refine lv_aload hx hb dX10_carry_7 (lv_at hl 0 rfl) ?_
  refine lv_ifnull hx hb dX10_carry_9 ?_
  refine lv_aload hx hb dX10_carry_12 (lv_at hl 0 rfl) ?_
  refine lv_iload_n hx hb dX10_carry_14 rfl (lv_at hl 3 rfl) ?_
  refine zV_i [.int x2] [] zc ky_X2_hasSinger kz_X2_hasSinger km_10_282 (c_wl_X2_hasSinger l hw) (wlPreV0 hK (pj_wx_wl_5 hM)) rfl rfl hl.1 (Nat.le_of_ble_eq_true rfl) ⟨rfl, rfl⟩ ⟨Nat.le_of_ble_eq_true rfl, Nat.le_of_ble_eq_true rfl⟩ ⟨(Nat.zero_le _), (Nat.zero_le _)⟩ dX10_carry_15 (fun r_4 hw => ?_)
  refine lv_if_ne (tgt := 23) hx hb dX10_carry_18 (by decide) (fun hc => ?_) (fun hc => ?_)
  · have hw := hw.1 hc
    refine lv_aload_n hx hb dX10_carry_23 rfl (lv_at hl 1 rfl) ?_
    refine wxg_10_37_0 zc hK hM dX10_carry_24 ?_
    refine lv_aload hx hb dX10_carry_27 (lv_at hl 0 rfl) ?_
    refine zVx_v [.ref (qx + 5)] [] zc ky_X7_hear kz_X7_hear km_10_139 (c_wp_X7_hear_9 l hw) (wpPreV0 hK (pj_wx_wp_78_5_33 hM)) hS (sb_wx_wp_78_5_33) rfl rfl hl.1 (Nat.le_of_ble_eq_true rfl) ⟨rfl, rfl⟩ ⟨Nat.le_of_ble_eq_true rfl, Nat.le_of_ble_eq_true rfl⟩ ⟨(Nat.zero_le _), (Nat.zero_le _)⟩ dX10_carry_29 (fun pa_heard_2 H1 locs1 hw hM1 hk hS => ?_)
    have hM := jn_wx_wp_78_5_33 hM hM1 hk
    refine lv_aload_n hx hb dX10_carry_32 rfl (lv_at hl 1 rfl) ?_
    refine wxg_10_37_0 zc hK hM dX10_carry_33 ?_
    refine lv_aload hx hb dX10_carry_36 (lv_at hl 0 rfl) ?_
    refine zVx_v [.ref (qx + 5)] [] zc ky_X7_walk kz_X7_walk km_10_285 (c_wp_X7_walk_9 l hw) (wpPreV0 hK (pj_wx_wp_78_5_33 hM)) hS (sb_wx_wp_78_5_33) rfl rfl hl.1 (Nat.le_of_ble_eq_true rfl) ⟨rfl, rfl⟩ ⟨Nat.le_of_ble_eq_true rfl, Nat.le_of_ble_eq_true rfl⟩ ⟨(Nat.zero_le _), (Nat.zero_le _)⟩ dX10_carry_38 (fun pa_walked_2 H1 locs1 hw hM1 hk hS => ?_)
    have hM := jn_wx_wp_78_5_33 hM hM1 hk
    refine lv_aload_n hx hb dX10_carry_41 rfl (lv_at hl 1 rfl) ?_
    refine wxg_10_37_0 zc hK hM dX10_carry_42 ?_
    refine lv_aload hx hb dX10_carry_45 (lv_at hl 0 rfl) ?_
    refine lv_aload hx hb dX10_carry_47 (lv_at hl 0 rfl) ?_
    refine wxg_10_291_5 zc hK hM dX10_carry_49 ?_
    refine lv_iload_n hx hb dX10_carry_52 rfl (lv_at hl 3 rfl) ?_
    refine wxld_11 zc hK hM hw.1 dX10_carry_53 ?_
    have hw := hw.2
    refine lv_iload_n hx hb dX10_carry_54 rfl (lv_at hl 4 rfl) ?_
    refine zV_i [.ref (qx + 5), .int (tl0a_homes (Int32.toNatClampNeg x2)), .int x3] [] zc ky_X7_carried kz_X7_carried km_10_298 (c_wp_X7_carried_9 l hw) (wpPreV0 hK (pj_wx_wp_78_5_33 hM)) rfl rfl hl.1 (Nat.le_of_ble_eq_true rfl) ⟨rfl, rfl⟩ ⟨Nat.le_of_ble_eq_true rfl, Nat.le_of_ble_eq_true rfl⟩ ⟨(Nat.zero_le _), (Nat.zero_le _)⟩ dX10_carry_55 (fun r_5 hw => ?_)
    exact zret_iw ⟨pa_heard_2, pa_walked_2⟩ zc hS hw hM dX10_carry_58
  · have hw := hw.2 hc
    refine lv_iconst (v := (-1 : Int32)) hx hb dX10_carry_21 (by decide) ?_
    exact zret_iw ⟨pa_heard, pa_walked⟩ zc hS hw hM dX10_carry_22
set_option maxRecDepth 20000 in
theorem c_wx_X10_carry (l : Launch) {E : zE} {qx : Nat} {ta_tape : Nat → Int32} {tf_length : Int32} {tf_fault : Int32} {tf_place : Int32} {ta_counts : Nat → Int32} {tl0f_huts : Int32} {tl0f_singers : Int32} {tl0f_villages : Int32} {tl0f_dams : Int32} {tl0f_echoes : Int32} {tl0f_deep : Int32} {tl0f_slide : Int32} {tl0a_heights : Nat → Int32} {tl0a_ladders : Nat → Int32} {tl0a_minutes : Nat → Int32} {tl0a_echoFrom : Nat → Int32} {tl0a_echoTo : Nat → Int32} {tl0a_homes : Nat → Int32} {tl0a_talls : Nat → Int32} {tl0a_known : Nat → Int32} {tl1f_huts : Int32} {tl1f_singers : Int32} {tl1f_villages : Int32} {tl1f_dams : Int32} {tl1f_echoes : Int32} {tl1f_deep : Int32} {tl1f_slide : Int32} {tl1a_heights : Nat → Int32} {tl1a_ladders : Nat → Int32} {tl1a_minutes : Nat → Int32} {tl1a_echoFrom : Nat → Int32} {tl1a_echoTo : Nat → Int32} {tl1a_homes : Nat → Int32} {tl1a_talls : Nat → Int32} {tl1a_known : Nat → Int32} {tv0f_deeds : Int32} {tv0a_kinds : Nat → Int32} {tv0a_firsts : Nat → Int32} {tv0a_seconds : Nat → Int32} {tv1f_deeds : Int32} {tv1a_kinds : Nat → Int32} {tv1a_firsts : Nat → Int32} {tv1a_seconds : Nat → Int32} {ts0f_facts : Int32} {ts0a_heard : Nat → Int32} {ts0a_huts : Nat → Int32} {ts0a_minutes : Nat → Int32} {ts1f_facts : Int32} {ts1a_heard : Nat → Int32} {ts1a_huts : Nat → Int32} {ts1a_minutes : Nat → Int32} {tc0f_voices : Int32} {tc0f_step : Int32} {tc0a_parts : Nat → Int32} {tc0a_heights : Nat → Int32} {tc1f_voices : Int32} {tc1f_step : Int32} {tc1a_parts : Nat → Int32} {tc1a_heights : Nat → Int32} {m_images : Nat → Option Nat} {rlf_huts : Int32} {rlf_singers : Int32} {rlf_villages : Int32} {rlf_dams : Int32} {rlf_echoes : Int32} {rlf_deep : Int32} {rlf_slide : Int32} {rla_heights : Nat → Int32} {rla_ladders : Nat → Int32} {rla_minutes : Nat → Int32} {rla_echoFrom : Nat → Int32} {rla_echoTo : Nat → Int32} {rla_homes : Nat → Int32} {rla_talls : Nat → Int32} {rla_known : Nat → Int32} {rvf_deeds : Int32} {rva_kinds : Nat → Int32} {rva_firsts : Nat → Int32} {rva_seconds : Nat → Int32} {rsf_facts : Int32} {rsa_heard : Nat → Int32} {rsa_huts : Nat → Int32} {rsa_minutes : Nat → Int32} {rcf_voices : Int32} {rcf_step : Int32} {rca_parts : Nat → Int32} {rca_heights : Nat → Int32} {rf_fault : Int32} {rf_faultPlace : Int32} {ra_numbers : Nat → Int32} {ra_tape : Nat → Int32} {rf_length : Int32} {rf_behind : Int32} {rf_kind : Int32} {rf_first : Int32} {rf_value : Int32} {rf_hutsToldOf : Int32} {rf_singersToldOf : Int32} {nf_minute : Int32} {nf_avalanches : Int32} {nf_begun : Int32} {nf_climbed : Int32} {nf_seed : Int32} {na_huts : Nat → Int32} {na_known : Nat → Int32} {na_levels : Nat → Int32} {na_snow : Nat → Int32} {na_open : Nat → Int32} {pa_heard : Nat → Int32} {pa_walked : Nat → Int32} {pa_total : Nat → Int32} {pa_longest : Nat → Int32} {pa_next : Nat → Int32} {pa_cover : Nat → Int32} {pa_now : Nat → Int32} {pa_then : Nat → Int32} {ko_stands : Option Nat} {ka_gaps : Nat → Int32} {ka_behind : Nat → Int32} {ba_less : Nat → Int32} {ba_full : Nat → Int32} {x1 : Int32} {x2 : Int32} {x3 : Int32} {post : Int32 → (Nat → Int32) → (Nat → Int32) → Prop} (hw : q_wx_X10_carry_0 ta_counts tl0f_huts tl0f_singers tl0f_villages tl0f_dams tl0f_echoes tl0a_heights tl0a_minutes tl0a_echoFrom tl0a_echoTo tl0a_homes tl1f_huts tl1f_singers tl1f_villages tl1f_dams tl1f_echoes tl1a_heights tl1a_minutes tl1a_echoFrom tl1a_echoTo tl1a_homes pa_heard pa_walked x1 x2 x3 post) : Met l yX10_carry (Cond.code yX10_carry cX10_carry 5 (some .int) :: zb) rm_wx_X10_carry (va_Pc [.ref qx, .int x1, .int x2, .int x3] (fun U => wxW E qx ta_tape tf_length tf_fault tf_place ta_counts tl0f_huts tl0f_singers tl0f_villages tl0f_dams tl0f_echoes tl0f_deep tl0f_slide tl0a_heights tl0a_ladders tl0a_minutes tl0a_echoFrom tl0a_echoTo tl0a_homes tl0a_talls tl0a_known tl1f_huts tl1f_singers tl1f_villages tl1f_dams tl1f_echoes tl1f_deep tl1f_slide tl1a_heights tl1a_ladders tl1a_minutes tl1a_echoFrom tl1a_echoTo tl1a_homes tl1a_talls tl1a_known tv0f_deeds tv0a_kinds tv0a_firsts tv0a_seconds tv1f_deeds tv1a_kinds tv1a_firsts tv1a_seconds ts0f_facts ts0a_heard ts0a_huts ts0a_minutes ts1f_facts ts1a_heard ts1a_huts ts1a_minutes tc0f_voices tc0f_step tc0a_parts tc0a_heights tc1f_voices tc1f_step tc1a_parts tc1a_heights m_images rlf_huts rlf_singers rlf_villages rlf_dams rlf_echoes rlf_deep rlf_slide rla_heights rla_ladders rla_minutes rla_echoFrom rla_echoTo rla_homes rla_talls rla_known rvf_deeds rva_kinds rva_firsts rva_seconds rsf_facts rsa_heard rsa_huts rsa_minutes rcf_voices rcf_step rca_parts rca_heights rf_fault rf_faultPlace ra_numbers ra_tape rf_length rf_behind rf_kind rf_first rf_value rf_hutsToldOf rf_singersToldOf nf_minute nf_avalanches nf_begun nf_climbed nf_seed na_huts na_known na_levels na_snow na_open pa_heard pa_walked pa_total pa_longest pa_next pa_cover pa_now pa_then ko_stands ka_gaps ka_behind ba_less ba_full U.heap ∧ zK E U)) (zQi (S := (Nat → Int32) × (Nat → Int32)) (fun r u => post r u.1 u.2) (fun u H => wxW E qx ta_tape tf_length tf_fault tf_place ta_counts tl0f_huts tl0f_singers tl0f_villages tl0f_dams tl0f_echoes tl0f_deep tl0f_slide tl0a_heights tl0a_ladders tl0a_minutes tl0a_echoFrom tl0a_echoTo tl0a_homes tl0a_talls tl0a_known tl1f_huts tl1f_singers tl1f_villages tl1f_dams tl1f_echoes tl1f_deep tl1f_slide tl1a_heights tl1a_ladders tl1a_minutes tl1a_echoFrom tl1a_echoTo tl1a_homes tl1a_talls tl1a_known tv0f_deeds tv0a_kinds tv0a_firsts tv0a_seconds tv1f_deeds tv1a_kinds tv1a_firsts tv1a_seconds ts0f_facts ts0a_heard ts0a_huts ts0a_minutes ts1f_facts ts1a_heard ts1a_huts ts1a_minutes tc0f_voices tc0f_step tc0a_parts tc0a_heights tc1f_voices tc1f_step tc1a_parts tc1a_heights m_images rlf_huts rlf_singers rlf_villages rlf_dams rlf_echoes rlf_deep rlf_slide rla_heights rla_ladders rla_minutes rla_echoFrom rla_echoTo rla_homes rla_talls rla_known rvf_deeds rva_kinds rva_firsts rva_seconds rsf_facts rsa_heard rsa_huts rsa_minutes rcf_voices rcf_step rca_parts rca_heights rf_fault rf_faultPlace ra_numbers ra_tape rf_length rf_behind rf_kind rf_first rf_value rf_hutsToldOf rf_singersToldOf nf_minute nf_avalanches nf_begun nf_climbed nf_seed na_huts na_known na_levels na_snow na_open u.1 u.2 pa_total pa_longest pa_next pa_cover pa_now pa_then ko_stands ka_gaps ka_behind ba_less ba_full H) (wxA qx)) 0 0 (wxA qx) := by
  refine Met.ofW (cc := cX10_carry) (maxL := 5) (ret := (some .int)) (by decide) rfl ?_
  intro p e s m args below meth c s₁ B hml hv
  obtain ⟨rfl, hM, hK⟩ := hv
  have zc := zc_of B hml
  have hl := lv_entry ([.ref qx, .int x1, .int x2, .int x3]) (n := 5) (Nat.le_of_ble_eq_true rfl)
  rw [lg_entry_eq]
  generalize (lg_sl ([.ref qx, .int x1, .int x2, .int x3]) ++ List.replicate (5 - (lg_sl ([.ref qx, .int x1, .int x2, .int x3])).length) Slot.unset).toArray = ls at hl ⊢
  have hl : lv_has ls 5 [(0, .ref qx), (1, .int x1), (2, .int x2), (3, .int x3)] := hl
  exact t_wx_X10_carry_0 zc hK hM va_S.rf (lv_sub hl [0, 1, 2, 3] rfl) hw
-- wx_X10_join
abbrev rm_wx_X10_join : Room := { frames := 3, cells := 0, slots := 0, locals := 69 }
def q_wx_X10_join_0 (ta_counts : Nat → Int32) (tl0f_huts : Int32) (tl0f_dams : Int32) (tl0f_echoes : Int32) (tl0a_heights : Nat → Int32) (tl0a_minutes : Nat → Int32) (tl0a_echoFrom : Nat → Int32) (tl0a_echoTo : Nat → Int32) (tl1f_huts : Int32) (tl1f_dams : Int32) (tl1f_echoes : Int32) (tl1a_heights : Nat → Int32) (tl1a_minutes : Nat → Int32) (tl1a_echoFrom : Nat → Int32) (tl1a_echoTo : Nat → Int32) (pa_heard : Nat → Int32) (x1 : Int32) (x2 : Int32) (x3 : Int32) (x4 : Int32) (post : Int32 → (Nat → Int32) → Prop) : Prop :=
  q_wx_X10_landAt_0 ta_counts x1 (fun r_1 => (r_1 = 0 → (post (-1 : Int32) pa_heard)) ∧ (r_1 = 1 → (q_wl_X2_isOpen_0 tl1f_huts tl1f_dams x2 (fun r_2 => (r_2 = 0 → (post (-1 : Int32) pa_heard)) ∧ (¬ r_2 = 0 → (q_wl_X2_isOpen_0 tl1f_huts tl1f_dams x3 (fun r_3 => (¬ r_3 = 0 → (q_wp_X7_hear_9_0 pa_heard tl1f_huts tl1f_dams tl1f_echoes tl1a_heights tl1a_minutes tl1a_echoFrom tl1a_echoTo (fun pa_heard_1 => q_wp_X7_together_9_1_0 pa_heard_1 tl1f_huts x2 x3 x4 (fun r_4 => post r_4 pa_heard_1)))) ∧ (r_3 = 0 → (post (-1 : Int32) pa_heard)))))))) ∧ (¬ r_1 = 0 → ¬ r_1 = 1 → (q_wl_X2_isOpen_0 tl0f_huts tl0f_dams x2 (fun r_5 => (r_5 = 0 → (post (-1 : Int32) pa_heard)) ∧ (¬ r_5 = 0 → (q_wl_X2_isOpen_0 tl0f_huts tl0f_dams x3 (fun r_6 => (¬ r_6 = 0 → (q_wp_X7_hear_9_0 pa_heard tl0f_huts tl0f_dams tl0f_echoes tl0a_heights tl0a_minutes tl0a_echoFrom tl0a_echoTo (fun pa_heard_2 => q_wp_X7_together_9_1_0 pa_heard_2 tl0f_huts x2 x3 x4 (fun r_7 => post r_7 pa_heard_2)))) ∧ (r_6 = 0 → (post (-1 : Int32) pa_heard)))))))))
set_option maxRecDepth 20000 in
theorem t_wx_X10_join_0 {p : Program} {l : Launch} {e : Env} {s : State} {m : MethodId} {args : Array Value} {below : List Frame} {meth : Method} {c : Code} {E : zE} {qx : Nat} {ta_tape : Nat → Int32} {tf_length : Int32} {tf_fault : Int32} {tf_place : Int32} {ta_counts : Nat → Int32} {tl0f_huts : Int32} {tl0f_singers : Int32} {tl0f_villages : Int32} {tl0f_dams : Int32} {tl0f_echoes : Int32} {tl0f_deep : Int32} {tl0f_slide : Int32} {tl0a_heights : Nat → Int32} {tl0a_ladders : Nat → Int32} {tl0a_minutes : Nat → Int32} {tl0a_echoFrom : Nat → Int32} {tl0a_echoTo : Nat → Int32} {tl0a_homes : Nat → Int32} {tl0a_talls : Nat → Int32} {tl0a_known : Nat → Int32} {tl1f_huts : Int32} {tl1f_singers : Int32} {tl1f_villages : Int32} {tl1f_dams : Int32} {tl1f_echoes : Int32} {tl1f_deep : Int32} {tl1f_slide : Int32} {tl1a_heights : Nat → Int32} {tl1a_ladders : Nat → Int32} {tl1a_minutes : Nat → Int32} {tl1a_echoFrom : Nat → Int32} {tl1a_echoTo : Nat → Int32} {tl1a_homes : Nat → Int32} {tl1a_talls : Nat → Int32} {tl1a_known : Nat → Int32} {tv0f_deeds : Int32} {tv0a_kinds : Nat → Int32} {tv0a_firsts : Nat → Int32} {tv0a_seconds : Nat → Int32} {tv1f_deeds : Int32} {tv1a_kinds : Nat → Int32} {tv1a_firsts : Nat → Int32} {tv1a_seconds : Nat → Int32} {ts0f_facts : Int32} {ts0a_heard : Nat → Int32} {ts0a_huts : Nat → Int32} {ts0a_minutes : Nat → Int32} {ts1f_facts : Int32} {ts1a_heard : Nat → Int32} {ts1a_huts : Nat → Int32} {ts1a_minutes : Nat → Int32} {tc0f_voices : Int32} {tc0f_step : Int32} {tc0a_parts : Nat → Int32} {tc0a_heights : Nat → Int32} {tc1f_voices : Int32} {tc1f_step : Int32} {tc1a_parts : Nat → Int32} {tc1a_heights : Nat → Int32} {m_images : Nat → Option Nat} {rlf_huts : Int32} {rlf_singers : Int32} {rlf_villages : Int32} {rlf_dams : Int32} {rlf_echoes : Int32} {rlf_deep : Int32} {rlf_slide : Int32} {rla_heights : Nat → Int32} {rla_ladders : Nat → Int32} {rla_minutes : Nat → Int32} {rla_echoFrom : Nat → Int32} {rla_echoTo : Nat → Int32} {rla_homes : Nat → Int32} {rla_talls : Nat → Int32} {rla_known : Nat → Int32} {rvf_deeds : Int32} {rva_kinds : Nat → Int32} {rva_firsts : Nat → Int32} {rva_seconds : Nat → Int32} {rsf_facts : Int32} {rsa_heard : Nat → Int32} {rsa_huts : Nat → Int32} {rsa_minutes : Nat → Int32} {rcf_voices : Int32} {rcf_step : Int32} {rca_parts : Nat → Int32} {rca_heights : Nat → Int32} {rf_fault : Int32} {rf_faultPlace : Int32} {ra_numbers : Nat → Int32} {ra_tape : Nat → Int32} {rf_length : Int32} {rf_behind : Int32} {rf_kind : Int32} {rf_first : Int32} {rf_value : Int32} {rf_hutsToldOf : Int32} {rf_singersToldOf : Int32} {nf_minute : Int32} {nf_avalanches : Int32} {nf_begun : Int32} {nf_climbed : Int32} {nf_seed : Int32} {na_huts : Nat → Int32} {na_known : Nat → Int32} {na_levels : Nat → Int32} {na_snow : Nat → Int32} {na_open : Nat → Int32} {pa_heard : Nat → Int32} {pa_walked : Nat → Int32} {pa_total : Nat → Int32} {pa_longest : Nat → Int32} {pa_next : Nat → Int32} {pa_cover : Nat → Int32} {pa_now : Nat → Int32} {pa_then : Nat → Int32} {ko_stands : Option Nat} {ka_gaps : Nat → Int32} {ka_behind : Nat → Int32} {ba_less : Nat → Int32} {ba_full : Nat → Int32} {post : Int32 → (Nat → Int32) → Prop} {x1 : Int32} {x2 : Int32} {x3 : Int32} {x4 : Int32} {ls : Array Slot} {H : Heap} {locs : List Loc}
    (zc : zC p s m args meth c cX10_join 6 RX10 (some .int))
    (hK : zK E s)
    (hM : wxW E qx ta_tape tf_length tf_fault tf_place ta_counts tl0f_huts tl0f_singers tl0f_villages tl0f_dams tl0f_echoes tl0f_deep tl0f_slide tl0a_heights tl0a_ladders tl0a_minutes tl0a_echoFrom tl0a_echoTo tl0a_homes tl0a_talls tl0a_known tl1f_huts tl1f_singers tl1f_villages tl1f_dams tl1f_echoes tl1f_deep tl1f_slide tl1a_heights tl1a_ladders tl1a_minutes tl1a_echoFrom tl1a_echoTo tl1a_homes tl1a_talls tl1a_known tv0f_deeds tv0a_kinds tv0a_firsts tv0a_seconds tv1f_deeds tv1a_kinds tv1a_firsts tv1a_seconds ts0f_facts ts0a_heard ts0a_huts ts0a_minutes ts1f_facts ts1a_heard ts1a_huts ts1a_minutes tc0f_voices tc0f_step tc0a_parts tc0a_heights tc1f_voices tc1f_step tc1a_parts tc1a_heights m_images rlf_huts rlf_singers rlf_villages rlf_dams rlf_echoes rlf_deep rlf_slide rla_heights rla_ladders rla_minutes rla_echoFrom rla_echoTo rla_homes rla_talls rla_known rvf_deeds rva_kinds rva_firsts rva_seconds rsf_facts rsa_heard rsa_huts rsa_minutes rcf_voices rcf_step rca_parts rca_heights rf_fault rf_faultPlace ra_numbers ra_tape rf_length rf_behind rf_kind rf_first rf_value rf_hutsToldOf rf_singersToldOf nf_minute nf_avalanches nf_begun nf_climbed nf_seed na_huts na_known na_levels na_snow na_open pa_heard pa_walked pa_total pa_longest pa_next pa_cover pa_now pa_then ko_stands ka_gaps ka_behind ba_less ba_full H)
    (hS : va_S (wxA qx) s.heap H locs)
    (hl : lv_has ls 6 [(0, .ref qx), (1, .int x1), (2, .int x2), (3, .int x3), (4, .int x4)])
    (hw : q_wx_X10_join_0 ta_counts tl0f_huts tl0f_dams tl0f_echoes tl0a_heights tl0a_minutes tl0a_echoFrom tl0a_echoTo tl1f_huts tl1f_dams tl1f_echoes tl1a_heights tl1a_minutes tl1a_echoFrom tl1a_echoTo pa_heard x1 x2 x3 x4 post) :
    W p l e rm_wx_X10_join s m args below meth c H locs 0 0 (MQ below (zQi (S := (Nat → Int32)) (fun r u => post r u) (fun u H => wxW E qx ta_tape tf_length tf_fault tf_place ta_counts tl0f_huts tl0f_singers tl0f_villages tl0f_dams tl0f_echoes tl0f_deep tl0f_slide tl0a_heights tl0a_ladders tl0a_minutes tl0a_echoFrom tl0a_echoTo tl0a_homes tl0a_talls tl0a_known tl1f_huts tl1f_singers tl1f_villages tl1f_dams tl1f_echoes tl1f_deep tl1f_slide tl1a_heights tl1a_ladders tl1a_minutes tl1a_echoFrom tl1a_echoTo tl1a_homes tl1a_talls tl1a_known tv0f_deeds tv0a_kinds tv0a_firsts tv0a_seconds tv1f_deeds tv1a_kinds tv1a_firsts tv1a_seconds ts0f_facts ts0a_heard ts0a_huts ts0a_minutes ts1f_facts ts1a_heard ts1a_huts ts1a_minutes tc0f_voices tc0f_step tc0a_parts tc0a_heights tc1f_voices tc1f_step tc1a_parts tc1a_heights m_images rlf_huts rlf_singers rlf_villages rlf_dams rlf_echoes rlf_deep rlf_slide rla_heights rla_ladders rla_minutes rla_echoFrom rla_echoTo rla_homes rla_talls rla_known rvf_deeds rva_kinds rva_firsts rva_seconds rsf_facts rsa_heard rsa_huts rsa_minutes rcf_voices rcf_step rca_parts rca_heights rf_fault rf_faultPlace ra_numbers ra_tape rf_length rf_behind rf_kind rf_first rf_value rf_hutsToldOf rf_singersToldOf nf_minute nf_avalanches nf_begun nf_climbed nf_seed na_huts na_known na_levels na_snow na_open u pa_walked pa_total pa_longest pa_next pa_cover pa_now pa_then ko_stands ka_gaps ka_behind ba_less ba_full H) (wxA qx)) args s 0 0 (wxA qx)) (F0 m 0 ls []) := by
  have hx := zc.1
  have hb := zc.2.1
  refine lv_aload_n hx hb dX10_join_0 rfl (lv_at hl 0 rfl) ?_
  refine lv_iload_n hx hb dX10_join_1 rfl (lv_at hl 1 rfl) ?_
  refine zV_r [.int x1] [] zc ky_X10_landAt kz_X10_landAt km_10_89 (c_wx_X10_landAt l hw) (wxPreV0 hK hM) rfl rfl hl.1 (Nat.le_of_ble_eq_true rfl) ⟨rfl, rfl⟩ ⟨Nat.le_of_ble_eq_true rfl, Nat.le_of_ble_eq_true rfl⟩ ⟨(Nat.zero_le _), (Nat.zero_le _)⟩ dX10_join_2 (fun r_1 hw => ?_)
  by_cases hc0 : r_1 = 0
  · have hw := hw.1 hc0
    refine W.eq (g2 := F0 m 5 ls (.null :: [])) (by simp [hc0]) ?_
    refine lv_astoreN (lv' := [(5, .null), (0, .ref qx), (1, .int x1), (2, .int x2), (3, .int x3), (4, .int x4)]) hx hb dX10_join_5 hl (by decide) rfl (fun ls hl => ?_)
    refine lv_aloadN hx hb dX10_join_7 (lv_at hl 0 rfl) ?_
    refine lv_ifnullN (tgt := 30) hx hb dX10_join_9 (by decide) ?_
    refine lv_iconst (v := (-1 : Int32)) hx hb dX10_join_30 (by decide) ?_
    exact zret_iw pa_heard zc hS hw hM dX10_join_31
  by_cases hc1 : r_1 = 1
  · have hw := hw.2.1 hc1
    refine W.eq (g2 := F0 m 5 ls (.ref (qx + 14) :: [])) (by simp [hc0, hc1]) ?_
    refine lv_astore (lv' := [(5, .ref (qx + 14)), (0, .ref qx), (1, .int x1), (2, .int x2), (3, .int x3), (4, .int x4)]) hx hb dX10_join_5 hl (by decide) rfl (fun ls hl => ?_)
    refine lv_aload hx hb dX10_join_7 (lv_at hl 0 rfl) ?_
    refine lv_ifnull hx hb dX10_join_9 ?_
    refine lv_aload hx hb dX10_join_12 (lv_at hl 0 rfl) ?_
    refine lv_iload_n hx hb dX10_join_14 rfl (lv_at hl 3 rfl) ?_
    refine zV_i [.int x2] [] zc ky_X2_isOpen kz_X2_isOpen km_10_176 (c_wl_X2_isOpen l hw) (wlPreV0 hK (pj_wx_wl_14 hM)) rfl rfl hl.1 (Nat.le_of_ble_eq_true rfl) ⟨rfl, rfl⟩ ⟨Nat.le_of_ble_eq_true rfl, Nat.le_of_ble_eq_true rfl⟩ ⟨(Nat.zero_le _), (Nat.zero_le _)⟩ dX10_join_15 (fun r_2 hw => ?_)
    refine lv_if_eq (tgt := 30) hx hb dX10_join_18 (by decide) (fun hc => ?_) (fun hc => ?_)
    · have hw := hw.1 hc
      refine lv_iconst (v := (-1 : Int32)) hx hb dX10_join_30 (by decide) ?_
      exact zret_iw pa_heard zc hS hw hM dX10_join_31
    · have hw := hw.2 hc
      refine lv_aload hx hb dX10_join_21 (lv_at hl 0 rfl) ?_
      refine lv_iload_n hx hb dX10_join_23 rfl (lv_at hl 4 rfl) ?_
      refine zV_i [.int x3] [] zc ky_X2_isOpen kz_X2_isOpen km_10_176 (c_wl_X2_isOpen l hw) (wlPreV0 hK (pj_wx_wl_14 hM)) rfl rfl hl.1 (Nat.le_of_ble_eq_true rfl) ⟨rfl, rfl⟩ ⟨Nat.le_of_ble_eq_true rfl, Nat.le_of_ble_eq_true rfl⟩ ⟨(Nat.zero_le _), (Nat.zero_le _)⟩ dX10_join_24 (fun r_3 hw => ?_)
      refine lv_if_ne (tgt := 32) hx hb dX10_join_27 (by decide) (fun hc => ?_) (fun hc => ?_)
      · have hw := hw.1 hc
        refine lv_aload_n hx hb dX10_join_32 rfl (lv_at hl 1 rfl) ?_
        refine wxg_10_37_0 zc hK hM dX10_join_33 ?_
        refine lv_aload hx hb dX10_join_36 (lv_at hl 0 rfl) ?_
        refine zVx_v [.ref (qx + 14)] [] zc ky_X7_hear kz_X7_hear km_10_139 (c_wp_X7_hear_9 l hw) (wpPreV0 hK (pj_wx_wp_78_14_33 hM)) hS (sb_wx_wp_78_14_33) rfl rfl hl.1 (Nat.le_of_ble_eq_true rfl) ⟨rfl, rfl⟩ ⟨Nat.le_of_ble_eq_true rfl, Nat.le_of_ble_eq_true rfl⟩ ⟨(Nat.zero_le _), (Nat.zero_le _)⟩ dX10_join_38 (fun pa_heard_1 H1 locs1 hw hM1 hk hS => ?_)
        have hM := jn_wx_wp_78_14_33 hM hM1 hk
        refine lv_aload_n hx hb dX10_join_41 rfl (lv_at hl 1 rfl) ?_
        refine wxg_10_37_0 zc hK hM dX10_join_42 ?_
        refine lv_aload hx hb dX10_join_45 (lv_at hl 0 rfl) ?_
        refine lv_aload_n hx hb dX10_join_47 rfl (lv_at hl 1 rfl) ?_
        refine wxg_10_37_0 zc hK hM dX10_join_48 ?_
        refine wxg_10_143_78 zc hK hM dX10_join_51 ?_
        refine lv_iload_n hx hb dX10_join_54 rfl (lv_at hl 3 rfl) ?_
        refine lv_iload_n hx hb dX10_join_55 rfl (lv_at hl 4 rfl) ?_
        refine lv_iload hx hb dX10_join_56 (lv_at hl 5 rfl) ?_
        refine zV_i [.ref (qx + 14), .ref (qx + 79), .int x2, .int x3, .int x4] [] zc ky_X7_together kz_X7_together km_10_294 (c_wp_X7_together_9_1 l hw) (wpPreV0 hK (pj_wx_wp_78_14_33 hM)) rfl rfl hl.1 (Nat.le_of_ble_eq_true rfl) ⟨rfl, rfl⟩ ⟨Nat.le_of_ble_eq_true rfl, Nat.le_of_ble_eq_true rfl⟩ ⟨(Nat.zero_le _), (Nat.zero_le _)⟩ dX10_join_58 (fun r_4 hw => ?_)
        exact zret_iw pa_heard_1 zc hS hw hM dX10_join_61
      · have hw := hw.2 hc
        refine lv_iconst (v := (-1 : Int32)) hx hb dX10_join_30 (by decide) ?_
        exact zret_iw pa_heard zc hS hw hM dX10_join_31
  have hw := hw.2.2 hc0 hc1
  refine W.eq (g2 := F0 m 5 ls (.ref (qx + 5) :: [])) (by simp [hc0, hc1]) ?_
  refine lv_astore (lv' := [(5, .ref (qx + 5)), (0, .ref qx), (1, .int x1), (2, .int x2), (3, .int x3), (4, .int x4)]) hx hb dX10_join_5 hl (by decide) rfl (fun ls hl => ?_)
  refine lv_aload hx hb dX10_join_7 (lv_at hl 0 rfl) ?_
  refine lv_ifnull hx hb dX10_join_9 ?_
  refine lv_aload hx hb dX10_join_12 (lv_at hl 0 rfl) ?_
  refine lv_iload_n hx hb dX10_join_14 rfl (lv_at hl 3 rfl) ?_
  refine zV_i [.int x2] [] zc ky_X2_isOpen kz_X2_isOpen km_10_176 (c_wl_X2_isOpen l hw) (wlPreV0 hK (pj_wx_wl_5 hM)) rfl rfl hl.1 (Nat.le_of_ble_eq_true rfl) ⟨rfl, rfl⟩ ⟨Nat.le_of_ble_eq_true rfl, Nat.le_of_ble_eq_true rfl⟩ ⟨(Nat.zero_le _), (Nat.zero_le _)⟩ dX10_join_15 (fun r_5 hw => ?_)
  refine lv_if_eq (tgt := 30) hx hb dX10_join_18 (by decide) (fun hc => ?_) (fun hc => ?_)
  · have hw := hw.1 hc
    refine lv_iconst (v := (-1 : Int32)) hx hb dX10_join_30 (by decide) ?_
    exact zret_iw pa_heard zc hS hw hM dX10_join_31
  · have hw := hw.2 hc
    refine lv_aload hx hb dX10_join_21 (lv_at hl 0 rfl) ?_
    refine lv_iload_n hx hb dX10_join_23 rfl (lv_at hl 4 rfl) ?_
    refine zV_i [.int x3] [] zc ky_X2_isOpen kz_X2_isOpen km_10_176 (c_wl_X2_isOpen l hw) (wlPreV0 hK (pj_wx_wl_5 hM)) rfl rfl hl.1 (Nat.le_of_ble_eq_true rfl) ⟨rfl, rfl⟩ ⟨Nat.le_of_ble_eq_true rfl, Nat.le_of_ble_eq_true rfl⟩ ⟨(Nat.zero_le _), (Nat.zero_le _)⟩ dX10_join_24 (fun r_6 hw => ?_)
    refine lv_if_ne (tgt := 32) hx hb dX10_join_27 (by decide) (fun hc => ?_) (fun hc => ?_)
    · have hw := hw.1 hc
      refine lv_aload_n hx hb dX10_join_32 rfl (lv_at hl 1 rfl) ?_
      refine wxg_10_37_0 zc hK hM dX10_join_33 ?_
      refine lv_aload hx hb dX10_join_36 (lv_at hl 0 rfl) ?_
      refine zVx_v [.ref (qx + 5)] [] zc ky_X7_hear kz_X7_hear km_10_139 (c_wp_X7_hear_9 l hw) (wpPreV0 hK (pj_wx_wp_78_5_33 hM)) hS (sb_wx_wp_78_5_33) rfl rfl hl.1 (Nat.le_of_ble_eq_true rfl) ⟨rfl, rfl⟩ ⟨Nat.le_of_ble_eq_true rfl, Nat.le_of_ble_eq_true rfl⟩ ⟨(Nat.zero_le _), (Nat.zero_le _)⟩ dX10_join_38 (fun pa_heard_2 H1 locs1 hw hM1 hk hS => ?_)
      have hM := jn_wx_wp_78_5_33 hM hM1 hk
      refine lv_aload_n hx hb dX10_join_41 rfl (lv_at hl 1 rfl) ?_
      refine wxg_10_37_0 zc hK hM dX10_join_42 ?_
      refine lv_aload hx hb dX10_join_45 (lv_at hl 0 rfl) ?_
      refine lv_aload_n hx hb dX10_join_47 rfl (lv_at hl 1 rfl) ?_
      refine wxg_10_37_0 zc hK hM dX10_join_48 ?_
      refine wxg_10_143_78 zc hK hM dX10_join_51 ?_
      refine lv_iload_n hx hb dX10_join_54 rfl (lv_at hl 3 rfl) ?_
      refine lv_iload_n hx hb dX10_join_55 rfl (lv_at hl 4 rfl) ?_
      refine lv_iload hx hb dX10_join_56 (lv_at hl 5 rfl) ?_
      refine zV_i [.ref (qx + 5), .ref (qx + 79), .int x2, .int x3, .int x4] [] zc ky_X7_together kz_X7_together km_10_294 (c_wp_X7_together_9_1 l hw) (wpPreV0 hK (pj_wx_wp_78_5_33 hM)) rfl rfl hl.1 (Nat.le_of_ble_eq_true rfl) ⟨rfl, rfl⟩ ⟨Nat.le_of_ble_eq_true rfl, Nat.le_of_ble_eq_true rfl⟩ ⟨(Nat.zero_le _), (Nat.zero_le _)⟩ dX10_join_58 (fun r_7 hw => ?_)
      exact zret_iw pa_heard_2 zc hS hw hM dX10_join_61
    · have hw := hw.2 hc
      refine lv_iconst (v := (-1 : Int32)) hx hb dX10_join_30 (by decide) ?_
      exact zret_iw pa_heard zc hS hw hM dX10_join_31
set_option maxRecDepth 20000 in
theorem c_wx_X10_join (l : Launch) {E : zE} {qx : Nat} {ta_tape : Nat → Int32} {tf_length : Int32} {tf_fault : Int32} {tf_place : Int32} {ta_counts : Nat → Int32} {tl0f_huts : Int32} {tl0f_singers : Int32} {tl0f_villages : Int32} {tl0f_dams : Int32} {tl0f_echoes : Int32} {tl0f_deep : Int32} {tl0f_slide : Int32} {tl0a_heights : Nat → Int32} {tl0a_ladders : Nat → Int32} {tl0a_minutes : Nat → Int32} {tl0a_echoFrom : Nat → Int32} {tl0a_echoTo : Nat → Int32} {tl0a_homes : Nat → Int32} {tl0a_talls : Nat → Int32} {tl0a_known : Nat → Int32} {tl1f_huts : Int32} {tl1f_singers : Int32} {tl1f_villages : Int32} {tl1f_dams : Int32} {tl1f_echoes : Int32} {tl1f_deep : Int32} {tl1f_slide : Int32} {tl1a_heights : Nat → Int32} {tl1a_ladders : Nat → Int32} {tl1a_minutes : Nat → Int32} {tl1a_echoFrom : Nat → Int32} {tl1a_echoTo : Nat → Int32} {tl1a_homes : Nat → Int32} {tl1a_talls : Nat → Int32} {tl1a_known : Nat → Int32} {tv0f_deeds : Int32} {tv0a_kinds : Nat → Int32} {tv0a_firsts : Nat → Int32} {tv0a_seconds : Nat → Int32} {tv1f_deeds : Int32} {tv1a_kinds : Nat → Int32} {tv1a_firsts : Nat → Int32} {tv1a_seconds : Nat → Int32} {ts0f_facts : Int32} {ts0a_heard : Nat → Int32} {ts0a_huts : Nat → Int32} {ts0a_minutes : Nat → Int32} {ts1f_facts : Int32} {ts1a_heard : Nat → Int32} {ts1a_huts : Nat → Int32} {ts1a_minutes : Nat → Int32} {tc0f_voices : Int32} {tc0f_step : Int32} {tc0a_parts : Nat → Int32} {tc0a_heights : Nat → Int32} {tc1f_voices : Int32} {tc1f_step : Int32} {tc1a_parts : Nat → Int32} {tc1a_heights : Nat → Int32} {m_images : Nat → Option Nat} {rlf_huts : Int32} {rlf_singers : Int32} {rlf_villages : Int32} {rlf_dams : Int32} {rlf_echoes : Int32} {rlf_deep : Int32} {rlf_slide : Int32} {rla_heights : Nat → Int32} {rla_ladders : Nat → Int32} {rla_minutes : Nat → Int32} {rla_echoFrom : Nat → Int32} {rla_echoTo : Nat → Int32} {rla_homes : Nat → Int32} {rla_talls : Nat → Int32} {rla_known : Nat → Int32} {rvf_deeds : Int32} {rva_kinds : Nat → Int32} {rva_firsts : Nat → Int32} {rva_seconds : Nat → Int32} {rsf_facts : Int32} {rsa_heard : Nat → Int32} {rsa_huts : Nat → Int32} {rsa_minutes : Nat → Int32} {rcf_voices : Int32} {rcf_step : Int32} {rca_parts : Nat → Int32} {rca_heights : Nat → Int32} {rf_fault : Int32} {rf_faultPlace : Int32} {ra_numbers : Nat → Int32} {ra_tape : Nat → Int32} {rf_length : Int32} {rf_behind : Int32} {rf_kind : Int32} {rf_first : Int32} {rf_value : Int32} {rf_hutsToldOf : Int32} {rf_singersToldOf : Int32} {nf_minute : Int32} {nf_avalanches : Int32} {nf_begun : Int32} {nf_climbed : Int32} {nf_seed : Int32} {na_huts : Nat → Int32} {na_known : Nat → Int32} {na_levels : Nat → Int32} {na_snow : Nat → Int32} {na_open : Nat → Int32} {pa_heard : Nat → Int32} {pa_walked : Nat → Int32} {pa_total : Nat → Int32} {pa_longest : Nat → Int32} {pa_next : Nat → Int32} {pa_cover : Nat → Int32} {pa_now : Nat → Int32} {pa_then : Nat → Int32} {ko_stands : Option Nat} {ka_gaps : Nat → Int32} {ka_behind : Nat → Int32} {ba_less : Nat → Int32} {ba_full : Nat → Int32} {x1 : Int32} {x2 : Int32} {x3 : Int32} {x4 : Int32} {post : Int32 → (Nat → Int32) → Prop} (hw : q_wx_X10_join_0 ta_counts tl0f_huts tl0f_dams tl0f_echoes tl0a_heights tl0a_minutes tl0a_echoFrom tl0a_echoTo tl1f_huts tl1f_dams tl1f_echoes tl1a_heights tl1a_minutes tl1a_echoFrom tl1a_echoTo pa_heard x1 x2 x3 x4 post) : Met l yX10_join (Cond.code yX10_join cX10_join 6 (some .int) :: zb) rm_wx_X10_join (va_Pc [.ref qx, .int x1, .int x2, .int x3, .int x4] (fun U => wxW E qx ta_tape tf_length tf_fault tf_place ta_counts tl0f_huts tl0f_singers tl0f_villages tl0f_dams tl0f_echoes tl0f_deep tl0f_slide tl0a_heights tl0a_ladders tl0a_minutes tl0a_echoFrom tl0a_echoTo tl0a_homes tl0a_talls tl0a_known tl1f_huts tl1f_singers tl1f_villages tl1f_dams tl1f_echoes tl1f_deep tl1f_slide tl1a_heights tl1a_ladders tl1a_minutes tl1a_echoFrom tl1a_echoTo tl1a_homes tl1a_talls tl1a_known tv0f_deeds tv0a_kinds tv0a_firsts tv0a_seconds tv1f_deeds tv1a_kinds tv1a_firsts tv1a_seconds ts0f_facts ts0a_heard ts0a_huts ts0a_minutes ts1f_facts ts1a_heard ts1a_huts ts1a_minutes tc0f_voices tc0f_step tc0a_parts tc0a_heights tc1f_voices tc1f_step tc1a_parts tc1a_heights m_images rlf_huts rlf_singers rlf_villages rlf_dams rlf_echoes rlf_deep rlf_slide rla_heights rla_ladders rla_minutes rla_echoFrom rla_echoTo rla_homes rla_talls rla_known rvf_deeds rva_kinds rva_firsts rva_seconds rsf_facts rsa_heard rsa_huts rsa_minutes rcf_voices rcf_step rca_parts rca_heights rf_fault rf_faultPlace ra_numbers ra_tape rf_length rf_behind rf_kind rf_first rf_value rf_hutsToldOf rf_singersToldOf nf_minute nf_avalanches nf_begun nf_climbed nf_seed na_huts na_known na_levels na_snow na_open pa_heard pa_walked pa_total pa_longest pa_next pa_cover pa_now pa_then ko_stands ka_gaps ka_behind ba_less ba_full U.heap ∧ zK E U)) (zQi (S := (Nat → Int32)) (fun r u => post r u) (fun u H => wxW E qx ta_tape tf_length tf_fault tf_place ta_counts tl0f_huts tl0f_singers tl0f_villages tl0f_dams tl0f_echoes tl0f_deep tl0f_slide tl0a_heights tl0a_ladders tl0a_minutes tl0a_echoFrom tl0a_echoTo tl0a_homes tl0a_talls tl0a_known tl1f_huts tl1f_singers tl1f_villages tl1f_dams tl1f_echoes tl1f_deep tl1f_slide tl1a_heights tl1a_ladders tl1a_minutes tl1a_echoFrom tl1a_echoTo tl1a_homes tl1a_talls tl1a_known tv0f_deeds tv0a_kinds tv0a_firsts tv0a_seconds tv1f_deeds tv1a_kinds tv1a_firsts tv1a_seconds ts0f_facts ts0a_heard ts0a_huts ts0a_minutes ts1f_facts ts1a_heard ts1a_huts ts1a_minutes tc0f_voices tc0f_step tc0a_parts tc0a_heights tc1f_voices tc1f_step tc1a_parts tc1a_heights m_images rlf_huts rlf_singers rlf_villages rlf_dams rlf_echoes rlf_deep rlf_slide rla_heights rla_ladders rla_minutes rla_echoFrom rla_echoTo rla_homes rla_talls rla_known rvf_deeds rva_kinds rva_firsts rva_seconds rsf_facts rsa_heard rsa_huts rsa_minutes rcf_voices rcf_step rca_parts rca_heights rf_fault rf_faultPlace ra_numbers ra_tape rf_length rf_behind rf_kind rf_first rf_value rf_hutsToldOf rf_singersToldOf nf_minute nf_avalanches nf_begun nf_climbed nf_seed na_huts na_known na_levels na_snow na_open u pa_walked pa_total pa_longest pa_next pa_cover pa_now pa_then ko_stands ka_gaps ka_behind ba_less ba_full H) (wxA qx)) 0 0 (wxA qx) := by
  refine Met.ofW (cc := cX10_join) (maxL := 6) (ret := (some .int)) (by decide) rfl ?_
  intro p e s m args below meth c s₁ B hml hv
  obtain ⟨rfl, hM, hK⟩ := hv
  have zc := zc_of B hml
  have hl := lv_entry ([.ref qx, .int x1, .int x2, .int x3, .int x4]) (n := 6) (Nat.le_of_ble_eq_true rfl)
  rw [lg_entry_eq]
  generalize (lg_sl ([.ref qx, .int x1, .int x2, .int x3, .int x4]) ++ List.replicate (6 - (lg_sl ([.ref qx, .int x1, .int x2, .int x3, .int x4])).length) Slot.unset).toArray = ls at hl ⊢
  have hl : lv_has ls 6 [(0, .ref qx), (1, .int x1), (2, .int x2), (3, .int x3), (4, .int x4)] := hl
  exact t_wx_X10_join_0 zc hK hM va_S.rf (lv_sub hl [0, 1, 2, 3, 4] rfl) hw
end
section
-- wx_X10_slopes
abbrev rm_wx_X10_slopes : Room := { frames := 5, cells := 0, slots := 0, locals := 115 }
def q_wx_X10_slopes_0 (ta_counts : Nat → Int32) (tl0f_huts : Int32) (tl0f_dams : Int32) (tl0f_echoes : Int32) (tl0a_heights : Nat → Int32) (tl0a_minutes : Nat → Int32) (tl0a_echoFrom : Nat → Int32) (tl0a_echoTo : Nat → Int32) (tl1f_huts : Int32) (tl1f_dams : Int32) (tl1f_echoes : Int32) (tl1a_heights : Nat → Int32) (tl1a_minutes : Nat → Int32) (tl1a_echoFrom : Nat → Int32) (tl1a_echoTo : Nat → Int32) (pa_heard : Nat → Int32) (pa_total : Nat → Int32) (pa_longest : Nat → Int32) (pa_now : Nat → Int32) (pa_then : Nat → Int32) (x1 : Int32) (x2 : Int32) (post : Int32 → (Nat → Int32) → (Nat → Int32) → (Nat → Int32) → (Nat → Int32) → (Nat → Int32) → Prop) : Prop :=
  q_wx_X10_landAt_0 ta_counts x1 (fun r_1 => (r_1 = 0 → (post (-1 : Int32) pa_heard pa_total pa_longest pa_now pa_then)) ∧ (r_1 = 1 → (q_wp_X7_hear_9_0 pa_heard tl1f_huts tl1f_dams tl1f_echoes tl1a_heights tl1a_minutes tl1a_echoFrom tl1a_echoTo (fun pa_heard_1 => (x2.toInt < 0 ∨ 3 < x2.toInt → (post (-1 : Int32) pa_heard_1 pa_total pa_longest pa_now pa_then)) ∧ (x2 = (0 : Int32) → (q_wp_X7_tops_9_0 pa_heard_1 tl1f_huts (fun r_2 => post r_2 pa_heard_1 pa_total pa_longest pa_now pa_then))) ∧ (x2 = (1 : Int32) → (q_wp_X7_ends_9_0 pa_heard_1 tl1f_huts tl1f_dams (fun r_3 => post r_3 pa_heard_1 pa_total pa_longest pa_now pa_then))) ∧ (x2 = (2 : Int32) → (q_wp_X7_couples_9_0 pa_heard_1 tl1f_huts (fun r_4 => post r_4 pa_heard_1 pa_total pa_longest pa_now pa_then))) ∧ (x2 = (3 : Int32) → (q_wp_X7_depth_9_0 pa_total pa_longest pa_now pa_then tl1f_huts tl1f_dams tl1a_heights tl1a_minutes (fun r_5 pa_total_1 pa_longest_1 pa_now_1 pa_then_1 => post r_5 pa_heard_1 pa_total_1 pa_longest_1 pa_now_1 pa_then_1)))))) ∧ (¬ r_1 = 0 → ¬ r_1 = 1 → (q_wp_X7_hear_9_0 pa_heard tl0f_huts tl0f_dams tl0f_echoes tl0a_heights tl0a_minutes tl0a_echoFrom tl0a_echoTo (fun pa_heard_2 => (x2.toInt < 0 ∨ 3 < x2.toInt → (post (-1 : Int32) pa_heard_2 pa_total pa_longest pa_now pa_then)) ∧ (x2 = (0 : Int32) → (q_wp_X7_tops_9_0 pa_heard_2 tl0f_huts (fun r_6 => post r_6 pa_heard_2 pa_total pa_longest pa_now pa_then))) ∧ (x2 = (1 : Int32) → (q_wp_X7_ends_9_0 pa_heard_2 tl0f_huts tl0f_dams (fun r_7 => post r_7 pa_heard_2 pa_total pa_longest pa_now pa_then))) ∧ (x2 = (2 : Int32) → (q_wp_X7_couples_9_0 pa_heard_2 tl0f_huts (fun r_8 => post r_8 pa_heard_2 pa_total pa_longest pa_now pa_then))) ∧ (x2 = (3 : Int32) → (q_wp_X7_depth_9_0 pa_total pa_longest pa_now pa_then tl0f_huts tl0f_dams tl0a_heights tl0a_minutes (fun r_9 pa_total_2 pa_longest_2 pa_now_2 pa_then_2 => post r_9 pa_heard_2 pa_total_2 pa_longest_2 pa_now_2 pa_then_2)))))))
set_option maxRecDepth 20000 in
theorem t_wx_X10_slopes_0 {p : Program} {l : Launch} {e : Env} {s : State} {m : MethodId} {args : Array Value} {below : List Frame} {meth : Method} {c : Code} {E : zE} {qx : Nat} {ta_tape : Nat → Int32} {tf_length : Int32} {tf_fault : Int32} {tf_place : Int32} {ta_counts : Nat → Int32} {tl0f_huts : Int32} {tl0f_singers : Int32} {tl0f_villages : Int32} {tl0f_dams : Int32} {tl0f_echoes : Int32} {tl0f_deep : Int32} {tl0f_slide : Int32} {tl0a_heights : Nat → Int32} {tl0a_ladders : Nat → Int32} {tl0a_minutes : Nat → Int32} {tl0a_echoFrom : Nat → Int32} {tl0a_echoTo : Nat → Int32} {tl0a_homes : Nat → Int32} {tl0a_talls : Nat → Int32} {tl0a_known : Nat → Int32} {tl1f_huts : Int32} {tl1f_singers : Int32} {tl1f_villages : Int32} {tl1f_dams : Int32} {tl1f_echoes : Int32} {tl1f_deep : Int32} {tl1f_slide : Int32} {tl1a_heights : Nat → Int32} {tl1a_ladders : Nat → Int32} {tl1a_minutes : Nat → Int32} {tl1a_echoFrom : Nat → Int32} {tl1a_echoTo : Nat → Int32} {tl1a_homes : Nat → Int32} {tl1a_talls : Nat → Int32} {tl1a_known : Nat → Int32} {tv0f_deeds : Int32} {tv0a_kinds : Nat → Int32} {tv0a_firsts : Nat → Int32} {tv0a_seconds : Nat → Int32} {tv1f_deeds : Int32} {tv1a_kinds : Nat → Int32} {tv1a_firsts : Nat → Int32} {tv1a_seconds : Nat → Int32} {ts0f_facts : Int32} {ts0a_heard : Nat → Int32} {ts0a_huts : Nat → Int32} {ts0a_minutes : Nat → Int32} {ts1f_facts : Int32} {ts1a_heard : Nat → Int32} {ts1a_huts : Nat → Int32} {ts1a_minutes : Nat → Int32} {tc0f_voices : Int32} {tc0f_step : Int32} {tc0a_parts : Nat → Int32} {tc0a_heights : Nat → Int32} {tc1f_voices : Int32} {tc1f_step : Int32} {tc1a_parts : Nat → Int32} {tc1a_heights : Nat → Int32} {m_images : Nat → Option Nat} {rlf_huts : Int32} {rlf_singers : Int32} {rlf_villages : Int32} {rlf_dams : Int32} {rlf_echoes : Int32} {rlf_deep : Int32} {rlf_slide : Int32} {rla_heights : Nat → Int32} {rla_ladders : Nat → Int32} {rla_minutes : Nat → Int32} {rla_echoFrom : Nat → Int32} {rla_echoTo : Nat → Int32} {rla_homes : Nat → Int32} {rla_talls : Nat → Int32} {rla_known : Nat → Int32} {rvf_deeds : Int32} {rva_kinds : Nat → Int32} {rva_firsts : Nat → Int32} {rva_seconds : Nat → Int32} {rsf_facts : Int32} {rsa_heard : Nat → Int32} {rsa_huts : Nat → Int32} {rsa_minutes : Nat → Int32} {rcf_voices : Int32} {rcf_step : Int32} {rca_parts : Nat → Int32} {rca_heights : Nat → Int32} {rf_fault : Int32} {rf_faultPlace : Int32} {ra_numbers : Nat → Int32} {ra_tape : Nat → Int32} {rf_length : Int32} {rf_behind : Int32} {rf_kind : Int32} {rf_first : Int32} {rf_value : Int32} {rf_hutsToldOf : Int32} {rf_singersToldOf : Int32} {nf_minute : Int32} {nf_avalanches : Int32} {nf_begun : Int32} {nf_climbed : Int32} {nf_seed : Int32} {na_huts : Nat → Int32} {na_known : Nat → Int32} {na_levels : Nat → Int32} {na_snow : Nat → Int32} {na_open : Nat → Int32} {pa_heard : Nat → Int32} {pa_walked : Nat → Int32} {pa_total : Nat → Int32} {pa_longest : Nat → Int32} {pa_next : Nat → Int32} {pa_cover : Nat → Int32} {pa_now : Nat → Int32} {pa_then : Nat → Int32} {ko_stands : Option Nat} {ka_gaps : Nat → Int32} {ka_behind : Nat → Int32} {ba_less : Nat → Int32} {ba_full : Nat → Int32} {post : Int32 → (Nat → Int32) → (Nat → Int32) → (Nat → Int32) → (Nat → Int32) → (Nat → Int32) → Prop} {x1 : Int32} {x2 : Int32} {ls : Array Slot} {H : Heap} {locs : List Loc}
    (zc : zC p s m args meth c cX10_slopes 4 RX10 (some .int))
    (hK : zK E s)
    (hM : wxW E qx ta_tape tf_length tf_fault tf_place ta_counts tl0f_huts tl0f_singers tl0f_villages tl0f_dams tl0f_echoes tl0f_deep tl0f_slide tl0a_heights tl0a_ladders tl0a_minutes tl0a_echoFrom tl0a_echoTo tl0a_homes tl0a_talls tl0a_known tl1f_huts tl1f_singers tl1f_villages tl1f_dams tl1f_echoes tl1f_deep tl1f_slide tl1a_heights tl1a_ladders tl1a_minutes tl1a_echoFrom tl1a_echoTo tl1a_homes tl1a_talls tl1a_known tv0f_deeds tv0a_kinds tv0a_firsts tv0a_seconds tv1f_deeds tv1a_kinds tv1a_firsts tv1a_seconds ts0f_facts ts0a_heard ts0a_huts ts0a_minutes ts1f_facts ts1a_heard ts1a_huts ts1a_minutes tc0f_voices tc0f_step tc0a_parts tc0a_heights tc1f_voices tc1f_step tc1a_parts tc1a_heights m_images rlf_huts rlf_singers rlf_villages rlf_dams rlf_echoes rlf_deep rlf_slide rla_heights rla_ladders rla_minutes rla_echoFrom rla_echoTo rla_homes rla_talls rla_known rvf_deeds rva_kinds rva_firsts rva_seconds rsf_facts rsa_heard rsa_huts rsa_minutes rcf_voices rcf_step rca_parts rca_heights rf_fault rf_faultPlace ra_numbers ra_tape rf_length rf_behind rf_kind rf_first rf_value rf_hutsToldOf rf_singersToldOf nf_minute nf_avalanches nf_begun nf_climbed nf_seed na_huts na_known na_levels na_snow na_open pa_heard pa_walked pa_total pa_longest pa_next pa_cover pa_now pa_then ko_stands ka_gaps ka_behind ba_less ba_full H)
    (hS : va_S (wxA qx) s.heap H locs)
    (hl : lv_has ls 4 [(0, .ref qx), (1, .int x1), (2, .int x2)])
    (hw : q_wx_X10_slopes_0 ta_counts tl0f_huts tl0f_dams tl0f_echoes tl0a_heights tl0a_minutes tl0a_echoFrom tl0a_echoTo tl1f_huts tl1f_dams tl1f_echoes tl1a_heights tl1a_minutes tl1a_echoFrom tl1a_echoTo pa_heard pa_total pa_longest pa_now pa_then x1 x2 post) :
    W p l e rm_wx_X10_slopes s m args below meth c H locs 0 0 (MQ below (zQi (S := (Nat → Int32) × (Nat → Int32) × (Nat → Int32) × (Nat → Int32) × (Nat → Int32)) (fun r u => post r u.1 u.2.1 u.2.2.1 u.2.2.2.1 u.2.2.2.2) (fun u H => wxW E qx ta_tape tf_length tf_fault tf_place ta_counts tl0f_huts tl0f_singers tl0f_villages tl0f_dams tl0f_echoes tl0f_deep tl0f_slide tl0a_heights tl0a_ladders tl0a_minutes tl0a_echoFrom tl0a_echoTo tl0a_homes tl0a_talls tl0a_known tl1f_huts tl1f_singers tl1f_villages tl1f_dams tl1f_echoes tl1f_deep tl1f_slide tl1a_heights tl1a_ladders tl1a_minutes tl1a_echoFrom tl1a_echoTo tl1a_homes tl1a_talls tl1a_known tv0f_deeds tv0a_kinds tv0a_firsts tv0a_seconds tv1f_deeds tv1a_kinds tv1a_firsts tv1a_seconds ts0f_facts ts0a_heard ts0a_huts ts0a_minutes ts1f_facts ts1a_heard ts1a_huts ts1a_minutes tc0f_voices tc0f_step tc0a_parts tc0a_heights tc1f_voices tc1f_step tc1a_parts tc1a_heights m_images rlf_huts rlf_singers rlf_villages rlf_dams rlf_echoes rlf_deep rlf_slide rla_heights rla_ladders rla_minutes rla_echoFrom rla_echoTo rla_homes rla_talls rla_known rvf_deeds rva_kinds rva_firsts rva_seconds rsf_facts rsa_heard rsa_huts rsa_minutes rcf_voices rcf_step rca_parts rca_heights rf_fault rf_faultPlace ra_numbers ra_tape rf_length rf_behind rf_kind rf_first rf_value rf_hutsToldOf rf_singersToldOf nf_minute nf_avalanches nf_begun nf_climbed nf_seed na_huts na_known na_levels na_snow na_open u.1 pa_walked u.2.1 u.2.2.1 pa_next pa_cover u.2.2.2.1 u.2.2.2.2 ko_stands ka_gaps ka_behind ba_less ba_full H) (wxA qx)) args s 0 0 (wxA qx)) (F0 m 0 ls []) := by
  have hx := zc.1
  have hb := zc.2.1
  refine lv_aload_n hx hb dX10_slopes_0 rfl (lv_at hl 0 rfl) ?_
  refine lv_iload_n hx hb dX10_slopes_1 rfl (lv_at hl 1 rfl) ?_
  refine zV_r [.int x1] [] zc ky_X10_landAt kz_X10_landAt km_10_89 (c_wx_X10_landAt l hw) (wxPreV0 hK hM) rfl rfl hl.1 (Nat.le_of_ble_eq_true rfl) ⟨rfl, rfl⟩ ⟨Nat.le_of_ble_eq_true rfl, Nat.le_of_ble_eq_true rfl⟩ ⟨(Nat.zero_le _), (Nat.zero_le _)⟩ dX10_slopes_2 (fun r_1 hw => ?_)
  by_cases hc0 : r_1 = 0
  · have hw := hw.1 hc0
    refine W.eq (g2 := F0 m 5 ls (.null :: [])) (by simp [hc0]) ?_
    refine lv_astore_nN (lv' := [(3, .null), (0, .ref qx), (1, .int x1), (2, .int x2)]) hx hb dX10_slopes_5 rfl hl (by decide) rfl (fun ls hl => ?_)
    refine lv_aload_nN hx hb dX10_slopes_6 rfl (lv_at hl 0 rfl) ?_
    refine lv_ifnonnullN hx hb dX10_slopes_7 ?_
    refine lv_iconst (v := (-1 : Int32)) hx hb dX10_slopes_10 (by decide) ?_
    exact zret_iw ⟨pa_heard, pa_total, pa_longest, pa_now, pa_then⟩ zc hS hw hM dX10_slopes_11
  by_cases hc1 : r_1 = 1
  · have hw := hw.2.1 hc1
    refine W.eq (g2 := F0 m 5 ls (.ref (qx + 14) :: [])) (by simp [hc0, hc1]) ?_
    refine lv_astore_n (lv' := [(3, .ref (qx + 14)), (0, .ref qx), (1, .int x1), (2, .int x2)]) hx hb dX10_slopes_5 rfl hl (by decide) rfl (fun ls hl => ?_)
    refine lv_aload_n hx hb dX10_slopes_6 rfl (lv_at hl 0 rfl) ?_
    refine lv_ifnonnull (tgt := 12) hx hb dX10_slopes_7 (by decide) ?_
    refine lv_aload_n hx hb dX10_slopes_12 rfl (lv_at hl 1 rfl) ?_
    refine wxg_10_37_0 zc hK hM dX10_slopes_13 ?_
    refine lv_aload_n hx hb dX10_slopes_16 rfl (lv_at hl 0 rfl) ?_
    refine zVx_v [.ref (qx + 14)] [] zc ky_X7_hear kz_X7_hear km_10_139 (c_wp_X7_hear_9 l hw) (wpPreV0 hK (pj_wx_wp_78_14_33 hM)) hS (sb_wx_wp_78_14_33) rfl rfl hl.1 (Nat.le_of_ble_eq_true rfl) ⟨rfl, rfl⟩ ⟨Nat.le_of_ble_eq_true rfl, Nat.le_of_ble_eq_true rfl⟩ ⟨(Nat.zero_le _), (Nat.zero_le _)⟩ dX10_slopes_17 (fun pa_heard_1 H1 locs1 hw hM1 hk hS => ?_)
    have hM := jn_wx_wp_78_14_33 hM hM1 hk
    refine lv_iload_n hx hb dX10_slopes_20 rfl (lv_at hl 3 rfl) ?_
    by_cases hc : x2.toInt < 0 ∨ 3 < x2.toInt
    · have hw := hw.1 hc
      refine lv_tableOut (tgt := 88) hx hb dX10_slopes_21 hc (by decide) ?_
      refine lv_iconst (v := (-1 : Int32)) hx hb dX10_slopes_88 (by decide) ?_
      exact zret_iw ⟨pa_heard_1, pa_total, pa_longest, pa_now, pa_then⟩ zc hS hw hM dX10_slopes_89
    have hin := zsw hc
    by_cases hc0 : x2 = (0 : Int32)
    · have hw := hw.2.1 hc0
      refine lv_tableIn (tgt := 52) hx hb dX10_slopes_21 (by rw [hc0]; decide) (by rw [hc0]; decide) (by rw [hc0]; rfl) (by decide) ?_
      refine lv_aload_n hx hb dX10_slopes_52 rfl (lv_at hl 1 rfl) ?_
      refine wxg_10_37_0 zc hK hM dX10_slopes_53 ?_
      refine lv_aload_n hx hb dX10_slopes_56 rfl (lv_at hl 0 rfl) ?_
      refine zV_i [.ref (qx + 14)] [] zc ky_X7_tops kz_X7_tops km_10_302 (c_wp_X7_tops_9 l hw) (wpPreV0 hK (pj_wx_wp_78_14_33 hM)) rfl rfl hl.1 (Nat.le_of_ble_eq_true rfl) ⟨rfl, rfl⟩ ⟨Nat.le_of_ble_eq_true rfl, Nat.le_of_ble_eq_true rfl⟩ ⟨(Nat.zero_le _), (Nat.zero_le _)⟩ dX10_slopes_57 (fun r_2 hw => ?_)
      exact zret_iw ⟨pa_heard_1, pa_total, pa_longest, pa_now, pa_then⟩ zc hS hw hM dX10_slopes_60
    by_cases hc1 : x2 = (1 : Int32)
    · have hw := hw.2.2.1 hc1
      refine lv_tableIn (tgt := 61) hx hb dX10_slopes_21 (by rw [hc1]; decide) (by rw [hc1]; decide) (by rw [hc1]; rfl) (by decide) ?_
      refine lv_aload_n hx hb dX10_slopes_61 rfl (lv_at hl 1 rfl) ?_
      refine wxg_10_37_0 zc hK hM dX10_slopes_62 ?_
      refine lv_aload_n hx hb dX10_slopes_65 rfl (lv_at hl 0 rfl) ?_
      refine zV_i [.ref (qx + 14)] [] zc ky_X7_ends kz_X7_ends km_10_305 (c_wp_X7_ends_9 l hw) (wpPreV0 hK (pj_wx_wp_78_14_33 hM)) rfl rfl hl.1 (Nat.le_of_ble_eq_true rfl) ⟨rfl, rfl⟩ ⟨Nat.le_of_ble_eq_true rfl, Nat.le_of_ble_eq_true rfl⟩ ⟨(Nat.zero_le _), (Nat.zero_le _)⟩ dX10_slopes_66 (fun r_3 hw => ?_)
      exact zret_iw ⟨pa_heard_1, pa_total, pa_longest, pa_now, pa_then⟩ zc hS hw hM dX10_slopes_69
    by_cases hc2 : x2 = (2 : Int32)
    · have hw := hw.2.2.2.1 hc2
      refine lv_tableIn (tgt := 70) hx hb dX10_slopes_21 (by rw [hc2]; decide) (by rw [hc2]; decide) (by rw [hc2]; rfl) (by decide) ?_
      refine lv_aload_n hx hb dX10_slopes_70 rfl (lv_at hl 1 rfl) ?_
      refine wxg_10_37_0 zc hK hM dX10_slopes_71 ?_
      refine lv_aload_n hx hb dX10_slopes_74 rfl (lv_at hl 0 rfl) ?_
      refine zV_i [.ref (qx + 14)] [] zc ky_X7_couples kz_X7_couples km_10_308 (c_wp_X7_couples_9 l hw) (wpPreV0 hK (pj_wx_wp_78_14_33 hM)) rfl rfl hl.1 (Nat.le_of_ble_eq_true rfl) ⟨rfl, rfl⟩ ⟨Nat.le_of_ble_eq_true rfl, Nat.le_of_ble_eq_true rfl⟩ ⟨(Nat.zero_le _), (Nat.zero_le _)⟩ dX10_slopes_75 (fun r_4 hw => ?_)
      exact zret_iw ⟨pa_heard_1, pa_total, pa_longest, pa_now, pa_then⟩ zc hS hw hM dX10_slopes_78
    by_cases hc3 : x2 = (3 : Int32)
    · have hw := hw.2.2.2.2 hc3
      refine lv_tableIn (tgt := 79) hx hb dX10_slopes_21 (by rw [hc3]; decide) (by rw [hc3]; decide) (by rw [hc3]; rfl) (by decide) ?_
      refine lv_aload_n hx hb dX10_slopes_79 rfl (lv_at hl 1 rfl) ?_
      refine wxg_10_37_0 zc hK hM dX10_slopes_80 ?_
      refine lv_aload_n hx hb dX10_slopes_83 rfl (lv_at hl 0 rfl) ?_
      refine zVx_i [.ref (qx + 14)] [] zc ky_X7_depth kz_X7_depth km_10_311 (c_wp_X7_depth_9 l hw) (wpPreV0 hK (pj_wx_wp_78_14_33 hM)) hS (sb_wx_wp_78_14_33) rfl rfl hl.1 (Nat.le_of_ble_eq_true rfl) ⟨rfl, rfl⟩ ⟨Nat.le_of_ble_eq_true rfl, Nat.le_of_ble_eq_true rfl⟩ ⟨(Nat.zero_le _), (Nat.zero_le _)⟩ dX10_slopes_84 (fun r_5 u H1 locs1 hw hM1 hk hS => ?_)
      obtain ⟨pa_total_1, pa_longest_1, pa_now_1, pa_then_1⟩ := u
      have hM := jn_wx_wp_78_14_33 hM hM1 hk
      exact zret_iw ⟨pa_heard_1, pa_total_1, pa_longest_1, pa_now_1, pa_then_1⟩ zc hS hw hM dX10_slopes_87
    exact absurd hin (by have h0 := zne hc0; have h1 := zne hc1; have h2 := zne hc2; have h3 := zne hc3; simp at *; omega)
  have hw := hw.2.2 hc0 hc1
  refine W.eq (g2 := F0 m 5 ls (.ref (qx + 5) :: [])) (by simp [hc0, hc1]) ?_
  refine lv_astore_n (lv' := [(3, .ref (qx + 5)), (0, .ref qx), (1, .int x1), (2, .int x2)]) hx hb dX10_slopes_5 rfl hl (by decide) rfl (fun ls hl => ?_)
  refine lv_aload_n hx hb dX10_slopes_6 rfl (lv_at hl 0 rfl) ?_
  refine lv_ifnonnull (tgt := 12) hx hb dX10_slopes_7 (by decide) ?_
  refine lv_aload_n hx hb dX10_slopes_12 rfl (lv_at hl 1 rfl) ?_
  refine wxg_10_37_0 zc hK hM dX10_slopes_13 ?_
  refine lv_aload_n hx hb dX10_slopes_16 rfl (lv_at hl 0 rfl) ?_
  refine zVx_v [.ref (qx + 5)] [] zc ky_X7_hear kz_X7_hear km_10_139 (c_wp_X7_hear_9 l hw) (wpPreV0 hK (pj_wx_wp_78_5_33 hM)) hS (sb_wx_wp_78_5_33) rfl rfl hl.1 (Nat.le_of_ble_eq_true rfl) ⟨rfl, rfl⟩ ⟨Nat.le_of_ble_eq_true rfl, Nat.le_of_ble_eq_true rfl⟩ ⟨(Nat.zero_le _), (Nat.zero_le _)⟩ dX10_slopes_17 (fun pa_heard_2 H1 locs1 hw hM1 hk hS => ?_)
  have hM := jn_wx_wp_78_5_33 hM hM1 hk
  refine lv_iload_n hx hb dX10_slopes_20 rfl (lv_at hl 3 rfl) ?_
  by_cases hc : x2.toInt < 0 ∨ 3 < x2.toInt
  · have hw := hw.1 hc
    refine lv_tableOut (tgt := 88) hx hb dX10_slopes_21 hc (by decide) ?_
    refine lv_iconst (v := (-1 : Int32)) hx hb dX10_slopes_88 (by decide) ?_
    exact zret_iw ⟨pa_heard_2, pa_total, pa_longest, pa_now, pa_then⟩ zc hS hw hM dX10_slopes_89
  have hin := zsw hc
  by_cases hc0 : x2 = (0 : Int32)
  · have hw := hw.2.1 hc0
    refine lv_tableIn (tgt := 52) hx hb dX10_slopes_21 (by rw [hc0]; decide) (by rw [hc0]; decide) (by rw [hc0]; rfl) (by decide) ?_
    refine lv_aload_n hx hb dX10_slopes_52 rfl (lv_at hl 1 rfl) ?_
    refine wxg_10_37_0 zc hK hM dX10_slopes_53 ?_
    refine lv_aload_n hx hb dX10_slopes_56 rfl (lv_at hl 0 rfl) ?_
    refine zV_i [.ref (qx + 5)] [] zc ky_X7_tops kz_X7_tops km_10_302 (c_wp_X7_tops_9 l hw) (wpPreV0 hK (pj_wx_wp_78_5_33 hM)) rfl rfl hl.1 (Nat.le_of_ble_eq_true rfl) ⟨rfl, rfl⟩ ⟨Nat.le_of_ble_eq_true rfl, Nat.le_of_ble_eq_true rfl⟩ ⟨(Nat.zero_le _), (Nat.zero_le _)⟩ dX10_slopes_57 (fun r_6 hw => ?_)
    exact zret_iw ⟨pa_heard_2, pa_total, pa_longest, pa_now, pa_then⟩ zc hS hw hM dX10_slopes_60
  by_cases hc1 : x2 = (1 : Int32)
  · have hw := hw.2.2.1 hc1
    refine lv_tableIn (tgt := 61) hx hb dX10_slopes_21 (by rw [hc1]; decide) (by rw [hc1]; decide) (by rw [hc1]; rfl) (by decide) ?_
    refine lv_aload_n hx hb dX10_slopes_61 rfl (lv_at hl 1 rfl) ?_
    refine wxg_10_37_0 zc hK hM dX10_slopes_62 ?_
    refine lv_aload_n hx hb dX10_slopes_65 rfl (lv_at hl 0 rfl) ?_
    refine zV_i [.ref (qx + 5)] [] zc ky_X7_ends kz_X7_ends km_10_305 (c_wp_X7_ends_9 l hw) (wpPreV0 hK (pj_wx_wp_78_5_33 hM)) rfl rfl hl.1 (Nat.le_of_ble_eq_true rfl) ⟨rfl, rfl⟩ ⟨Nat.le_of_ble_eq_true rfl, Nat.le_of_ble_eq_true rfl⟩ ⟨(Nat.zero_le _), (Nat.zero_le _)⟩ dX10_slopes_66 (fun r_7 hw => ?_)
    exact zret_iw ⟨pa_heard_2, pa_total, pa_longest, pa_now, pa_then⟩ zc hS hw hM dX10_slopes_69
  by_cases hc2 : x2 = (2 : Int32)
  · have hw := hw.2.2.2.1 hc2
    refine lv_tableIn (tgt := 70) hx hb dX10_slopes_21 (by rw [hc2]; decide) (by rw [hc2]; decide) (by rw [hc2]; rfl) (by decide) ?_
    refine lv_aload_n hx hb dX10_slopes_70 rfl (lv_at hl 1 rfl) ?_
    refine wxg_10_37_0 zc hK hM dX10_slopes_71 ?_
    refine lv_aload_n hx hb dX10_slopes_74 rfl (lv_at hl 0 rfl) ?_
    refine zV_i [.ref (qx + 5)] [] zc ky_X7_couples kz_X7_couples km_10_308 (c_wp_X7_couples_9 l hw) (wpPreV0 hK (pj_wx_wp_78_5_33 hM)) rfl rfl hl.1 (Nat.le_of_ble_eq_true rfl) ⟨rfl, rfl⟩ ⟨Nat.le_of_ble_eq_true rfl, Nat.le_of_ble_eq_true rfl⟩ ⟨(Nat.zero_le _), (Nat.zero_le _)⟩ dX10_slopes_75 (fun r_8 hw => ?_)
    exact zret_iw ⟨pa_heard_2, pa_total, pa_longest, pa_now, pa_then⟩ zc hS hw hM dX10_slopes_78
  by_cases hc3 : x2 = (3 : Int32)
  · have hw := hw.2.2.2.2 hc3
    refine lv_tableIn (tgt := 79) hx hb dX10_slopes_21 (by rw [hc3]; decide) (by rw [hc3]; decide) (by rw [hc3]; rfl) (by decide) ?_
    refine lv_aload_n hx hb dX10_slopes_79 rfl (lv_at hl 1 rfl) ?_
    refine wxg_10_37_0 zc hK hM dX10_slopes_80 ?_
    refine lv_aload_n hx hb dX10_slopes_83 rfl (lv_at hl 0 rfl) ?_
    refine zVx_i [.ref (qx + 5)] [] zc ky_X7_depth kz_X7_depth km_10_311 (c_wp_X7_depth_9 l hw) (wpPreV0 hK (pj_wx_wp_78_5_33 hM)) hS (sb_wx_wp_78_5_33) rfl rfl hl.1 (Nat.le_of_ble_eq_true rfl) ⟨rfl, rfl⟩ ⟨Nat.le_of_ble_eq_true rfl, Nat.le_of_ble_eq_true rfl⟩ ⟨(Nat.zero_le _), (Nat.zero_le _)⟩ dX10_slopes_84 (fun r_9 u H1 locs1 hw hM1 hk hS => ?_)
    obtain ⟨pa_total_2, pa_longest_2, pa_now_2, pa_then_2⟩ := u
    have hM := jn_wx_wp_78_5_33 hM hM1 hk
    exact zret_iw ⟨pa_heard_2, pa_total_2, pa_longest_2, pa_now_2, pa_then_2⟩ zc hS hw hM dX10_slopes_87
  exact absurd hin (by have h0 := zne hc0; have h1 := zne hc1; have h2 := zne hc2; have h3 := zne hc3; simp at *; omega)
set_option maxRecDepth 20000 in
theorem c_wx_X10_slopes (l : Launch) {E : zE} {qx : Nat} {ta_tape : Nat → Int32} {tf_length : Int32} {tf_fault : Int32} {tf_place : Int32} {ta_counts : Nat → Int32} {tl0f_huts : Int32} {tl0f_singers : Int32} {tl0f_villages : Int32} {tl0f_dams : Int32} {tl0f_echoes : Int32} {tl0f_deep : Int32} {tl0f_slide : Int32} {tl0a_heights : Nat → Int32} {tl0a_ladders : Nat → Int32} {tl0a_minutes : Nat → Int32} {tl0a_echoFrom : Nat → Int32} {tl0a_echoTo : Nat → Int32} {tl0a_homes : Nat → Int32} {tl0a_talls : Nat → Int32} {tl0a_known : Nat → Int32} {tl1f_huts : Int32} {tl1f_singers : Int32} {tl1f_villages : Int32} {tl1f_dams : Int32} {tl1f_echoes : Int32} {tl1f_deep : Int32} {tl1f_slide : Int32} {tl1a_heights : Nat → Int32} {tl1a_ladders : Nat → Int32} {tl1a_minutes : Nat → Int32} {tl1a_echoFrom : Nat → Int32} {tl1a_echoTo : Nat → Int32} {tl1a_homes : Nat → Int32} {tl1a_talls : Nat → Int32} {tl1a_known : Nat → Int32} {tv0f_deeds : Int32} {tv0a_kinds : Nat → Int32} {tv0a_firsts : Nat → Int32} {tv0a_seconds : Nat → Int32} {tv1f_deeds : Int32} {tv1a_kinds : Nat → Int32} {tv1a_firsts : Nat → Int32} {tv1a_seconds : Nat → Int32} {ts0f_facts : Int32} {ts0a_heard : Nat → Int32} {ts0a_huts : Nat → Int32} {ts0a_minutes : Nat → Int32} {ts1f_facts : Int32} {ts1a_heard : Nat → Int32} {ts1a_huts : Nat → Int32} {ts1a_minutes : Nat → Int32} {tc0f_voices : Int32} {tc0f_step : Int32} {tc0a_parts : Nat → Int32} {tc0a_heights : Nat → Int32} {tc1f_voices : Int32} {tc1f_step : Int32} {tc1a_parts : Nat → Int32} {tc1a_heights : Nat → Int32} {m_images : Nat → Option Nat} {rlf_huts : Int32} {rlf_singers : Int32} {rlf_villages : Int32} {rlf_dams : Int32} {rlf_echoes : Int32} {rlf_deep : Int32} {rlf_slide : Int32} {rla_heights : Nat → Int32} {rla_ladders : Nat → Int32} {rla_minutes : Nat → Int32} {rla_echoFrom : Nat → Int32} {rla_echoTo : Nat → Int32} {rla_homes : Nat → Int32} {rla_talls : Nat → Int32} {rla_known : Nat → Int32} {rvf_deeds : Int32} {rva_kinds : Nat → Int32} {rva_firsts : Nat → Int32} {rva_seconds : Nat → Int32} {rsf_facts : Int32} {rsa_heard : Nat → Int32} {rsa_huts : Nat → Int32} {rsa_minutes : Nat → Int32} {rcf_voices : Int32} {rcf_step : Int32} {rca_parts : Nat → Int32} {rca_heights : Nat → Int32} {rf_fault : Int32} {rf_faultPlace : Int32} {ra_numbers : Nat → Int32} {ra_tape : Nat → Int32} {rf_length : Int32} {rf_behind : Int32} {rf_kind : Int32} {rf_first : Int32} {rf_value : Int32} {rf_hutsToldOf : Int32} {rf_singersToldOf : Int32} {nf_minute : Int32} {nf_avalanches : Int32} {nf_begun : Int32} {nf_climbed : Int32} {nf_seed : Int32} {na_huts : Nat → Int32} {na_known : Nat → Int32} {na_levels : Nat → Int32} {na_snow : Nat → Int32} {na_open : Nat → Int32} {pa_heard : Nat → Int32} {pa_walked : Nat → Int32} {pa_total : Nat → Int32} {pa_longest : Nat → Int32} {pa_next : Nat → Int32} {pa_cover : Nat → Int32} {pa_now : Nat → Int32} {pa_then : Nat → Int32} {ko_stands : Option Nat} {ka_gaps : Nat → Int32} {ka_behind : Nat → Int32} {ba_less : Nat → Int32} {ba_full : Nat → Int32} {x1 : Int32} {x2 : Int32} {post : Int32 → (Nat → Int32) → (Nat → Int32) → (Nat → Int32) → (Nat → Int32) → (Nat → Int32) → Prop} (hw : q_wx_X10_slopes_0 ta_counts tl0f_huts tl0f_dams tl0f_echoes tl0a_heights tl0a_minutes tl0a_echoFrom tl0a_echoTo tl1f_huts tl1f_dams tl1f_echoes tl1a_heights tl1a_minutes tl1a_echoFrom tl1a_echoTo pa_heard pa_total pa_longest pa_now pa_then x1 x2 post) : Met l yX10_slopes (Cond.code yX10_slopes cX10_slopes 4 (some .int) :: zb) rm_wx_X10_slopes (va_Pc [.ref qx, .int x1, .int x2] (fun U => wxW E qx ta_tape tf_length tf_fault tf_place ta_counts tl0f_huts tl0f_singers tl0f_villages tl0f_dams tl0f_echoes tl0f_deep tl0f_slide tl0a_heights tl0a_ladders tl0a_minutes tl0a_echoFrom tl0a_echoTo tl0a_homes tl0a_talls tl0a_known tl1f_huts tl1f_singers tl1f_villages tl1f_dams tl1f_echoes tl1f_deep tl1f_slide tl1a_heights tl1a_ladders tl1a_minutes tl1a_echoFrom tl1a_echoTo tl1a_homes tl1a_talls tl1a_known tv0f_deeds tv0a_kinds tv0a_firsts tv0a_seconds tv1f_deeds tv1a_kinds tv1a_firsts tv1a_seconds ts0f_facts ts0a_heard ts0a_huts ts0a_minutes ts1f_facts ts1a_heard ts1a_huts ts1a_minutes tc0f_voices tc0f_step tc0a_parts tc0a_heights tc1f_voices tc1f_step tc1a_parts tc1a_heights m_images rlf_huts rlf_singers rlf_villages rlf_dams rlf_echoes rlf_deep rlf_slide rla_heights rla_ladders rla_minutes rla_echoFrom rla_echoTo rla_homes rla_talls rla_known rvf_deeds rva_kinds rva_firsts rva_seconds rsf_facts rsa_heard rsa_huts rsa_minutes rcf_voices rcf_step rca_parts rca_heights rf_fault rf_faultPlace ra_numbers ra_tape rf_length rf_behind rf_kind rf_first rf_value rf_hutsToldOf rf_singersToldOf nf_minute nf_avalanches nf_begun nf_climbed nf_seed na_huts na_known na_levels na_snow na_open pa_heard pa_walked pa_total pa_longest pa_next pa_cover pa_now pa_then ko_stands ka_gaps ka_behind ba_less ba_full U.heap ∧ zK E U)) (zQi (S := (Nat → Int32) × (Nat → Int32) × (Nat → Int32) × (Nat → Int32) × (Nat → Int32)) (fun r u => post r u.1 u.2.1 u.2.2.1 u.2.2.2.1 u.2.2.2.2) (fun u H => wxW E qx ta_tape tf_length tf_fault tf_place ta_counts tl0f_huts tl0f_singers tl0f_villages tl0f_dams tl0f_echoes tl0f_deep tl0f_slide tl0a_heights tl0a_ladders tl0a_minutes tl0a_echoFrom tl0a_echoTo tl0a_homes tl0a_talls tl0a_known tl1f_huts tl1f_singers tl1f_villages tl1f_dams tl1f_echoes tl1f_deep tl1f_slide tl1a_heights tl1a_ladders tl1a_minutes tl1a_echoFrom tl1a_echoTo tl1a_homes tl1a_talls tl1a_known tv0f_deeds tv0a_kinds tv0a_firsts tv0a_seconds tv1f_deeds tv1a_kinds tv1a_firsts tv1a_seconds ts0f_facts ts0a_heard ts0a_huts ts0a_minutes ts1f_facts ts1a_heard ts1a_huts ts1a_minutes tc0f_voices tc0f_step tc0a_parts tc0a_heights tc1f_voices tc1f_step tc1a_parts tc1a_heights m_images rlf_huts rlf_singers rlf_villages rlf_dams rlf_echoes rlf_deep rlf_slide rla_heights rla_ladders rla_minutes rla_echoFrom rla_echoTo rla_homes rla_talls rla_known rvf_deeds rva_kinds rva_firsts rva_seconds rsf_facts rsa_heard rsa_huts rsa_minutes rcf_voices rcf_step rca_parts rca_heights rf_fault rf_faultPlace ra_numbers ra_tape rf_length rf_behind rf_kind rf_first rf_value rf_hutsToldOf rf_singersToldOf nf_minute nf_avalanches nf_begun nf_climbed nf_seed na_huts na_known na_levels na_snow na_open u.1 pa_walked u.2.1 u.2.2.1 pa_next pa_cover u.2.2.2.1 u.2.2.2.2 ko_stands ka_gaps ka_behind ba_less ba_full H) (wxA qx)) 0 0 (wxA qx) := by
  refine Met.ofW (cc := cX10_slopes) (maxL := 4) (ret := (some .int)) (by decide) rfl ?_
  intro p e s m args below meth c s₁ B hml hv
  obtain ⟨rfl, hM, hK⟩ := hv
  have zc := zc_of B hml
  have hl := lv_entry ([.ref qx, .int x1, .int x2]) (n := 4) (Nat.le_of_ble_eq_true rfl)
  rw [lg_entry_eq]
  generalize (lg_sl ([.ref qx, .int x1, .int x2]) ++ List.replicate (4 - (lg_sl ([.ref qx, .int x1, .int x2])).length) Slot.unset).toArray = ls at hl ⊢
  have hl : lv_has ls 4 [(0, .ref qx), (1, .int x1), (2, .int x2)] := hl
  exact t_wx_X10_slopes_0 zc hK hM va_S.rf (lv_sub hl [0, 1, 2] rfl) hw
-- wx_X10_flood
abbrev rm_wx_X10_flood : Room := { frames := 3, cells := 0, slots := 0, locals := 74 }
def q_wx_X10_flood_70 (ta_counts : Nat → Int32) (tl0f_huts : Int32) (tl0f_dams : Int32) (tl0f_echoes : Int32) (tl0a_heights : Nat → Int32) (tl0a_minutes : Nat → Int32) (tl0a_echoFrom : Nat → Int32) (tl0a_echoTo : Nat → Int32) (tl1f_huts : Int32) (tl1f_dams : Int32) (tl1f_echoes : Int32) (tl1a_heights : Nat → Int32) (tl1a_minutes : Nat → Int32) (tl1a_echoFrom : Nat → Int32) (tl1a_echoTo : Nat → Int32) (pa_next : Nat → Int32) (x6 : Int32) (post : Int32 → (Nat → Int32) → Prop) : Prop :=
  post x6 pa_next
def q_wx_X10_flood_0 (ta_counts : Nat → Int32) (tl0f_huts : Int32) (tl0f_dams : Int32) (tl0f_echoes : Int32) (tl0a_heights : Nat → Int32) (tl0a_minutes : Nat → Int32) (tl0a_echoFrom : Nat → Int32) (tl0a_echoTo : Nat → Int32) (tl1f_huts : Int32) (tl1f_dams : Int32) (tl1f_echoes : Int32) (tl1a_heights : Nat → Int32) (tl1a_minutes : Nat → Int32) (tl1a_echoFrom : Nat → Int32) (tl1a_echoTo : Nat → Int32) (pa_next : Nat → Int32) (x1 : Int32) (x2 : Int32) (x3 : Int32) (x4 : Int32) (post : Int32 → (Nat → Int32) → Prop) : Prop :=
  q_wx_X10_landAt_0 ta_counts x1 (fun r_1 => (r_1 = 0 → (post (-1 : Int32) pa_next)) ∧ (r_1 = 1 → (q_wl_X2_isOpen_0 tl1f_huts tl1f_dams x2 (fun r_2 => (r_2 = 0 → (post (-1 : Int32) pa_next)) ∧ (¬ r_2 = 0 → (q_wl_X2_isOpen_0 tl1f_huts tl1f_dams x3 (fun r_3 => (r_3 = 0 → (post (-1 : Int32) pa_next)) ∧ (¬ r_3 = 0 → ((¬ x2 = x3 → (q_wp_X7_link_9_0 pa_next tl1f_huts tl1f_dams tl1f_echoes tl1a_heights tl1a_minutes tl1a_echoFrom tl1a_echoTo (fun pa_next_1 => q_wp_X7_fewestDams_9_0 pa_next_1 tl1f_huts tl1f_dams x2 x3 (fun r_4 => (r_4 = (-1 : Int32) → (q_wx_X10_flood_70 ta_counts tl0f_huts tl0f_dams tl0f_echoes tl0a_heights tl0a_minutes tl0a_echoFrom tl0a_echoTo tl1f_huts tl1f_dams tl1f_echoes tl1a_heights tl1a_minutes tl1a_echoFrom tl1a_echoTo pa_next_1 r_4 post)) ∧ (¬ r_4 = (-1 : Int32) → ((x4 = 0 → (q_z_J6_bitCount_0f7a4_0 r_4 (fun r_5 => post r_5 pa_next_1))) ∧ (¬ x4 = 0 → (q_wx_X10_flood_70 ta_counts tl0f_huts tl0f_dams tl0f_echoes tl0a_heights tl0a_minutes tl0a_echoFrom tl0a_echoTo tl1f_huts tl1f_dams tl1f_echoes tl1a_heights tl1a_minutes tl1a_echoFrom tl1a_echoTo pa_next_1 r_4 post)))))))) ∧ (x2 = x3 → (post (-1 : Int32) pa_next)))))))))) ∧ (¬ r_1 = 0 → ¬ r_1 = 1 → (q_wl_X2_isOpen_0 tl0f_huts tl0f_dams x2 (fun r_6 => (r_6 = 0 → (post (-1 : Int32) pa_next)) ∧ (¬ r_6 = 0 → (q_wl_X2_isOpen_0 tl0f_huts tl0f_dams x3 (fun r_7 => (r_7 = 0 → (post (-1 : Int32) pa_next)) ∧ (¬ r_7 = 0 → ((¬ x2 = x3 → (q_wp_X7_link_9_0 pa_next tl0f_huts tl0f_dams tl0f_echoes tl0a_heights tl0a_minutes tl0a_echoFrom tl0a_echoTo (fun pa_next_2 => q_wp_X7_fewestDams_9_0 pa_next_2 tl0f_huts tl0f_dams x2 x3 (fun r_8 => (r_8 = (-1 : Int32) → (q_wx_X10_flood_70 ta_counts tl0f_huts tl0f_dams tl0f_echoes tl0a_heights tl0a_minutes tl0a_echoFrom tl0a_echoTo tl1f_huts tl1f_dams tl1f_echoes tl1a_heights tl1a_minutes tl1a_echoFrom tl1a_echoTo pa_next_2 r_8 post)) ∧ (¬ r_8 = (-1 : Int32) → ((x4 = 0 → (q_z_J6_bitCount_0f7a4_0 r_8 (fun r_9 => post r_9 pa_next_2))) ∧ (¬ x4 = 0 → (q_wx_X10_flood_70 ta_counts tl0f_huts tl0f_dams tl0f_echoes tl0a_heights tl0a_minutes tl0a_echoFrom tl0a_echoTo tl1f_huts tl1f_dams tl1f_echoes tl1a_heights tl1a_minutes tl1a_echoFrom tl1a_echoTo pa_next_2 r_8 post)))))))) ∧ (x2 = x3 → (post (-1 : Int32) pa_next)))))))))))
set_option maxRecDepth 20000 in
theorem t_wx_X10_flood_70 {p : Program} {l : Launch} {e : Env} {s : State} {m : MethodId} {args : Array Value} {below : List Frame} {meth : Method} {c : Code} {E : zE} {qx : Nat} {ta_tape : Nat → Int32} {tf_length : Int32} {tf_fault : Int32} {tf_place : Int32} {ta_counts : Nat → Int32} {tl0f_huts : Int32} {tl0f_singers : Int32} {tl0f_villages : Int32} {tl0f_dams : Int32} {tl0f_echoes : Int32} {tl0f_deep : Int32} {tl0f_slide : Int32} {tl0a_heights : Nat → Int32} {tl0a_ladders : Nat → Int32} {tl0a_minutes : Nat → Int32} {tl0a_echoFrom : Nat → Int32} {tl0a_echoTo : Nat → Int32} {tl0a_homes : Nat → Int32} {tl0a_talls : Nat → Int32} {tl0a_known : Nat → Int32} {tl1f_huts : Int32} {tl1f_singers : Int32} {tl1f_villages : Int32} {tl1f_dams : Int32} {tl1f_echoes : Int32} {tl1f_deep : Int32} {tl1f_slide : Int32} {tl1a_heights : Nat → Int32} {tl1a_ladders : Nat → Int32} {tl1a_minutes : Nat → Int32} {tl1a_echoFrom : Nat → Int32} {tl1a_echoTo : Nat → Int32} {tl1a_homes : Nat → Int32} {tl1a_talls : Nat → Int32} {tl1a_known : Nat → Int32} {tv0f_deeds : Int32} {tv0a_kinds : Nat → Int32} {tv0a_firsts : Nat → Int32} {tv0a_seconds : Nat → Int32} {tv1f_deeds : Int32} {tv1a_kinds : Nat → Int32} {tv1a_firsts : Nat → Int32} {tv1a_seconds : Nat → Int32} {ts0f_facts : Int32} {ts0a_heard : Nat → Int32} {ts0a_huts : Nat → Int32} {ts0a_minutes : Nat → Int32} {ts1f_facts : Int32} {ts1a_heard : Nat → Int32} {ts1a_huts : Nat → Int32} {ts1a_minutes : Nat → Int32} {tc0f_voices : Int32} {tc0f_step : Int32} {tc0a_parts : Nat → Int32} {tc0a_heights : Nat → Int32} {tc1f_voices : Int32} {tc1f_step : Int32} {tc1a_parts : Nat → Int32} {tc1a_heights : Nat → Int32} {m_images : Nat → Option Nat} {rlf_huts : Int32} {rlf_singers : Int32} {rlf_villages : Int32} {rlf_dams : Int32} {rlf_echoes : Int32} {rlf_deep : Int32} {rlf_slide : Int32} {rla_heights : Nat → Int32} {rla_ladders : Nat → Int32} {rla_minutes : Nat → Int32} {rla_echoFrom : Nat → Int32} {rla_echoTo : Nat → Int32} {rla_homes : Nat → Int32} {rla_talls : Nat → Int32} {rla_known : Nat → Int32} {rvf_deeds : Int32} {rva_kinds : Nat → Int32} {rva_firsts : Nat → Int32} {rva_seconds : Nat → Int32} {rsf_facts : Int32} {rsa_heard : Nat → Int32} {rsa_huts : Nat → Int32} {rsa_minutes : Nat → Int32} {rcf_voices : Int32} {rcf_step : Int32} {rca_parts : Nat → Int32} {rca_heights : Nat → Int32} {rf_fault : Int32} {rf_faultPlace : Int32} {ra_numbers : Nat → Int32} {ra_tape : Nat → Int32} {rf_length : Int32} {rf_behind : Int32} {rf_kind : Int32} {rf_first : Int32} {rf_value : Int32} {rf_hutsToldOf : Int32} {rf_singersToldOf : Int32} {nf_minute : Int32} {nf_avalanches : Int32} {nf_begun : Int32} {nf_climbed : Int32} {nf_seed : Int32} {na_huts : Nat → Int32} {na_known : Nat → Int32} {na_levels : Nat → Int32} {na_snow : Nat → Int32} {na_open : Nat → Int32} {pa_heard : Nat → Int32} {pa_walked : Nat → Int32} {pa_total : Nat → Int32} {pa_longest : Nat → Int32} {pa_next : Nat → Int32} {pa_cover : Nat → Int32} {pa_now : Nat → Int32} {pa_then : Nat → Int32} {ko_stands : Option Nat} {ka_gaps : Nat → Int32} {ka_behind : Nat → Int32} {ba_less : Nat → Int32} {ba_full : Nat → Int32} {post : Int32 → (Nat → Int32) → Prop} {x6 : Int32} {ls : Array Slot} {H : Heap} {locs : List Loc}
    (zc : zC p s m args meth c cX10_flood 7 RX10 (some .int))
    (hK : zK E s)
    (hM : wxW E qx ta_tape tf_length tf_fault tf_place ta_counts tl0f_huts tl0f_singers tl0f_villages tl0f_dams tl0f_echoes tl0f_deep tl0f_slide tl0a_heights tl0a_ladders tl0a_minutes tl0a_echoFrom tl0a_echoTo tl0a_homes tl0a_talls tl0a_known tl1f_huts tl1f_singers tl1f_villages tl1f_dams tl1f_echoes tl1f_deep tl1f_slide tl1a_heights tl1a_ladders tl1a_minutes tl1a_echoFrom tl1a_echoTo tl1a_homes tl1a_talls tl1a_known tv0f_deeds tv0a_kinds tv0a_firsts tv0a_seconds tv1f_deeds tv1a_kinds tv1a_firsts tv1a_seconds ts0f_facts ts0a_heard ts0a_huts ts0a_minutes ts1f_facts ts1a_heard ts1a_huts ts1a_minutes tc0f_voices tc0f_step tc0a_parts tc0a_heights tc1f_voices tc1f_step tc1a_parts tc1a_heights m_images rlf_huts rlf_singers rlf_villages rlf_dams rlf_echoes rlf_deep rlf_slide rla_heights rla_ladders rla_minutes rla_echoFrom rla_echoTo rla_homes rla_talls rla_known rvf_deeds rva_kinds rva_firsts rva_seconds rsf_facts rsa_heard rsa_huts rsa_minutes rcf_voices rcf_step rca_parts rca_heights rf_fault rf_faultPlace ra_numbers ra_tape rf_length rf_behind rf_kind rf_first rf_value rf_hutsToldOf rf_singersToldOf nf_minute nf_avalanches nf_begun nf_climbed nf_seed na_huts na_known na_levels na_snow na_open pa_heard pa_walked pa_total pa_longest pa_next pa_cover pa_now pa_then ko_stands ka_gaps ka_behind ba_less ba_full H)
    (hS : va_S (wxA qx) s.heap H locs)
    (hl : lv_has ls 7 [(6, .int x6)])
    (hw : q_wx_X10_flood_70 ta_counts tl0f_huts tl0f_dams tl0f_echoes tl0a_heights tl0a_minutes tl0a_echoFrom tl0a_echoTo tl1f_huts tl1f_dams tl1f_echoes tl1a_heights tl1a_minutes tl1a_echoFrom tl1a_echoTo pa_next x6 post) :
    W p l e rm_wx_X10_flood s m args below meth c H locs 0 0 (MQ below (zQi (S := (Nat → Int32)) (fun r u => post r u) (fun u H => wxW E qx ta_tape tf_length tf_fault tf_place ta_counts tl0f_huts tl0f_singers tl0f_villages tl0f_dams tl0f_echoes tl0f_deep tl0f_slide tl0a_heights tl0a_ladders tl0a_minutes tl0a_echoFrom tl0a_echoTo tl0a_homes tl0a_talls tl0a_known tl1f_huts tl1f_singers tl1f_villages tl1f_dams tl1f_echoes tl1f_deep tl1f_slide tl1a_heights tl1a_ladders tl1a_minutes tl1a_echoFrom tl1a_echoTo tl1a_homes tl1a_talls tl1a_known tv0f_deeds tv0a_kinds tv0a_firsts tv0a_seconds tv1f_deeds tv1a_kinds tv1a_firsts tv1a_seconds ts0f_facts ts0a_heard ts0a_huts ts0a_minutes ts1f_facts ts1a_heard ts1a_huts ts1a_minutes tc0f_voices tc0f_step tc0a_parts tc0a_heights tc1f_voices tc1f_step tc1a_parts tc1a_heights m_images rlf_huts rlf_singers rlf_villages rlf_dams rlf_echoes rlf_deep rlf_slide rla_heights rla_ladders rla_minutes rla_echoFrom rla_echoTo rla_homes rla_talls rla_known rvf_deeds rva_kinds rva_firsts rva_seconds rsf_facts rsa_heard rsa_huts rsa_minutes rcf_voices rcf_step rca_parts rca_heights rf_fault rf_faultPlace ra_numbers ra_tape rf_length rf_behind rf_kind rf_first rf_value rf_hutsToldOf rf_singersToldOf nf_minute nf_avalanches nf_begun nf_climbed nf_seed na_huts na_known na_levels na_snow na_open pa_heard pa_walked pa_total pa_longest u pa_cover pa_now pa_then ko_stands ka_gaps ka_behind ba_less ba_full H) (wxA qx)) args s 0 0 (wxA qx)) (F0 m 70 ls []) := by
  have hx := zc.1
  have hb := zc.2.1
  refine lv_iload hx hb dX10_flood_70 (lv_at hl 0 rfl) ?_
  refine lv_goto (tgt := 80) hx hb dX10_flood_72 (by decide) ?_
  exact zret_iw pa_next zc hS hw hM dX10_flood_80
set_option maxRecDepth 20000 in
theorem t_wx_X10_flood_0 {p : Program} {l : Launch} {e : Env} {s : State} {m : MethodId} {args : Array Value} {below : List Frame} {meth : Method} {c : Code} {E : zE} {qx : Nat} {ta_tape : Nat → Int32} {tf_length : Int32} {tf_fault : Int32} {tf_place : Int32} {ta_counts : Nat → Int32} {tl0f_huts : Int32} {tl0f_singers : Int32} {tl0f_villages : Int32} {tl0f_dams : Int32} {tl0f_echoes : Int32} {tl0f_deep : Int32} {tl0f_slide : Int32} {tl0a_heights : Nat → Int32} {tl0a_ladders : Nat → Int32} {tl0a_minutes : Nat → Int32} {tl0a_echoFrom : Nat → Int32} {tl0a_echoTo : Nat → Int32} {tl0a_homes : Nat → Int32} {tl0a_talls : Nat → Int32} {tl0a_known : Nat → Int32} {tl1f_huts : Int32} {tl1f_singers : Int32} {tl1f_villages : Int32} {tl1f_dams : Int32} {tl1f_echoes : Int32} {tl1f_deep : Int32} {tl1f_slide : Int32} {tl1a_heights : Nat → Int32} {tl1a_ladders : Nat → Int32} {tl1a_minutes : Nat → Int32} {tl1a_echoFrom : Nat → Int32} {tl1a_echoTo : Nat → Int32} {tl1a_homes : Nat → Int32} {tl1a_talls : Nat → Int32} {tl1a_known : Nat → Int32} {tv0f_deeds : Int32} {tv0a_kinds : Nat → Int32} {tv0a_firsts : Nat → Int32} {tv0a_seconds : Nat → Int32} {tv1f_deeds : Int32} {tv1a_kinds : Nat → Int32} {tv1a_firsts : Nat → Int32} {tv1a_seconds : Nat → Int32} {ts0f_facts : Int32} {ts0a_heard : Nat → Int32} {ts0a_huts : Nat → Int32} {ts0a_minutes : Nat → Int32} {ts1f_facts : Int32} {ts1a_heard : Nat → Int32} {ts1a_huts : Nat → Int32} {ts1a_minutes : Nat → Int32} {tc0f_voices : Int32} {tc0f_step : Int32} {tc0a_parts : Nat → Int32} {tc0a_heights : Nat → Int32} {tc1f_voices : Int32} {tc1f_step : Int32} {tc1a_parts : Nat → Int32} {tc1a_heights : Nat → Int32} {m_images : Nat → Option Nat} {rlf_huts : Int32} {rlf_singers : Int32} {rlf_villages : Int32} {rlf_dams : Int32} {rlf_echoes : Int32} {rlf_deep : Int32} {rlf_slide : Int32} {rla_heights : Nat → Int32} {rla_ladders : Nat → Int32} {rla_minutes : Nat → Int32} {rla_echoFrom : Nat → Int32} {rla_echoTo : Nat → Int32} {rla_homes : Nat → Int32} {rla_talls : Nat → Int32} {rla_known : Nat → Int32} {rvf_deeds : Int32} {rva_kinds : Nat → Int32} {rva_firsts : Nat → Int32} {rva_seconds : Nat → Int32} {rsf_facts : Int32} {rsa_heard : Nat → Int32} {rsa_huts : Nat → Int32} {rsa_minutes : Nat → Int32} {rcf_voices : Int32} {rcf_step : Int32} {rca_parts : Nat → Int32} {rca_heights : Nat → Int32} {rf_fault : Int32} {rf_faultPlace : Int32} {ra_numbers : Nat → Int32} {ra_tape : Nat → Int32} {rf_length : Int32} {rf_behind : Int32} {rf_kind : Int32} {rf_first : Int32} {rf_value : Int32} {rf_hutsToldOf : Int32} {rf_singersToldOf : Int32} {nf_minute : Int32} {nf_avalanches : Int32} {nf_begun : Int32} {nf_climbed : Int32} {nf_seed : Int32} {na_huts : Nat → Int32} {na_known : Nat → Int32} {na_levels : Nat → Int32} {na_snow : Nat → Int32} {na_open : Nat → Int32} {pa_heard : Nat → Int32} {pa_walked : Nat → Int32} {pa_total : Nat → Int32} {pa_longest : Nat → Int32} {pa_next : Nat → Int32} {pa_cover : Nat → Int32} {pa_now : Nat → Int32} {pa_then : Nat → Int32} {ko_stands : Option Nat} {ka_gaps : Nat → Int32} {ka_behind : Nat → Int32} {ba_less : Nat → Int32} {ba_full : Nat → Int32} {post : Int32 → (Nat → Int32) → Prop} {x1 : Int32} {x2 : Int32} {x3 : Int32} {x4 : Int32} {ls : Array Slot} {H : Heap} {locs : List Loc}
    (zc : zC p s m args meth c cX10_flood 7 RX10 (some .int))
    (hK : zK E s)
    (hM : wxW E qx ta_tape tf_length tf_fault tf_place ta_counts tl0f_huts tl0f_singers tl0f_villages tl0f_dams tl0f_echoes tl0f_deep tl0f_slide tl0a_heights tl0a_ladders tl0a_minutes tl0a_echoFrom tl0a_echoTo tl0a_homes tl0a_talls tl0a_known tl1f_huts tl1f_singers tl1f_villages tl1f_dams tl1f_echoes tl1f_deep tl1f_slide tl1a_heights tl1a_ladders tl1a_minutes tl1a_echoFrom tl1a_echoTo tl1a_homes tl1a_talls tl1a_known tv0f_deeds tv0a_kinds tv0a_firsts tv0a_seconds tv1f_deeds tv1a_kinds tv1a_firsts tv1a_seconds ts0f_facts ts0a_heard ts0a_huts ts0a_minutes ts1f_facts ts1a_heard ts1a_huts ts1a_minutes tc0f_voices tc0f_step tc0a_parts tc0a_heights tc1f_voices tc1f_step tc1a_parts tc1a_heights m_images rlf_huts rlf_singers rlf_villages rlf_dams rlf_echoes rlf_deep rlf_slide rla_heights rla_ladders rla_minutes rla_echoFrom rla_echoTo rla_homes rla_talls rla_known rvf_deeds rva_kinds rva_firsts rva_seconds rsf_facts rsa_heard rsa_huts rsa_minutes rcf_voices rcf_step rca_parts rca_heights rf_fault rf_faultPlace ra_numbers ra_tape rf_length rf_behind rf_kind rf_first rf_value rf_hutsToldOf rf_singersToldOf nf_minute nf_avalanches nf_begun nf_climbed nf_seed na_huts na_known na_levels na_snow na_open pa_heard pa_walked pa_total pa_longest pa_next pa_cover pa_now pa_then ko_stands ka_gaps ka_behind ba_less ba_full H)
    (hS : va_S (wxA qx) s.heap H locs)
    (hl : lv_has ls 7 [(0, .ref qx), (1, .int x1), (2, .int x2), (3, .int x3), (4, .int x4)])
    (hw : q_wx_X10_flood_0 ta_counts tl0f_huts tl0f_dams tl0f_echoes tl0a_heights tl0a_minutes tl0a_echoFrom tl0a_echoTo tl1f_huts tl1f_dams tl1f_echoes tl1a_heights tl1a_minutes tl1a_echoFrom tl1a_echoTo pa_next x1 x2 x3 x4 post) :
    W p l e rm_wx_X10_flood s m args below meth c H locs 0 0 (MQ below (zQi (S := (Nat → Int32)) (fun r u => post r u) (fun u H => wxW E qx ta_tape tf_length tf_fault tf_place ta_counts tl0f_huts tl0f_singers tl0f_villages tl0f_dams tl0f_echoes tl0f_deep tl0f_slide tl0a_heights tl0a_ladders tl0a_minutes tl0a_echoFrom tl0a_echoTo tl0a_homes tl0a_talls tl0a_known tl1f_huts tl1f_singers tl1f_villages tl1f_dams tl1f_echoes tl1f_deep tl1f_slide tl1a_heights tl1a_ladders tl1a_minutes tl1a_echoFrom tl1a_echoTo tl1a_homes tl1a_talls tl1a_known tv0f_deeds tv0a_kinds tv0a_firsts tv0a_seconds tv1f_deeds tv1a_kinds tv1a_firsts tv1a_seconds ts0f_facts ts0a_heard ts0a_huts ts0a_minutes ts1f_facts ts1a_heard ts1a_huts ts1a_minutes tc0f_voices tc0f_step tc0a_parts tc0a_heights tc1f_voices tc1f_step tc1a_parts tc1a_heights m_images rlf_huts rlf_singers rlf_villages rlf_dams rlf_echoes rlf_deep rlf_slide rla_heights rla_ladders rla_minutes rla_echoFrom rla_echoTo rla_homes rla_talls rla_known rvf_deeds rva_kinds rva_firsts rva_seconds rsf_facts rsa_heard rsa_huts rsa_minutes rcf_voices rcf_step rca_parts rca_heights rf_fault rf_faultPlace ra_numbers ra_tape rf_length rf_behind rf_kind rf_first rf_value rf_hutsToldOf rf_singersToldOf nf_minute nf_avalanches nf_begun nf_climbed nf_seed na_huts na_known na_levels na_snow na_open pa_heard pa_walked pa_total pa_longest u pa_cover pa_now pa_then ko_stands ka_gaps ka_behind ba_less ba_full H) (wxA qx)) args s 0 0 (wxA qx)) (F0 m 0 ls []) := by
  have hx := zc.1
  have hb := zc.2.1
  refine lv_aload_n hx hb dX10_flood_0 rfl (lv_at hl 0 rfl) ?_
  refine lv_iload_n hx hb dX10_flood_1 rfl (lv_at hl 1 rfl) ?_
  refine zV_r [.int x1] [] zc ky_X10_landAt kz_X10_landAt km_10_89 (c_wx_X10_landAt l hw) (wxPreV0 hK hM) rfl rfl hl.1 (Nat.le_of_ble_eq_true rfl) ⟨rfl, rfl⟩ ⟨Nat.le_of_ble_eq_true rfl, Nat.le_of_ble_eq_true rfl⟩ ⟨(Nat.zero_le _), (Nat.zero_le _)⟩ dX10_flood_2 (fun r_1 hw => ?_)
  by_cases hc0 : r_1 = 0
  · have hw := hw.1 hc0
    refine W.eq (g2 := F0 m 5 ls (.null :: [])) (by simp [hc0]) ?_
    refine lv_astoreN (lv' := [(5, .null), (0, .ref qx), (1, .int x1), (2, .int x2), (3, .int x3), (4, .int x4)]) hx hb dX10_flood_5 hl (by decide) rfl (fun ls hl => ?_)
    refine lv_aloadN hx hb dX10_flood_7 (lv_at hl 0 rfl) ?_
    refine lv_ifnullN (tgt := 35) hx hb dX10_flood_9 (by decide) ?_
    refine lv_iconst (v := (-1 : Int32)) hx hb dX10_flood_35 (by decide) ?_
    exact zret_iw pa_next zc hS hw hM dX10_flood_36
  by_cases hc1 : r_1 = 1
  · have hw := hw.2.1 hc1
    refine W.eq (g2 := F0 m 5 ls (.ref (qx + 14) :: [])) (by simp [hc0, hc1]) ?_
    refine lv_astore (lv' := [(5, .ref (qx + 14)), (0, .ref qx), (1, .int x1), (2, .int x2), (3, .int x3), (4, .int x4)]) hx hb dX10_flood_5 hl (by decide) rfl (fun ls hl => ?_)
    refine lv_aload hx hb dX10_flood_7 (lv_at hl 0 rfl) ?_
    refine lv_ifnull hx hb dX10_flood_9 ?_
    refine lv_aload hx hb dX10_flood_12 (lv_at hl 0 rfl) ?_
    refine lv_iload_n hx hb dX10_flood_14 rfl (lv_at hl 3 rfl) ?_
    refine zV_i [.int x2] [] zc ky_X2_isOpen kz_X2_isOpen km_10_176 (c_wl_X2_isOpen l hw) (wlPreV0 hK (pj_wx_wl_14 hM)) rfl rfl hl.1 (Nat.le_of_ble_eq_true rfl) ⟨rfl, rfl⟩ ⟨Nat.le_of_ble_eq_true rfl, Nat.le_of_ble_eq_true rfl⟩ ⟨(Nat.zero_le _), (Nat.zero_le _)⟩ dX10_flood_15 (fun r_2 hw => ?_)
    refine lv_if_eq (tgt := 35) hx hb dX10_flood_18 (by decide) (fun hc => ?_) (fun hc => ?_)
    · have hw := hw.1 hc
      refine lv_iconst (v := (-1 : Int32)) hx hb dX10_flood_35 (by decide) ?_
      exact zret_iw pa_next zc hS hw hM dX10_flood_36
    · have hw := hw.2 hc
      refine lv_aload hx hb dX10_flood_21 (lv_at hl 0 rfl) ?_
      refine lv_iload_n hx hb dX10_flood_23 rfl (lv_at hl 4 rfl) ?_
      refine zV_i [.int x3] [] zc ky_X2_isOpen kz_X2_isOpen km_10_176 (c_wl_X2_isOpen l hw) (wlPreV0 hK (pj_wx_wl_14 hM)) rfl rfl hl.1 (Nat.le_of_ble_eq_true rfl) ⟨rfl, rfl⟩ ⟨Nat.le_of_ble_eq_true rfl, Nat.le_of_ble_eq_true rfl⟩ ⟨(Nat.zero_le _), (Nat.zero_le _)⟩ dX10_flood_24 (fun r_3 hw => ?_)
      refine lv_if_eq (tgt := 35) hx hb dX10_flood_27 (by decide) (fun hc => ?_) (fun hc => ?_)
      · have hw := hw.1 hc
        refine lv_iconst (v := (-1 : Int32)) hx hb dX10_flood_35 (by decide) ?_
        exact zret_iw pa_next zc hS hw hM dX10_flood_36
      · have hw := hw.2 hc
        refine lv_iload_n hx hb dX10_flood_30 rfl (lv_at hl 3 rfl) ?_
        refine lv_iload_n hx hb dX10_flood_31 rfl (lv_at hl 4 rfl) ?_
        refine lv_icmp_ne (tgt := 37) hx hb dX10_flood_32 (by decide) (fun hc => ?_) (fun hc => ?_)
        · have hw := hw.1 hc
          refine lv_aload_n hx hb dX10_flood_37 rfl (lv_at hl 1 rfl) ?_
          refine wxg_10_37_0 zc hK hM dX10_flood_38 ?_
          refine lv_aload hx hb dX10_flood_41 (lv_at hl 0 rfl) ?_
          refine zVx_v [.ref (qx + 14)] [] zc ky_X7_link kz_X7_link km_10_179 (c_wp_X7_link_9 l hw) (wpPreV0 hK (pj_wx_wp_78_14_33 hM)) hS (sb_wx_wp_78_14_33) rfl rfl hl.1 (Nat.le_of_ble_eq_true rfl) ⟨rfl, rfl⟩ ⟨Nat.le_of_ble_eq_true rfl, Nat.le_of_ble_eq_true rfl⟩ ⟨(Nat.zero_le _), (Nat.zero_le _)⟩ dX10_flood_43 (fun pa_next_1 H1 locs1 hw hM1 hk hS => ?_)
          have hM := jn_wx_wp_78_14_33 hM hM1 hk
          refine lv_aload_n hx hb dX10_flood_46 rfl (lv_at hl 1 rfl) ?_
          refine wxg_10_37_0 zc hK hM dX10_flood_47 ?_
          refine lv_aload hx hb dX10_flood_50 (lv_at hl 0 rfl) ?_
          refine lv_iload_n hx hb dX10_flood_52 rfl (lv_at hl 3 rfl) ?_
          refine lv_iload_n hx hb dX10_flood_53 rfl (lv_at hl 4 rfl) ?_
          refine zV_i [.ref (qx + 14), .int x2, .int x3] [] zc ky_X7_fewestDams kz_X7_fewestDams km_10_314 (c_wp_X7_fewestDams_9 l hw) (wpPreV0 hK (pj_wx_wp_78_14_33 hM)) rfl rfl hl.1 (Nat.le_of_ble_eq_true rfl) ⟨rfl, rfl⟩ ⟨Nat.le_of_ble_eq_true rfl, Nat.le_of_ble_eq_true rfl⟩ ⟨(Nat.zero_le _), (Nat.zero_le _)⟩ dX10_flood_54 (fun r_4 hw => ?_)
          refine lv_istore (lv' := [(6, .int r_4), (5, .ref (qx + 14)), (0, .ref qx), (1, .int x1), (2, .int x2), (3, .int x3), (4, .int x4)]) hx hb dX10_flood_57 hl (by decide) rfl (fun ls hl => ?_)
          refine lv_iload hx hb dX10_flood_59 (lv_at hl 0 rfl) ?_
          refine lv_iconst (v := (-1 : Int32)) hx hb dX10_flood_61 (by decide) ?_
          refine lv_icmp_eq (tgt := 70) hx hb dX10_flood_62 (by decide) (fun hc => ?_) (fun hc => ?_)
          · have hw := hw.1 hc
            exact t_wx_X10_flood_70 zc hK hM hS  (lv_sub hl [0] rfl) hw
          · have hw := hw.2 hc
            refine lv_iload hx hb dX10_flood_65 (lv_at hl 6 rfl) ?_
            refine lv_if_eq (tgt := 75) hx hb dX10_flood_67 (by decide) (fun hc => ?_) (fun hc => ?_)
            · have hw := hw.1 hc
              refine lv_iload hx hb dX10_flood_75 (lv_at hl 0 rfl) ?_
              refine zS_i [.int r_4] [] zc ky_J6_bitCount_0f7a4 kz_J6_bitCount_0f7a4 km_10_191 (c_z_J6_bitCount_0f7a4 l hw) (zPre0 _) rfl rfl hl.1 (Nat.le_of_ble_eq_true rfl) ⟨rfl, rfl⟩ ⟨Nat.le_of_ble_eq_true rfl, Nat.le_of_ble_eq_true rfl⟩ ⟨(Nat.zero_le _), (Nat.zero_le _)⟩ dX10_flood_77 (fun r_5 hw => ?_)
              exact zret_iw pa_next_1 zc hS hw hM dX10_flood_80
            · have hw := hw.2 hc
              exact t_wx_X10_flood_70 zc hK hM hS  (lv_sub hl [0] rfl) hw
        · have hw := hw.2 hc
          refine lv_iconst (v := (-1 : Int32)) hx hb dX10_flood_35 (by decide) ?_
          exact zret_iw pa_next zc hS hw hM dX10_flood_36
  have hw := hw.2.2 hc0 hc1
  refine W.eq (g2 := F0 m 5 ls (.ref (qx + 5) :: [])) (by simp [hc0, hc1]) ?_
  refine lv_astore (lv' := [(5, .ref (qx + 5)), (0, .ref qx), (1, .int x1), (2, .int x2), (3, .int x3), (4, .int x4)]) hx hb dX10_flood_5 hl (by decide) rfl (fun ls hl => ?_)
  refine lv_aload hx hb dX10_flood_7 (lv_at hl 0 rfl) ?_
  refine lv_ifnull hx hb dX10_flood_9 ?_
  refine lv_aload hx hb dX10_flood_12 (lv_at hl 0 rfl) ?_
  refine lv_iload_n hx hb dX10_flood_14 rfl (lv_at hl 3 rfl) ?_
  refine zV_i [.int x2] [] zc ky_X2_isOpen kz_X2_isOpen km_10_176 (c_wl_X2_isOpen l hw) (wlPreV0 hK (pj_wx_wl_5 hM)) rfl rfl hl.1 (Nat.le_of_ble_eq_true rfl) ⟨rfl, rfl⟩ ⟨Nat.le_of_ble_eq_true rfl, Nat.le_of_ble_eq_true rfl⟩ ⟨(Nat.zero_le _), (Nat.zero_le _)⟩ dX10_flood_15 (fun r_6 hw => ?_)
  refine lv_if_eq (tgt := 35) hx hb dX10_flood_18 (by decide) (fun hc => ?_) (fun hc => ?_)
  · have hw := hw.1 hc
    refine lv_iconst (v := (-1 : Int32)) hx hb dX10_flood_35 (by decide) ?_
    exact zret_iw pa_next zc hS hw hM dX10_flood_36
  · have hw := hw.2 hc
    refine lv_aload hx hb dX10_flood_21 (lv_at hl 0 rfl) ?_
    refine lv_iload_n hx hb dX10_flood_23 rfl (lv_at hl 4 rfl) ?_
    refine zV_i [.int x3] [] zc ky_X2_isOpen kz_X2_isOpen km_10_176 (c_wl_X2_isOpen l hw) (wlPreV0 hK (pj_wx_wl_5 hM)) rfl rfl hl.1 (Nat.le_of_ble_eq_true rfl) ⟨rfl, rfl⟩ ⟨Nat.le_of_ble_eq_true rfl, Nat.le_of_ble_eq_true rfl⟩ ⟨(Nat.zero_le _), (Nat.zero_le _)⟩ dX10_flood_24 (fun r_7 hw => ?_)
    refine lv_if_eq (tgt := 35) hx hb dX10_flood_27 (by decide) (fun hc => ?_) (fun hc => ?_)
    · have hw := hw.1 hc
      refine lv_iconst (v := (-1 : Int32)) hx hb dX10_flood_35 (by decide) ?_
      exact zret_iw pa_next zc hS hw hM dX10_flood_36
    · have hw := hw.2 hc
      refine lv_iload_n hx hb dX10_flood_30 rfl (lv_at hl 3 rfl) ?_
      refine lv_iload_n hx hb dX10_flood_31 rfl (lv_at hl 4 rfl) ?_
      refine lv_icmp_ne (tgt := 37) hx hb dX10_flood_32 (by decide) (fun hc => ?_) (fun hc => ?_)
      · have hw := hw.1 hc
        refine lv_aload_n hx hb dX10_flood_37 rfl (lv_at hl 1 rfl) ?_
        refine wxg_10_37_0 zc hK hM dX10_flood_38 ?_
        refine lv_aload hx hb dX10_flood_41 (lv_at hl 0 rfl) ?_
        refine zVx_v [.ref (qx + 5)] [] zc ky_X7_link kz_X7_link km_10_179 (c_wp_X7_link_9 l hw) (wpPreV0 hK (pj_wx_wp_78_5_33 hM)) hS (sb_wx_wp_78_5_33) rfl rfl hl.1 (Nat.le_of_ble_eq_true rfl) ⟨rfl, rfl⟩ ⟨Nat.le_of_ble_eq_true rfl, Nat.le_of_ble_eq_true rfl⟩ ⟨(Nat.zero_le _), (Nat.zero_le _)⟩ dX10_flood_43 (fun pa_next_2 H1 locs1 hw hM1 hk hS => ?_)
        have hM := jn_wx_wp_78_5_33 hM hM1 hk
        refine lv_aload_n hx hb dX10_flood_46 rfl (lv_at hl 1 rfl) ?_
        refine wxg_10_37_0 zc hK hM dX10_flood_47 ?_
        refine lv_aload hx hb dX10_flood_50 (lv_at hl 0 rfl) ?_
        refine lv_iload_n hx hb dX10_flood_52 rfl (lv_at hl 3 rfl) ?_
        refine lv_iload_n hx hb dX10_flood_53 rfl (lv_at hl 4 rfl) ?_
        refine zV_i [.ref (qx + 5), .int x2, .int x3] [] zc ky_X7_fewestDams kz_X7_fewestDams km_10_314 (c_wp_X7_fewestDams_9 l hw) (wpPreV0 hK (pj_wx_wp_78_5_33 hM)) rfl rfl hl.1 (Nat.le_of_ble_eq_true rfl) ⟨rfl, rfl⟩ ⟨Nat.le_of_ble_eq_true rfl, Nat.le_of_ble_eq_true rfl⟩ ⟨(Nat.zero_le _), (Nat.zero_le _)⟩ dX10_flood_54 (fun r_8 hw => ?_)
        refine lv_istore (lv' := [(6, .int r_8), (5, .ref (qx + 5)), (0, .ref qx), (1, .int x1), (2, .int x2), (3, .int x3), (4, .int x4)]) hx hb dX10_flood_57 hl (by decide) rfl (fun ls hl => ?_)
        refine lv_iload hx hb dX10_flood_59 (lv_at hl 0 rfl) ?_
        refine lv_iconst (v := (-1 : Int32)) hx hb dX10_flood_61 (by decide) ?_
        refine lv_icmp_eq (tgt := 70) hx hb dX10_flood_62 (by decide) (fun hc => ?_) (fun hc => ?_)
        · have hw := hw.1 hc
          exact t_wx_X10_flood_70 zc hK hM hS  (lv_sub hl [0] rfl) hw
        · have hw := hw.2 hc
          refine lv_iload hx hb dX10_flood_65 (lv_at hl 6 rfl) ?_
          refine lv_if_eq (tgt := 75) hx hb dX10_flood_67 (by decide) (fun hc => ?_) (fun hc => ?_)
          · have hw := hw.1 hc
            refine lv_iload hx hb dX10_flood_75 (lv_at hl 0 rfl) ?_
            refine zS_i [.int r_8] [] zc ky_J6_bitCount_0f7a4 kz_J6_bitCount_0f7a4 km_10_191 (c_z_J6_bitCount_0f7a4 l hw) (zPre0 _) rfl rfl hl.1 (Nat.le_of_ble_eq_true rfl) ⟨rfl, rfl⟩ ⟨Nat.le_of_ble_eq_true rfl, Nat.le_of_ble_eq_true rfl⟩ ⟨(Nat.zero_le _), (Nat.zero_le _)⟩ dX10_flood_77 (fun r_9 hw => ?_)
            exact zret_iw pa_next_2 zc hS hw hM dX10_flood_80
          · have hw := hw.2 hc
            exact t_wx_X10_flood_70 zc hK hM hS  (lv_sub hl [0] rfl) hw
      · have hw := hw.2 hc
        refine lv_iconst (v := (-1 : Int32)) hx hb dX10_flood_35 (by decide) ?_
        exact zret_iw pa_next zc hS hw hM dX10_flood_36
set_option maxRecDepth 20000 in
theorem c_wx_X10_flood (l : Launch) {E : zE} {qx : Nat} {ta_tape : Nat → Int32} {tf_length : Int32} {tf_fault : Int32} {tf_place : Int32} {ta_counts : Nat → Int32} {tl0f_huts : Int32} {tl0f_singers : Int32} {tl0f_villages : Int32} {tl0f_dams : Int32} {tl0f_echoes : Int32} {tl0f_deep : Int32} {tl0f_slide : Int32} {tl0a_heights : Nat → Int32} {tl0a_ladders : Nat → Int32} {tl0a_minutes : Nat → Int32} {tl0a_echoFrom : Nat → Int32} {tl0a_echoTo : Nat → Int32} {tl0a_homes : Nat → Int32} {tl0a_talls : Nat → Int32} {tl0a_known : Nat → Int32} {tl1f_huts : Int32} {tl1f_singers : Int32} {tl1f_villages : Int32} {tl1f_dams : Int32} {tl1f_echoes : Int32} {tl1f_deep : Int32} {tl1f_slide : Int32} {tl1a_heights : Nat → Int32} {tl1a_ladders : Nat → Int32} {tl1a_minutes : Nat → Int32} {tl1a_echoFrom : Nat → Int32} {tl1a_echoTo : Nat → Int32} {tl1a_homes : Nat → Int32} {tl1a_talls : Nat → Int32} {tl1a_known : Nat → Int32} {tv0f_deeds : Int32} {tv0a_kinds : Nat → Int32} {tv0a_firsts : Nat → Int32} {tv0a_seconds : Nat → Int32} {tv1f_deeds : Int32} {tv1a_kinds : Nat → Int32} {tv1a_firsts : Nat → Int32} {tv1a_seconds : Nat → Int32} {ts0f_facts : Int32} {ts0a_heard : Nat → Int32} {ts0a_huts : Nat → Int32} {ts0a_minutes : Nat → Int32} {ts1f_facts : Int32} {ts1a_heard : Nat → Int32} {ts1a_huts : Nat → Int32} {ts1a_minutes : Nat → Int32} {tc0f_voices : Int32} {tc0f_step : Int32} {tc0a_parts : Nat → Int32} {tc0a_heights : Nat → Int32} {tc1f_voices : Int32} {tc1f_step : Int32} {tc1a_parts : Nat → Int32} {tc1a_heights : Nat → Int32} {m_images : Nat → Option Nat} {rlf_huts : Int32} {rlf_singers : Int32} {rlf_villages : Int32} {rlf_dams : Int32} {rlf_echoes : Int32} {rlf_deep : Int32} {rlf_slide : Int32} {rla_heights : Nat → Int32} {rla_ladders : Nat → Int32} {rla_minutes : Nat → Int32} {rla_echoFrom : Nat → Int32} {rla_echoTo : Nat → Int32} {rla_homes : Nat → Int32} {rla_talls : Nat → Int32} {rla_known : Nat → Int32} {rvf_deeds : Int32} {rva_kinds : Nat → Int32} {rva_firsts : Nat → Int32} {rva_seconds : Nat → Int32} {rsf_facts : Int32} {rsa_heard : Nat → Int32} {rsa_huts : Nat → Int32} {rsa_minutes : Nat → Int32} {rcf_voices : Int32} {rcf_step : Int32} {rca_parts : Nat → Int32} {rca_heights : Nat → Int32} {rf_fault : Int32} {rf_faultPlace : Int32} {ra_numbers : Nat → Int32} {ra_tape : Nat → Int32} {rf_length : Int32} {rf_behind : Int32} {rf_kind : Int32} {rf_first : Int32} {rf_value : Int32} {rf_hutsToldOf : Int32} {rf_singersToldOf : Int32} {nf_minute : Int32} {nf_avalanches : Int32} {nf_begun : Int32} {nf_climbed : Int32} {nf_seed : Int32} {na_huts : Nat → Int32} {na_known : Nat → Int32} {na_levels : Nat → Int32} {na_snow : Nat → Int32} {na_open : Nat → Int32} {pa_heard : Nat → Int32} {pa_walked : Nat → Int32} {pa_total : Nat → Int32} {pa_longest : Nat → Int32} {pa_next : Nat → Int32} {pa_cover : Nat → Int32} {pa_now : Nat → Int32} {pa_then : Nat → Int32} {ko_stands : Option Nat} {ka_gaps : Nat → Int32} {ka_behind : Nat → Int32} {ba_less : Nat → Int32} {ba_full : Nat → Int32} {x1 : Int32} {x2 : Int32} {x3 : Int32} {x4 : Int32} {post : Int32 → (Nat → Int32) → Prop} (hw : q_wx_X10_flood_0 ta_counts tl0f_huts tl0f_dams tl0f_echoes tl0a_heights tl0a_minutes tl0a_echoFrom tl0a_echoTo tl1f_huts tl1f_dams tl1f_echoes tl1a_heights tl1a_minutes tl1a_echoFrom tl1a_echoTo pa_next x1 x2 x3 x4 post) : Met l yX10_flood (Cond.code yX10_flood cX10_flood 7 (some .int) :: zb) rm_wx_X10_flood (va_Pc [.ref qx, .int x1, .int x2, .int x3, .int x4] (fun U => wxW E qx ta_tape tf_length tf_fault tf_place ta_counts tl0f_huts tl0f_singers tl0f_villages tl0f_dams tl0f_echoes tl0f_deep tl0f_slide tl0a_heights tl0a_ladders tl0a_minutes tl0a_echoFrom tl0a_echoTo tl0a_homes tl0a_talls tl0a_known tl1f_huts tl1f_singers tl1f_villages tl1f_dams tl1f_echoes tl1f_deep tl1f_slide tl1a_heights tl1a_ladders tl1a_minutes tl1a_echoFrom tl1a_echoTo tl1a_homes tl1a_talls tl1a_known tv0f_deeds tv0a_kinds tv0a_firsts tv0a_seconds tv1f_deeds tv1a_kinds tv1a_firsts tv1a_seconds ts0f_facts ts0a_heard ts0a_huts ts0a_minutes ts1f_facts ts1a_heard ts1a_huts ts1a_minutes tc0f_voices tc0f_step tc0a_parts tc0a_heights tc1f_voices tc1f_step tc1a_parts tc1a_heights m_images rlf_huts rlf_singers rlf_villages rlf_dams rlf_echoes rlf_deep rlf_slide rla_heights rla_ladders rla_minutes rla_echoFrom rla_echoTo rla_homes rla_talls rla_known rvf_deeds rva_kinds rva_firsts rva_seconds rsf_facts rsa_heard rsa_huts rsa_minutes rcf_voices rcf_step rca_parts rca_heights rf_fault rf_faultPlace ra_numbers ra_tape rf_length rf_behind rf_kind rf_first rf_value rf_hutsToldOf rf_singersToldOf nf_minute nf_avalanches nf_begun nf_climbed nf_seed na_huts na_known na_levels na_snow na_open pa_heard pa_walked pa_total pa_longest pa_next pa_cover pa_now pa_then ko_stands ka_gaps ka_behind ba_less ba_full U.heap ∧ zK E U)) (zQi (S := (Nat → Int32)) (fun r u => post r u) (fun u H => wxW E qx ta_tape tf_length tf_fault tf_place ta_counts tl0f_huts tl0f_singers tl0f_villages tl0f_dams tl0f_echoes tl0f_deep tl0f_slide tl0a_heights tl0a_ladders tl0a_minutes tl0a_echoFrom tl0a_echoTo tl0a_homes tl0a_talls tl0a_known tl1f_huts tl1f_singers tl1f_villages tl1f_dams tl1f_echoes tl1f_deep tl1f_slide tl1a_heights tl1a_ladders tl1a_minutes tl1a_echoFrom tl1a_echoTo tl1a_homes tl1a_talls tl1a_known tv0f_deeds tv0a_kinds tv0a_firsts tv0a_seconds tv1f_deeds tv1a_kinds tv1a_firsts tv1a_seconds ts0f_facts ts0a_heard ts0a_huts ts0a_minutes ts1f_facts ts1a_heard ts1a_huts ts1a_minutes tc0f_voices tc0f_step tc0a_parts tc0a_heights tc1f_voices tc1f_step tc1a_parts tc1a_heights m_images rlf_huts rlf_singers rlf_villages rlf_dams rlf_echoes rlf_deep rlf_slide rla_heights rla_ladders rla_minutes rla_echoFrom rla_echoTo rla_homes rla_talls rla_known rvf_deeds rva_kinds rva_firsts rva_seconds rsf_facts rsa_heard rsa_huts rsa_minutes rcf_voices rcf_step rca_parts rca_heights rf_fault rf_faultPlace ra_numbers ra_tape rf_length rf_behind rf_kind rf_first rf_value rf_hutsToldOf rf_singersToldOf nf_minute nf_avalanches nf_begun nf_climbed nf_seed na_huts na_known na_levels na_snow na_open pa_heard pa_walked pa_total pa_longest u pa_cover pa_now pa_then ko_stands ka_gaps ka_behind ba_less ba_full H) (wxA qx)) 0 0 (wxA qx) := by
  refine Met.ofW (cc := cX10_flood) (maxL := 7) (ret := (some .int)) (by decide) rfl ?_
  intro p e s m args below meth c s₁ B hml hv
  obtain ⟨rfl, hM, hK⟩ := hv
  have zc := zc_of B hml
  have hl := lv_entry ([.ref qx, .int x1, .int x2, .int x3, .int x4]) (n := 7) (Nat.le_of_ble_eq_true rfl)
  rw [lg_entry_eq]
  generalize (lg_sl ([.ref qx, .int x1, .int x2, .int x3, .int x4]) ++ List.replicate (7 - (lg_sl ([.ref qx, .int x1, .int x2, .int x3, .int x4])).length) Slot.unset).toArray = ls at hl ⊢
  have hl : lv_has ls 7 [(0, .ref qx), (1, .int x1), (2, .int x2), (3, .int x3), (4, .int x4)] := hl
  exact t_wx_X10_flood_0 zc hK hM va_S.rf (lv_sub hl [0, 1, 2, 3, 4] rfl) hw
-- wx_X10_teach
abbrev rm_wx_X10_teach : Room := { frames := 6, cells := 0, slots := 0, locals := 146 }
def q_wx_X10_teach_0 (ta_counts : Nat → Int32) (tl0f_huts : Int32) (tl0f_singers : Int32) (tl0f_dams : Int32) (tl0f_echoes : Int32) (tl0f_deep : Int32) (tl0a_heights : Nat → Int32) (tl0a_ladders : Nat → Int32) (tl0a_minutes : Nat → Int32) (tl0a_echoFrom : Nat → Int32) (tl0a_echoTo : Nat → Int32) (tl0a_homes : Nat → Int32) (tl0a_talls : Nat → Int32) (tl0a_known : Nat → Int32) (tl1f_huts : Int32) (tl1f_singers : Int32) (tl1f_dams : Int32) (tl1f_echoes : Int32) (tl1f_deep : Int32) (tl1a_heights : Nat → Int32) (tl1a_ladders : Nat → Int32) (tl1a_minutes : Nat → Int32) (tl1a_echoFrom : Nat → Int32) (tl1a_echoTo : Nat → Int32) (tl1a_homes : Nat → Int32) (tl1a_talls : Nat → Int32) (tl1a_known : Nat → Int32) (tv0f_deeds : Int32) (tv0a_kinds : Nat → Int32) (tv0a_firsts : Nat → Int32) (tv0a_seconds : Nat → Int32) (tv1f_deeds : Int32) (tv1a_kinds : Nat → Int32) (tv1a_firsts : Nat → Int32) (tv1a_seconds : Nat → Int32) (nf_minute : Int32) (nf_avalanches : Int32) (nf_begun : Int32) (nf_climbed : Int32) (na_huts : Nat → Int32) (na_known : Nat → Int32) (na_levels : Nat → Int32) (na_snow : Nat → Int32) (x1 : Int32) (x2 : Int32) (x3 : Int32) (x4 : Int32) (post : Int32 → (Int32) → (Int32) → (Int32) → (Int32) → (Nat → Int32) → (Nat → Int32) → (Nat → Int32) → (Nat → Int32) → Prop) : Prop :=
  (x4 < 0 → (post (-1 : Int32) nf_minute nf_avalanches nf_begun nf_climbed na_huts na_known na_levels na_snow)) ∧ (¬ x4 < 0 → (((5 : Int32) ≤ x4 → (post (-1 : Int32) nf_minute nf_avalanches nf_begun nf_climbed na_huts na_known na_levels na_snow)) ∧ (¬ (5 : Int32) ≤ x4 → (q_wx_X10_reachState_0 ta_counts tl0f_huts tl0f_singers tl0f_dams tl0f_echoes tl0f_deep tl0a_heights tl0a_ladders tl0a_minutes tl0a_echoFrom tl0a_echoTo tl0a_homes tl0a_talls tl0a_known tl1f_huts tl1f_singers tl1f_dams tl1f_echoes tl1f_deep tl1a_heights tl1a_ladders tl1a_minutes tl1a_echoFrom tl1a_echoTo tl1a_homes tl1a_talls tl1a_known tv0f_deeds tv0a_kinds tv0a_firsts tv0a_seconds tv1f_deeds tv1a_kinds tv1a_firsts tv1a_seconds nf_minute nf_avalanches nf_begun nf_climbed na_huts na_known na_levels na_snow x1 x2 x3 (fun r_1 nf_minute_1 nf_avalanches_1 nf_begun_1 nf_climbed_1 na_huts_1 na_known_1 na_levels_1 na_snow_1 => (¬ r_1 = 0 → (vp_in x1 2 ∧ (x1 = 0 → (q_wn_X3_fewestTimes_6_0 nf_begun_1 nf_climbed_1 na_huts_1 na_known_1 na_levels_1 tl0f_singers tl0f_dams tl0f_echoes tl0a_heights tl0a_ladders tl0a_echoFrom tl0a_echoTo tl0a_talls x4 (fun r_2 => post r_2 nf_minute_1 nf_avalanches_1 nf_begun_1 nf_climbed_1 na_huts_1 na_known_1 na_levels_1 na_snow_1))) ∧ (¬ x1 = 0 → (q_wn_X3_fewestTimes_6_0 nf_begun_1 nf_climbed_1 na_huts_1 na_known_1 na_levels_1 tl1f_singers tl1f_dams tl1f_echoes tl1a_heights tl1a_ladders tl1a_echoFrom tl1a_echoTo tl1a_talls x4 (fun r_3 => post r_3 nf_minute_1 nf_avalanches_1 nf_begun_1 nf_climbed_1 na_huts_1 na_known_1 na_levels_1 na_snow_1))))) ∧ (r_1 = 0 → (post (-1 : Int32) nf_minute_1 nf_avalanches_1 nf_begun_1 nf_climbed_1 na_huts_1 na_known_1 na_levels_1 na_snow_1)))))))
set_option maxRecDepth 20000 in
theorem t_wx_X10_teach_0 {p : Program} {l : Launch} {e : Env} {s : State} {m : MethodId} {args : Array Value} {below : List Frame} {meth : Method} {c : Code} {E : zE} {qx : Nat} {ta_tape : Nat → Int32} {tf_length : Int32} {tf_fault : Int32} {tf_place : Int32} {ta_counts : Nat → Int32} {tl0f_huts : Int32} {tl0f_singers : Int32} {tl0f_villages : Int32} {tl0f_dams : Int32} {tl0f_echoes : Int32} {tl0f_deep : Int32} {tl0f_slide : Int32} {tl0a_heights : Nat → Int32} {tl0a_ladders : Nat → Int32} {tl0a_minutes : Nat → Int32} {tl0a_echoFrom : Nat → Int32} {tl0a_echoTo : Nat → Int32} {tl0a_homes : Nat → Int32} {tl0a_talls : Nat → Int32} {tl0a_known : Nat → Int32} {tl1f_huts : Int32} {tl1f_singers : Int32} {tl1f_villages : Int32} {tl1f_dams : Int32} {tl1f_echoes : Int32} {tl1f_deep : Int32} {tl1f_slide : Int32} {tl1a_heights : Nat → Int32} {tl1a_ladders : Nat → Int32} {tl1a_minutes : Nat → Int32} {tl1a_echoFrom : Nat → Int32} {tl1a_echoTo : Nat → Int32} {tl1a_homes : Nat → Int32} {tl1a_talls : Nat → Int32} {tl1a_known : Nat → Int32} {tv0f_deeds : Int32} {tv0a_kinds : Nat → Int32} {tv0a_firsts : Nat → Int32} {tv0a_seconds : Nat → Int32} {tv1f_deeds : Int32} {tv1a_kinds : Nat → Int32} {tv1a_firsts : Nat → Int32} {tv1a_seconds : Nat → Int32} {ts0f_facts : Int32} {ts0a_heard : Nat → Int32} {ts0a_huts : Nat → Int32} {ts0a_minutes : Nat → Int32} {ts1f_facts : Int32} {ts1a_heard : Nat → Int32} {ts1a_huts : Nat → Int32} {ts1a_minutes : Nat → Int32} {tc0f_voices : Int32} {tc0f_step : Int32} {tc0a_parts : Nat → Int32} {tc0a_heights : Nat → Int32} {tc1f_voices : Int32} {tc1f_step : Int32} {tc1a_parts : Nat → Int32} {tc1a_heights : Nat → Int32} {m_images : Nat → Option Nat} {rlf_huts : Int32} {rlf_singers : Int32} {rlf_villages : Int32} {rlf_dams : Int32} {rlf_echoes : Int32} {rlf_deep : Int32} {rlf_slide : Int32} {rla_heights : Nat → Int32} {rla_ladders : Nat → Int32} {rla_minutes : Nat → Int32} {rla_echoFrom : Nat → Int32} {rla_echoTo : Nat → Int32} {rla_homes : Nat → Int32} {rla_talls : Nat → Int32} {rla_known : Nat → Int32} {rvf_deeds : Int32} {rva_kinds : Nat → Int32} {rva_firsts : Nat → Int32} {rva_seconds : Nat → Int32} {rsf_facts : Int32} {rsa_heard : Nat → Int32} {rsa_huts : Nat → Int32} {rsa_minutes : Nat → Int32} {rcf_voices : Int32} {rcf_step : Int32} {rca_parts : Nat → Int32} {rca_heights : Nat → Int32} {rf_fault : Int32} {rf_faultPlace : Int32} {ra_numbers : Nat → Int32} {ra_tape : Nat → Int32} {rf_length : Int32} {rf_behind : Int32} {rf_kind : Int32} {rf_first : Int32} {rf_value : Int32} {rf_hutsToldOf : Int32} {rf_singersToldOf : Int32} {nf_minute : Int32} {nf_avalanches : Int32} {nf_begun : Int32} {nf_climbed : Int32} {nf_seed : Int32} {na_huts : Nat → Int32} {na_known : Nat → Int32} {na_levels : Nat → Int32} {na_snow : Nat → Int32} {na_open : Nat → Int32} {pa_heard : Nat → Int32} {pa_walked : Nat → Int32} {pa_total : Nat → Int32} {pa_longest : Nat → Int32} {pa_next : Nat → Int32} {pa_cover : Nat → Int32} {pa_now : Nat → Int32} {pa_then : Nat → Int32} {ko_stands : Option Nat} {ka_gaps : Nat → Int32} {ka_behind : Nat → Int32} {ba_less : Nat → Int32} {ba_full : Nat → Int32} {post : Int32 → (Int32) → (Int32) → (Int32) → (Int32) → (Nat → Int32) → (Nat → Int32) → (Nat → Int32) → (Nat → Int32) → Prop} {x1 : Int32} {x2 : Int32} {x3 : Int32} {x4 : Int32} {ls : Array Slot} {H : Heap} {locs : List Loc}
    (zc : zC p s m args meth c cX10_teach 5 RX10 (some .int))
    (hK : zK E s)
    (hM : wxW E qx ta_tape tf_length tf_fault tf_place ta_counts tl0f_huts tl0f_singers tl0f_villages tl0f_dams tl0f_echoes tl0f_deep tl0f_slide tl0a_heights tl0a_ladders tl0a_minutes tl0a_echoFrom tl0a_echoTo tl0a_homes tl0a_talls tl0a_known tl1f_huts tl1f_singers tl1f_villages tl1f_dams tl1f_echoes tl1f_deep tl1f_slide tl1a_heights tl1a_ladders tl1a_minutes tl1a_echoFrom tl1a_echoTo tl1a_homes tl1a_talls tl1a_known tv0f_deeds tv0a_kinds tv0a_firsts tv0a_seconds tv1f_deeds tv1a_kinds tv1a_firsts tv1a_seconds ts0f_facts ts0a_heard ts0a_huts ts0a_minutes ts1f_facts ts1a_heard ts1a_huts ts1a_minutes tc0f_voices tc0f_step tc0a_parts tc0a_heights tc1f_voices tc1f_step tc1a_parts tc1a_heights m_images rlf_huts rlf_singers rlf_villages rlf_dams rlf_echoes rlf_deep rlf_slide rla_heights rla_ladders rla_minutes rla_echoFrom rla_echoTo rla_homes rla_talls rla_known rvf_deeds rva_kinds rva_firsts rva_seconds rsf_facts rsa_heard rsa_huts rsa_minutes rcf_voices rcf_step rca_parts rca_heights rf_fault rf_faultPlace ra_numbers ra_tape rf_length rf_behind rf_kind rf_first rf_value rf_hutsToldOf rf_singersToldOf nf_minute nf_avalanches nf_begun nf_climbed nf_seed na_huts na_known na_levels na_snow na_open pa_heard pa_walked pa_total pa_longest pa_next pa_cover pa_now pa_then ko_stands ka_gaps ka_behind ba_less ba_full H)
    (hS : va_S (wxA qx) s.heap H locs)
    (hl : lv_has ls 5 [(0, .ref qx), (1, .int x1), (2, .int x2), (3, .int x3), (4, .int x4)])
    (hw : q_wx_X10_teach_0 ta_counts tl0f_huts tl0f_singers tl0f_dams tl0f_echoes tl0f_deep tl0a_heights tl0a_ladders tl0a_minutes tl0a_echoFrom tl0a_echoTo tl0a_homes tl0a_talls tl0a_known tl1f_huts tl1f_singers tl1f_dams tl1f_echoes tl1f_deep tl1a_heights tl1a_ladders tl1a_minutes tl1a_echoFrom tl1a_echoTo tl1a_homes tl1a_talls tl1a_known tv0f_deeds tv0a_kinds tv0a_firsts tv0a_seconds tv1f_deeds tv1a_kinds tv1a_firsts tv1a_seconds nf_minute nf_avalanches nf_begun nf_climbed na_huts na_known na_levels na_snow x1 x2 x3 x4 post) :
    W p l e rm_wx_X10_teach s m args below meth c H locs 0 0 (MQ below (zQi (S := (Int32) × (Int32) × (Int32) × (Int32) × (Nat → Int32) × (Nat → Int32) × (Nat → Int32) × (Nat → Int32)) (fun r u => post r u.1 u.2.1 u.2.2.1 u.2.2.2.1 u.2.2.2.2.1 u.2.2.2.2.2.1 u.2.2.2.2.2.2.1 u.2.2.2.2.2.2.2) (fun u H => wxW E qx ta_tape tf_length tf_fault tf_place ta_counts tl0f_huts tl0f_singers tl0f_villages tl0f_dams tl0f_echoes tl0f_deep tl0f_slide tl0a_heights tl0a_ladders tl0a_minutes tl0a_echoFrom tl0a_echoTo tl0a_homes tl0a_talls tl0a_known tl1f_huts tl1f_singers tl1f_villages tl1f_dams tl1f_echoes tl1f_deep tl1f_slide tl1a_heights tl1a_ladders tl1a_minutes tl1a_echoFrom tl1a_echoTo tl1a_homes tl1a_talls tl1a_known tv0f_deeds tv0a_kinds tv0a_firsts tv0a_seconds tv1f_deeds tv1a_kinds tv1a_firsts tv1a_seconds ts0f_facts ts0a_heard ts0a_huts ts0a_minutes ts1f_facts ts1a_heard ts1a_huts ts1a_minutes tc0f_voices tc0f_step tc0a_parts tc0a_heights tc1f_voices tc1f_step tc1a_parts tc1a_heights m_images rlf_huts rlf_singers rlf_villages rlf_dams rlf_echoes rlf_deep rlf_slide rla_heights rla_ladders rla_minutes rla_echoFrom rla_echoTo rla_homes rla_talls rla_known rvf_deeds rva_kinds rva_firsts rva_seconds rsf_facts rsa_heard rsa_huts rsa_minutes rcf_voices rcf_step rca_parts rca_heights rf_fault rf_faultPlace ra_numbers ra_tape rf_length rf_behind rf_kind rf_first rf_value rf_hutsToldOf rf_singersToldOf u.1 u.2.1 u.2.2.1 u.2.2.2.1 nf_seed u.2.2.2.2.1 u.2.2.2.2.2.1 u.2.2.2.2.2.2.1 u.2.2.2.2.2.2.2 na_open pa_heard pa_walked pa_total pa_longest pa_next pa_cover pa_now pa_then ko_stands ka_gaps ka_behind ba_less ba_full H) (wxA qx)) args s 0 0 (wxA qx)) (F0 m 0 ls []) := by
  have hx := zc.1
  have hb := zc.2.1
  refine lv_iload hx hb dX10_teach_0 (lv_at hl 4 rfl) ?_
  refine lv_if_lt (tgt := 21) hx hb dX10_teach_2 (by decide) (fun hc => ?_) (fun hc => ?_)
  · have hw := hw.1 hc
    refine lv_iconst (v := (-1 : Int32)) hx hb dX10_teach_21 (by decide) ?_
    exact zret_iw ⟨nf_minute, nf_avalanches, nf_begun, nf_climbed, na_huts, na_known, na_levels, na_snow⟩ zc hS hw hM dX10_teach_22
  · have hw := hw.2 hc
    refine lv_iload hx hb dX10_teach_5 (lv_at hl 4 rfl) ?_
    refine lv_iconst (v := (5 : Int32)) hx hb dX10_teach_7 (by decide) ?_
    refine lv_icmp_ge (tgt := 21) hx hb dX10_teach_8 (by decide) (fun hc => ?_) (fun hc => ?_)
    · have hw := hw.1 hc
      refine lv_iconst (v := (-1 : Int32)) hx hb dX10_teach_21 (by decide) ?_
      exact zret_iw ⟨nf_minute, nf_avalanches, nf_begun, nf_climbed, na_huts, na_known, na_levels, na_snow⟩ zc hS hw hM dX10_teach_22
    · have hw := hw.2 hc
      refine lv_aload_n hx hb dX10_teach_11 rfl (lv_at hl 0 rfl) ?_
      refine lv_iload_n hx hb dX10_teach_12 rfl (lv_at hl 1 rfl) ?_
      refine lv_iload_n hx hb dX10_teach_13 rfl (lv_at hl 2 rfl) ?_
      refine lv_iload_n hx hb dX10_teach_14 rfl (lv_at hl 3 rfl) ?_
      refine zVw_i [.int x1, .int x2, .int x3] [] zc ky_X10_reachState kz_X10_reachState km_10_124 (c_wx_X10_reachState l hw) (wxPreV0 hK hM) hS rfl rfl hl.1 (Nat.le_of_ble_eq_true rfl) ⟨rfl, rfl⟩ ⟨Nat.le_of_ble_eq_true rfl, Nat.le_of_ble_eq_true rfl⟩ ⟨(Nat.zero_le _), (Nat.zero_le _)⟩ dX10_teach_15 (fun r_1 u H locs hw hM hS => ?_)
      obtain ⟨nf_minute_1, nf_avalanches_1, nf_begun_1, nf_climbed_1, na_huts_1, na_known_1, na_levels_1, na_snow_1⟩ := u
      refine lv_if_ne (tgt := 23) hx hb dX10_teach_18 (by decide) (fun hc => ?_) (fun hc => ?_)
      · have hw := hw.1 hc
        refine lv_aload_n hx hb dX10_teach_23 rfl (lv_at hl 0 rfl) ?_
        refine wxg_10_30_0 zc hK hM dX10_teach_24 ?_
        refine lv_aload_n hx hb dX10_teach_27 rfl (lv_at hl 0 rfl) ?_
        refine wxg_10_10_0 zc hK hM dX10_teach_28 ?_
        refine wxg_10_128_1 zc hK hM dX10_teach_31 ?_
        refine lv_iload_n hx hb dX10_teach_34 rfl (lv_at hl 1 rfl) ?_
        have hin := hw.1
        by_cases hc : x1 = 0
        · have hw9 := hw.2.1 hc
          have hM9 := hM
          subst hc
          have hw := hw9
          have hM := hM9
          refine va_aldq hx hb hK.1 hM 4 4 rfl rfl hin dX10_teach_35 ?_
          refine W.eq (g2 := F0 m 36 ls (.ref (qx + 5) :: .ref (qx + 72) :: [])) rfl ?_
          refine lv_iload hx hb dX10_teach_36 (lv_at hl 4 rfl) ?_
          refine zV_i [.ref (qx + 5), .int x4] [] zc ky_X3_fewestTimes kz_X3_fewestTimes km_10_317 (c_wn_X3_fewestTimes_6 l hw) (wnPreV0 hK (pj_wx_wn_72_5_24 hM)) rfl rfl hl.1 (Nat.le_of_ble_eq_true rfl) ⟨rfl, rfl⟩ ⟨Nat.le_of_ble_eq_true rfl, Nat.le_of_ble_eq_true rfl⟩ ⟨(Nat.zero_le _), (Nat.zero_le _)⟩ dX10_teach_38 (fun r_2 hw => ?_)
          exact zret_iw ⟨nf_minute_1, nf_avalanches_1, nf_begun_1, nf_climbed_1, na_huts_1, na_known_1, na_levels_1, na_snow_1⟩ zc hS hw hM dX10_teach_41
        · have hw9 := hw.2.2 hc
          have hc := zin2 hin hc
          have hM9 := hM
          subst hc
          have hw := hw9
          have hM := hM9
          refine va_aldq hx hb hK.1 hM 4 4 rfl rfl hin dX10_teach_35 ?_
          refine W.eq (g2 := F0 m 36 ls (.ref (qx + 14) :: .ref (qx + 72) :: [])) rfl ?_
          refine lv_iload hx hb dX10_teach_36 (lv_at hl 4 rfl) ?_
          refine zV_i [.ref (qx + 14), .int x4] [] zc ky_X3_fewestTimes kz_X3_fewestTimes km_10_317 (c_wn_X3_fewestTimes_6 l hw) (wnPreV0 hK (pj_wx_wn_72_14_24 hM)) rfl rfl hl.1 (Nat.le_of_ble_eq_true rfl) ⟨rfl, rfl⟩ ⟨Nat.le_of_ble_eq_true rfl, Nat.le_of_ble_eq_true rfl⟩ ⟨(Nat.zero_le _), (Nat.zero_le _)⟩ dX10_teach_38 (fun r_3 hw => ?_)
          exact zret_iw ⟨nf_minute_1, nf_avalanches_1, nf_begun_1, nf_climbed_1, na_huts_1, na_known_1, na_levels_1, na_snow_1⟩ zc hS hw hM dX10_teach_41
      · have hw := hw.2 hc
        refine lv_iconst (v := (-1 : Int32)) hx hb dX10_teach_21 (by decide) ?_
        exact zret_iw ⟨nf_minute_1, nf_avalanches_1, nf_begun_1, nf_climbed_1, na_huts_1, na_known_1, na_levels_1, na_snow_1⟩ zc hS hw hM dX10_teach_22
set_option maxRecDepth 20000 in
theorem c_wx_X10_teach (l : Launch) {E : zE} {qx : Nat} {ta_tape : Nat → Int32} {tf_length : Int32} {tf_fault : Int32} {tf_place : Int32} {ta_counts : Nat → Int32} {tl0f_huts : Int32} {tl0f_singers : Int32} {tl0f_villages : Int32} {tl0f_dams : Int32} {tl0f_echoes : Int32} {tl0f_deep : Int32} {tl0f_slide : Int32} {tl0a_heights : Nat → Int32} {tl0a_ladders : Nat → Int32} {tl0a_minutes : Nat → Int32} {tl0a_echoFrom : Nat → Int32} {tl0a_echoTo : Nat → Int32} {tl0a_homes : Nat → Int32} {tl0a_talls : Nat → Int32} {tl0a_known : Nat → Int32} {tl1f_huts : Int32} {tl1f_singers : Int32} {tl1f_villages : Int32} {tl1f_dams : Int32} {tl1f_echoes : Int32} {tl1f_deep : Int32} {tl1f_slide : Int32} {tl1a_heights : Nat → Int32} {tl1a_ladders : Nat → Int32} {tl1a_minutes : Nat → Int32} {tl1a_echoFrom : Nat → Int32} {tl1a_echoTo : Nat → Int32} {tl1a_homes : Nat → Int32} {tl1a_talls : Nat → Int32} {tl1a_known : Nat → Int32} {tv0f_deeds : Int32} {tv0a_kinds : Nat → Int32} {tv0a_firsts : Nat → Int32} {tv0a_seconds : Nat → Int32} {tv1f_deeds : Int32} {tv1a_kinds : Nat → Int32} {tv1a_firsts : Nat → Int32} {tv1a_seconds : Nat → Int32} {ts0f_facts : Int32} {ts0a_heard : Nat → Int32} {ts0a_huts : Nat → Int32} {ts0a_minutes : Nat → Int32} {ts1f_facts : Int32} {ts1a_heard : Nat → Int32} {ts1a_huts : Nat → Int32} {ts1a_minutes : Nat → Int32} {tc0f_voices : Int32} {tc0f_step : Int32} {tc0a_parts : Nat → Int32} {tc0a_heights : Nat → Int32} {tc1f_voices : Int32} {tc1f_step : Int32} {tc1a_parts : Nat → Int32} {tc1a_heights : Nat → Int32} {m_images : Nat → Option Nat} {rlf_huts : Int32} {rlf_singers : Int32} {rlf_villages : Int32} {rlf_dams : Int32} {rlf_echoes : Int32} {rlf_deep : Int32} {rlf_slide : Int32} {rla_heights : Nat → Int32} {rla_ladders : Nat → Int32} {rla_minutes : Nat → Int32} {rla_echoFrom : Nat → Int32} {rla_echoTo : Nat → Int32} {rla_homes : Nat → Int32} {rla_talls : Nat → Int32} {rla_known : Nat → Int32} {rvf_deeds : Int32} {rva_kinds : Nat → Int32} {rva_firsts : Nat → Int32} {rva_seconds : Nat → Int32} {rsf_facts : Int32} {rsa_heard : Nat → Int32} {rsa_huts : Nat → Int32} {rsa_minutes : Nat → Int32} {rcf_voices : Int32} {rcf_step : Int32} {rca_parts : Nat → Int32} {rca_heights : Nat → Int32} {rf_fault : Int32} {rf_faultPlace : Int32} {ra_numbers : Nat → Int32} {ra_tape : Nat → Int32} {rf_length : Int32} {rf_behind : Int32} {rf_kind : Int32} {rf_first : Int32} {rf_value : Int32} {rf_hutsToldOf : Int32} {rf_singersToldOf : Int32} {nf_minute : Int32} {nf_avalanches : Int32} {nf_begun : Int32} {nf_climbed : Int32} {nf_seed : Int32} {na_huts : Nat → Int32} {na_known : Nat → Int32} {na_levels : Nat → Int32} {na_snow : Nat → Int32} {na_open : Nat → Int32} {pa_heard : Nat → Int32} {pa_walked : Nat → Int32} {pa_total : Nat → Int32} {pa_longest : Nat → Int32} {pa_next : Nat → Int32} {pa_cover : Nat → Int32} {pa_now : Nat → Int32} {pa_then : Nat → Int32} {ko_stands : Option Nat} {ka_gaps : Nat → Int32} {ka_behind : Nat → Int32} {ba_less : Nat → Int32} {ba_full : Nat → Int32} {x1 : Int32} {x2 : Int32} {x3 : Int32} {x4 : Int32} {post : Int32 → (Int32) → (Int32) → (Int32) → (Int32) → (Nat → Int32) → (Nat → Int32) → (Nat → Int32) → (Nat → Int32) → Prop} (hw : q_wx_X10_teach_0 ta_counts tl0f_huts tl0f_singers tl0f_dams tl0f_echoes tl0f_deep tl0a_heights tl0a_ladders tl0a_minutes tl0a_echoFrom tl0a_echoTo tl0a_homes tl0a_talls tl0a_known tl1f_huts tl1f_singers tl1f_dams tl1f_echoes tl1f_deep tl1a_heights tl1a_ladders tl1a_minutes tl1a_echoFrom tl1a_echoTo tl1a_homes tl1a_talls tl1a_known tv0f_deeds tv0a_kinds tv0a_firsts tv0a_seconds tv1f_deeds tv1a_kinds tv1a_firsts tv1a_seconds nf_minute nf_avalanches nf_begun nf_climbed na_huts na_known na_levels na_snow x1 x2 x3 x4 post) : Met l yX10_teach (Cond.code yX10_teach cX10_teach 5 (some .int) :: zb) rm_wx_X10_teach (va_Pc [.ref qx, .int x1, .int x2, .int x3, .int x4] (fun U => wxW E qx ta_tape tf_length tf_fault tf_place ta_counts tl0f_huts tl0f_singers tl0f_villages tl0f_dams tl0f_echoes tl0f_deep tl0f_slide tl0a_heights tl0a_ladders tl0a_minutes tl0a_echoFrom tl0a_echoTo tl0a_homes tl0a_talls tl0a_known tl1f_huts tl1f_singers tl1f_villages tl1f_dams tl1f_echoes tl1f_deep tl1f_slide tl1a_heights tl1a_ladders tl1a_minutes tl1a_echoFrom tl1a_echoTo tl1a_homes tl1a_talls tl1a_known tv0f_deeds tv0a_kinds tv0a_firsts tv0a_seconds tv1f_deeds tv1a_kinds tv1a_firsts tv1a_seconds ts0f_facts ts0a_heard ts0a_huts ts0a_minutes ts1f_facts ts1a_heard ts1a_huts ts1a_minutes tc0f_voices tc0f_step tc0a_parts tc0a_heights tc1f_voices tc1f_step tc1a_parts tc1a_heights m_images rlf_huts rlf_singers rlf_villages rlf_dams rlf_echoes rlf_deep rlf_slide rla_heights rla_ladders rla_minutes rla_echoFrom rla_echoTo rla_homes rla_talls rla_known rvf_deeds rva_kinds rva_firsts rva_seconds rsf_facts rsa_heard rsa_huts rsa_minutes rcf_voices rcf_step rca_parts rca_heights rf_fault rf_faultPlace ra_numbers ra_tape rf_length rf_behind rf_kind rf_first rf_value rf_hutsToldOf rf_singersToldOf nf_minute nf_avalanches nf_begun nf_climbed nf_seed na_huts na_known na_levels na_snow na_open pa_heard pa_walked pa_total pa_longest pa_next pa_cover pa_now pa_then ko_stands ka_gaps ka_behind ba_less ba_full U.heap ∧ zK E U)) (zQi (S := (Int32) × (Int32) × (Int32) × (Int32) × (Nat → Int32) × (Nat → Int32) × (Nat → Int32) × (Nat → Int32)) (fun r u => post r u.1 u.2.1 u.2.2.1 u.2.2.2.1 u.2.2.2.2.1 u.2.2.2.2.2.1 u.2.2.2.2.2.2.1 u.2.2.2.2.2.2.2) (fun u H => wxW E qx ta_tape tf_length tf_fault tf_place ta_counts tl0f_huts tl0f_singers tl0f_villages tl0f_dams tl0f_echoes tl0f_deep tl0f_slide tl0a_heights tl0a_ladders tl0a_minutes tl0a_echoFrom tl0a_echoTo tl0a_homes tl0a_talls tl0a_known tl1f_huts tl1f_singers tl1f_villages tl1f_dams tl1f_echoes tl1f_deep tl1f_slide tl1a_heights tl1a_ladders tl1a_minutes tl1a_echoFrom tl1a_echoTo tl1a_homes tl1a_talls tl1a_known tv0f_deeds tv0a_kinds tv0a_firsts tv0a_seconds tv1f_deeds tv1a_kinds tv1a_firsts tv1a_seconds ts0f_facts ts0a_heard ts0a_huts ts0a_minutes ts1f_facts ts1a_heard ts1a_huts ts1a_minutes tc0f_voices tc0f_step tc0a_parts tc0a_heights tc1f_voices tc1f_step tc1a_parts tc1a_heights m_images rlf_huts rlf_singers rlf_villages rlf_dams rlf_echoes rlf_deep rlf_slide rla_heights rla_ladders rla_minutes rla_echoFrom rla_echoTo rla_homes rla_talls rla_known rvf_deeds rva_kinds rva_firsts rva_seconds rsf_facts rsa_heard rsa_huts rsa_minutes rcf_voices rcf_step rca_parts rca_heights rf_fault rf_faultPlace ra_numbers ra_tape rf_length rf_behind rf_kind rf_first rf_value rf_hutsToldOf rf_singersToldOf u.1 u.2.1 u.2.2.1 u.2.2.2.1 nf_seed u.2.2.2.2.1 u.2.2.2.2.2.1 u.2.2.2.2.2.2.1 u.2.2.2.2.2.2.2 na_open pa_heard pa_walked pa_total pa_longest pa_next pa_cover pa_now pa_then ko_stands ka_gaps ka_behind ba_less ba_full H) (wxA qx)) 0 0 (wxA qx) := by
  refine Met.ofW (cc := cX10_teach) (maxL := 5) (ret := (some .int)) (by decide) rfl ?_
  intro p e s m args below meth c s₁ B hml hv
  obtain ⟨rfl, hM, hK⟩ := hv
  have zc := zc_of B hml
  have hl := lv_entry ([.ref qx, .int x1, .int x2, .int x3, .int x4]) (n := 5) (Nat.le_of_ble_eq_true rfl)
  rw [lg_entry_eq]
  generalize (lg_sl ([.ref qx, .int x1, .int x2, .int x3, .int x4]) ++ List.replicate (5 - (lg_sl ([.ref qx, .int x1, .int x2, .int x3, .int x4])).length) Slot.unset).toArray = ls at hl ⊢
  have hl : lv_has ls 5 [(0, .ref qx), (1, .int x1), (2, .int x2), (3, .int x3), (4, .int x4)] := hl
  exact t_wx_X10_teach_0 zc hK hM va_S.rf (lv_sub hl [0, 1, 2, 3, 4] rfl) hw
-- wx_X10_count
abbrev rm_wx_X10_count : Room := { frames := 0, cells := 0, slots := 0, locals := 0 }
def q_wx_X10_count_9 (ta_counts : Nat → Int32) (post : Int32 → Prop) : Prop :=
  post (-2 : Int32)
def q_wx_X10_count_0 (ta_counts : Nat → Int32) (x1 : Int32) (post : Int32 → Prop) : Prop :=
  (x1 < 0 → (q_wx_X10_count_9 ta_counts post)) ∧ (¬ x1 < 0 → ((x1 < (4 : Int32) → (vp_in x1 4 ∧ (post (ta_counts (Int32.toNatClampNeg x1))))) ∧ (¬ x1 < (4 : Int32) → (q_wx_X10_count_9 ta_counts post))))
set_option maxRecDepth 20000 in
theorem t_wx_X10_count_9 {p : Program} {l : Launch} {e : Env} {s : State} {m : MethodId} {args : Array Value} {below : List Frame} {meth : Method} {c : Code} {E : zE} {qx : Nat} {ta_tape : Nat → Int32} {tf_length : Int32} {tf_fault : Int32} {tf_place : Int32} {ta_counts : Nat → Int32} {tl0f_huts : Int32} {tl0f_singers : Int32} {tl0f_villages : Int32} {tl0f_dams : Int32} {tl0f_echoes : Int32} {tl0f_deep : Int32} {tl0f_slide : Int32} {tl0a_heights : Nat → Int32} {tl0a_ladders : Nat → Int32} {tl0a_minutes : Nat → Int32} {tl0a_echoFrom : Nat → Int32} {tl0a_echoTo : Nat → Int32} {tl0a_homes : Nat → Int32} {tl0a_talls : Nat → Int32} {tl0a_known : Nat → Int32} {tl1f_huts : Int32} {tl1f_singers : Int32} {tl1f_villages : Int32} {tl1f_dams : Int32} {tl1f_echoes : Int32} {tl1f_deep : Int32} {tl1f_slide : Int32} {tl1a_heights : Nat → Int32} {tl1a_ladders : Nat → Int32} {tl1a_minutes : Nat → Int32} {tl1a_echoFrom : Nat → Int32} {tl1a_echoTo : Nat → Int32} {tl1a_homes : Nat → Int32} {tl1a_talls : Nat → Int32} {tl1a_known : Nat → Int32} {tv0f_deeds : Int32} {tv0a_kinds : Nat → Int32} {tv0a_firsts : Nat → Int32} {tv0a_seconds : Nat → Int32} {tv1f_deeds : Int32} {tv1a_kinds : Nat → Int32} {tv1a_firsts : Nat → Int32} {tv1a_seconds : Nat → Int32} {ts0f_facts : Int32} {ts0a_heard : Nat → Int32} {ts0a_huts : Nat → Int32} {ts0a_minutes : Nat → Int32} {ts1f_facts : Int32} {ts1a_heard : Nat → Int32} {ts1a_huts : Nat → Int32} {ts1a_minutes : Nat → Int32} {tc0f_voices : Int32} {tc0f_step : Int32} {tc0a_parts : Nat → Int32} {tc0a_heights : Nat → Int32} {tc1f_voices : Int32} {tc1f_step : Int32} {tc1a_parts : Nat → Int32} {tc1a_heights : Nat → Int32} {m_images : Nat → Option Nat} {rlf_huts : Int32} {rlf_singers : Int32} {rlf_villages : Int32} {rlf_dams : Int32} {rlf_echoes : Int32} {rlf_deep : Int32} {rlf_slide : Int32} {rla_heights : Nat → Int32} {rla_ladders : Nat → Int32} {rla_minutes : Nat → Int32} {rla_echoFrom : Nat → Int32} {rla_echoTo : Nat → Int32} {rla_homes : Nat → Int32} {rla_talls : Nat → Int32} {rla_known : Nat → Int32} {rvf_deeds : Int32} {rva_kinds : Nat → Int32} {rva_firsts : Nat → Int32} {rva_seconds : Nat → Int32} {rsf_facts : Int32} {rsa_heard : Nat → Int32} {rsa_huts : Nat → Int32} {rsa_minutes : Nat → Int32} {rcf_voices : Int32} {rcf_step : Int32} {rca_parts : Nat → Int32} {rca_heights : Nat → Int32} {rf_fault : Int32} {rf_faultPlace : Int32} {ra_numbers : Nat → Int32} {ra_tape : Nat → Int32} {rf_length : Int32} {rf_behind : Int32} {rf_kind : Int32} {rf_first : Int32} {rf_value : Int32} {rf_hutsToldOf : Int32} {rf_singersToldOf : Int32} {nf_minute : Int32} {nf_avalanches : Int32} {nf_begun : Int32} {nf_climbed : Int32} {nf_seed : Int32} {na_huts : Nat → Int32} {na_known : Nat → Int32} {na_levels : Nat → Int32} {na_snow : Nat → Int32} {na_open : Nat → Int32} {pa_heard : Nat → Int32} {pa_walked : Nat → Int32} {pa_total : Nat → Int32} {pa_longest : Nat → Int32} {pa_next : Nat → Int32} {pa_cover : Nat → Int32} {pa_now : Nat → Int32} {pa_then : Nat → Int32} {ko_stands : Option Nat} {ka_gaps : Nat → Int32} {ka_behind : Nat → Int32} {ba_less : Nat → Int32} {ba_full : Nat → Int32} {post : Int32 → Prop} {ls : Array Slot}
    (zc : zC p s m args meth c cX10_count 2 RX10 (some .int))
    (hK : zK E s)
    (hM : wxW E qx ta_tape tf_length tf_fault tf_place ta_counts tl0f_huts tl0f_singers tl0f_villages tl0f_dams tl0f_echoes tl0f_deep tl0f_slide tl0a_heights tl0a_ladders tl0a_minutes tl0a_echoFrom tl0a_echoTo tl0a_homes tl0a_talls tl0a_known tl1f_huts tl1f_singers tl1f_villages tl1f_dams tl1f_echoes tl1f_deep tl1f_slide tl1a_heights tl1a_ladders tl1a_minutes tl1a_echoFrom tl1a_echoTo tl1a_homes tl1a_talls tl1a_known tv0f_deeds tv0a_kinds tv0a_firsts tv0a_seconds tv1f_deeds tv1a_kinds tv1a_firsts tv1a_seconds ts0f_facts ts0a_heard ts0a_huts ts0a_minutes ts1f_facts ts1a_heard ts1a_huts ts1a_minutes tc0f_voices tc0f_step tc0a_parts tc0a_heights tc1f_voices tc1f_step tc1a_parts tc1a_heights m_images rlf_huts rlf_singers rlf_villages rlf_dams rlf_echoes rlf_deep rlf_slide rla_heights rla_ladders rla_minutes rla_echoFrom rla_echoTo rla_homes rla_talls rla_known rvf_deeds rva_kinds rva_firsts rva_seconds rsf_facts rsa_heard rsa_huts rsa_minutes rcf_voices rcf_step rca_parts rca_heights rf_fault rf_faultPlace ra_numbers ra_tape rf_length rf_behind rf_kind rf_first rf_value rf_hutsToldOf rf_singersToldOf nf_minute nf_avalanches nf_begun nf_climbed nf_seed na_huts na_known na_levels na_snow na_open pa_heard pa_walked pa_total pa_longest pa_next pa_cover pa_now pa_then ko_stands ka_gaps ka_behind ba_less ba_full s.heap)
    (hl : lv_has ls 2 [])
    (hw : q_wx_X10_count_9 ta_counts post) :
    W p l e rm_wx_X10_count s m args below meth c s.heap [] 0 0 (MQ below (vp_Si post) args s 0 0 (fun _ => False)) (F0 m 9 ls []) := by
  have hx := zc.1
  have hb := zc.2.1
  refine lv_bipush (v := (-2 : Int32)) hx hb dX10_count_9 (by decide) ?_
  refine lv_goto (tgt := 23) hx hb dX10_count_11 (by decide) ?_
  exact zret_i zc hw dX10_count_23
set_option maxRecDepth 20000 in
theorem t_wx_X10_count_0 {p : Program} {l : Launch} {e : Env} {s : State} {m : MethodId} {args : Array Value} {below : List Frame} {meth : Method} {c : Code} {E : zE} {qx : Nat} {ta_tape : Nat → Int32} {tf_length : Int32} {tf_fault : Int32} {tf_place : Int32} {ta_counts : Nat → Int32} {tl0f_huts : Int32} {tl0f_singers : Int32} {tl0f_villages : Int32} {tl0f_dams : Int32} {tl0f_echoes : Int32} {tl0f_deep : Int32} {tl0f_slide : Int32} {tl0a_heights : Nat → Int32} {tl0a_ladders : Nat → Int32} {tl0a_minutes : Nat → Int32} {tl0a_echoFrom : Nat → Int32} {tl0a_echoTo : Nat → Int32} {tl0a_homes : Nat → Int32} {tl0a_talls : Nat → Int32} {tl0a_known : Nat → Int32} {tl1f_huts : Int32} {tl1f_singers : Int32} {tl1f_villages : Int32} {tl1f_dams : Int32} {tl1f_echoes : Int32} {tl1f_deep : Int32} {tl1f_slide : Int32} {tl1a_heights : Nat → Int32} {tl1a_ladders : Nat → Int32} {tl1a_minutes : Nat → Int32} {tl1a_echoFrom : Nat → Int32} {tl1a_echoTo : Nat → Int32} {tl1a_homes : Nat → Int32} {tl1a_talls : Nat → Int32} {tl1a_known : Nat → Int32} {tv0f_deeds : Int32} {tv0a_kinds : Nat → Int32} {tv0a_firsts : Nat → Int32} {tv0a_seconds : Nat → Int32} {tv1f_deeds : Int32} {tv1a_kinds : Nat → Int32} {tv1a_firsts : Nat → Int32} {tv1a_seconds : Nat → Int32} {ts0f_facts : Int32} {ts0a_heard : Nat → Int32} {ts0a_huts : Nat → Int32} {ts0a_minutes : Nat → Int32} {ts1f_facts : Int32} {ts1a_heard : Nat → Int32} {ts1a_huts : Nat → Int32} {ts1a_minutes : Nat → Int32} {tc0f_voices : Int32} {tc0f_step : Int32} {tc0a_parts : Nat → Int32} {tc0a_heights : Nat → Int32} {tc1f_voices : Int32} {tc1f_step : Int32} {tc1a_parts : Nat → Int32} {tc1a_heights : Nat → Int32} {m_images : Nat → Option Nat} {rlf_huts : Int32} {rlf_singers : Int32} {rlf_villages : Int32} {rlf_dams : Int32} {rlf_echoes : Int32} {rlf_deep : Int32} {rlf_slide : Int32} {rla_heights : Nat → Int32} {rla_ladders : Nat → Int32} {rla_minutes : Nat → Int32} {rla_echoFrom : Nat → Int32} {rla_echoTo : Nat → Int32} {rla_homes : Nat → Int32} {rla_talls : Nat → Int32} {rla_known : Nat → Int32} {rvf_deeds : Int32} {rva_kinds : Nat → Int32} {rva_firsts : Nat → Int32} {rva_seconds : Nat → Int32} {rsf_facts : Int32} {rsa_heard : Nat → Int32} {rsa_huts : Nat → Int32} {rsa_minutes : Nat → Int32} {rcf_voices : Int32} {rcf_step : Int32} {rca_parts : Nat → Int32} {rca_heights : Nat → Int32} {rf_fault : Int32} {rf_faultPlace : Int32} {ra_numbers : Nat → Int32} {ra_tape : Nat → Int32} {rf_length : Int32} {rf_behind : Int32} {rf_kind : Int32} {rf_first : Int32} {rf_value : Int32} {rf_hutsToldOf : Int32} {rf_singersToldOf : Int32} {nf_minute : Int32} {nf_avalanches : Int32} {nf_begun : Int32} {nf_climbed : Int32} {nf_seed : Int32} {na_huts : Nat → Int32} {na_known : Nat → Int32} {na_levels : Nat → Int32} {na_snow : Nat → Int32} {na_open : Nat → Int32} {pa_heard : Nat → Int32} {pa_walked : Nat → Int32} {pa_total : Nat → Int32} {pa_longest : Nat → Int32} {pa_next : Nat → Int32} {pa_cover : Nat → Int32} {pa_now : Nat → Int32} {pa_then : Nat → Int32} {ko_stands : Option Nat} {ka_gaps : Nat → Int32} {ka_behind : Nat → Int32} {ba_less : Nat → Int32} {ba_full : Nat → Int32} {post : Int32 → Prop} {x1 : Int32} {ls : Array Slot}
    (zc : zC p s m args meth c cX10_count 2 RX10 (some .int))
    (hK : zK E s)
    (hM : wxW E qx ta_tape tf_length tf_fault tf_place ta_counts tl0f_huts tl0f_singers tl0f_villages tl0f_dams tl0f_echoes tl0f_deep tl0f_slide tl0a_heights tl0a_ladders tl0a_minutes tl0a_echoFrom tl0a_echoTo tl0a_homes tl0a_talls tl0a_known tl1f_huts tl1f_singers tl1f_villages tl1f_dams tl1f_echoes tl1f_deep tl1f_slide tl1a_heights tl1a_ladders tl1a_minutes tl1a_echoFrom tl1a_echoTo tl1a_homes tl1a_talls tl1a_known tv0f_deeds tv0a_kinds tv0a_firsts tv0a_seconds tv1f_deeds tv1a_kinds tv1a_firsts tv1a_seconds ts0f_facts ts0a_heard ts0a_huts ts0a_minutes ts1f_facts ts1a_heard ts1a_huts ts1a_minutes tc0f_voices tc0f_step tc0a_parts tc0a_heights tc1f_voices tc1f_step tc1a_parts tc1a_heights m_images rlf_huts rlf_singers rlf_villages rlf_dams rlf_echoes rlf_deep rlf_slide rla_heights rla_ladders rla_minutes rla_echoFrom rla_echoTo rla_homes rla_talls rla_known rvf_deeds rva_kinds rva_firsts rva_seconds rsf_facts rsa_heard rsa_huts rsa_minutes rcf_voices rcf_step rca_parts rca_heights rf_fault rf_faultPlace ra_numbers ra_tape rf_length rf_behind rf_kind rf_first rf_value rf_hutsToldOf rf_singersToldOf nf_minute nf_avalanches nf_begun nf_climbed nf_seed na_huts na_known na_levels na_snow na_open pa_heard pa_walked pa_total pa_longest pa_next pa_cover pa_now pa_then ko_stands ka_gaps ka_behind ba_less ba_full s.heap)
    (hl : lv_has ls 2 [(0, .ref qx), (1, .int x1)])
    (hw : q_wx_X10_count_0 ta_counts x1 post) :
    W p l e rm_wx_X10_count s m args below meth c s.heap [] 0 0 (MQ below (vp_Si post) args s 0 0 (fun _ => False)) (F0 m 0 ls []) := by
  have hx := zc.1
  have hb := zc.2.1
  refine lv_iload_n hx hb dX10_count_0 rfl (lv_at hl 1 rfl) ?_
  refine lv_if_lt (tgt := 9) hx hb dX10_count_1 (by decide) (fun hc => ?_) (fun hc => ?_)
  · have hw := hw.1 hc
    exact t_wx_X10_count_9 zc hK hM  (lv_sub hl [] rfl) hw
  · have hw := hw.2 hc
    refine lv_iload_n hx hb dX10_count_4 rfl (lv_at hl 1 rfl) ?_
    refine lv_iconst (v := (4 : Int32)) hx hb dX10_count_5 (by decide) ?_
    refine lv_icmp_lt (tgt := 14) hx hb dX10_count_6 (by decide) (fun hc => ?_) (fun hc => ?_)
    · have hw := hw.1 hc
      refine lv_aload_n hx hb dX10_count_14 rfl (lv_at hl 0 rfl) ?_
      refine wxg_10_10_0 zc hK hM dX10_count_15 ?_
      refine wxg_10_320_1 zc hK hM dX10_count_18 ?_
      refine lv_iload_n hx hb dX10_count_21 rfl (lv_at hl 1 rfl) ?_
      refine wxld_3 zc hK hM hw.1 dX10_count_22 ?_
      have hw := hw.2
      exact zret_i zc hw dX10_count_23
    · have hw := hw.2 hc
      exact t_wx_X10_count_9 zc hK hM  (lv_sub hl [] rfl) hw
set_option maxRecDepth 20000 in
theorem c_wx_X10_count (l : Launch) {E : zE} {qx : Nat} {ta_tape : Nat → Int32} {tf_length : Int32} {tf_fault : Int32} {tf_place : Int32} {ta_counts : Nat → Int32} {tl0f_huts : Int32} {tl0f_singers : Int32} {tl0f_villages : Int32} {tl0f_dams : Int32} {tl0f_echoes : Int32} {tl0f_deep : Int32} {tl0f_slide : Int32} {tl0a_heights : Nat → Int32} {tl0a_ladders : Nat → Int32} {tl0a_minutes : Nat → Int32} {tl0a_echoFrom : Nat → Int32} {tl0a_echoTo : Nat → Int32} {tl0a_homes : Nat → Int32} {tl0a_talls : Nat → Int32} {tl0a_known : Nat → Int32} {tl1f_huts : Int32} {tl1f_singers : Int32} {tl1f_villages : Int32} {tl1f_dams : Int32} {tl1f_echoes : Int32} {tl1f_deep : Int32} {tl1f_slide : Int32} {tl1a_heights : Nat → Int32} {tl1a_ladders : Nat → Int32} {tl1a_minutes : Nat → Int32} {tl1a_echoFrom : Nat → Int32} {tl1a_echoTo : Nat → Int32} {tl1a_homes : Nat → Int32} {tl1a_talls : Nat → Int32} {tl1a_known : Nat → Int32} {tv0f_deeds : Int32} {tv0a_kinds : Nat → Int32} {tv0a_firsts : Nat → Int32} {tv0a_seconds : Nat → Int32} {tv1f_deeds : Int32} {tv1a_kinds : Nat → Int32} {tv1a_firsts : Nat → Int32} {tv1a_seconds : Nat → Int32} {ts0f_facts : Int32} {ts0a_heard : Nat → Int32} {ts0a_huts : Nat → Int32} {ts0a_minutes : Nat → Int32} {ts1f_facts : Int32} {ts1a_heard : Nat → Int32} {ts1a_huts : Nat → Int32} {ts1a_minutes : Nat → Int32} {tc0f_voices : Int32} {tc0f_step : Int32} {tc0a_parts : Nat → Int32} {tc0a_heights : Nat → Int32} {tc1f_voices : Int32} {tc1f_step : Int32} {tc1a_parts : Nat → Int32} {tc1a_heights : Nat → Int32} {m_images : Nat → Option Nat} {rlf_huts : Int32} {rlf_singers : Int32} {rlf_villages : Int32} {rlf_dams : Int32} {rlf_echoes : Int32} {rlf_deep : Int32} {rlf_slide : Int32} {rla_heights : Nat → Int32} {rla_ladders : Nat → Int32} {rla_minutes : Nat → Int32} {rla_echoFrom : Nat → Int32} {rla_echoTo : Nat → Int32} {rla_homes : Nat → Int32} {rla_talls : Nat → Int32} {rla_known : Nat → Int32} {rvf_deeds : Int32} {rva_kinds : Nat → Int32} {rva_firsts : Nat → Int32} {rva_seconds : Nat → Int32} {rsf_facts : Int32} {rsa_heard : Nat → Int32} {rsa_huts : Nat → Int32} {rsa_minutes : Nat → Int32} {rcf_voices : Int32} {rcf_step : Int32} {rca_parts : Nat → Int32} {rca_heights : Nat → Int32} {rf_fault : Int32} {rf_faultPlace : Int32} {ra_numbers : Nat → Int32} {ra_tape : Nat → Int32} {rf_length : Int32} {rf_behind : Int32} {rf_kind : Int32} {rf_first : Int32} {rf_value : Int32} {rf_hutsToldOf : Int32} {rf_singersToldOf : Int32} {nf_minute : Int32} {nf_avalanches : Int32} {nf_begun : Int32} {nf_climbed : Int32} {nf_seed : Int32} {na_huts : Nat → Int32} {na_known : Nat → Int32} {na_levels : Nat → Int32} {na_snow : Nat → Int32} {na_open : Nat → Int32} {pa_heard : Nat → Int32} {pa_walked : Nat → Int32} {pa_total : Nat → Int32} {pa_longest : Nat → Int32} {pa_next : Nat → Int32} {pa_cover : Nat → Int32} {pa_now : Nat → Int32} {pa_then : Nat → Int32} {ko_stands : Option Nat} {ka_gaps : Nat → Int32} {ka_behind : Nat → Int32} {ba_less : Nat → Int32} {ba_full : Nat → Int32} {x1 : Int32} {post : Int32 → Prop} (hw : q_wx_X10_count_0 ta_counts x1 post) : Met l yX10_count (Cond.code yX10_count cX10_count 2 (some .int) :: zb) rm_wx_X10_count (va_Pc [.ref qx, .int x1] (fun U => wxW E qx ta_tape tf_length tf_fault tf_place ta_counts tl0f_huts tl0f_singers tl0f_villages tl0f_dams tl0f_echoes tl0f_deep tl0f_slide tl0a_heights tl0a_ladders tl0a_minutes tl0a_echoFrom tl0a_echoTo tl0a_homes tl0a_talls tl0a_known tl1f_huts tl1f_singers tl1f_villages tl1f_dams tl1f_echoes tl1f_deep tl1f_slide tl1a_heights tl1a_ladders tl1a_minutes tl1a_echoFrom tl1a_echoTo tl1a_homes tl1a_talls tl1a_known tv0f_deeds tv0a_kinds tv0a_firsts tv0a_seconds tv1f_deeds tv1a_kinds tv1a_firsts tv1a_seconds ts0f_facts ts0a_heard ts0a_huts ts0a_minutes ts1f_facts ts1a_heard ts1a_huts ts1a_minutes tc0f_voices tc0f_step tc0a_parts tc0a_heights tc1f_voices tc1f_step tc1a_parts tc1a_heights m_images rlf_huts rlf_singers rlf_villages rlf_dams rlf_echoes rlf_deep rlf_slide rla_heights rla_ladders rla_minutes rla_echoFrom rla_echoTo rla_homes rla_talls rla_known rvf_deeds rva_kinds rva_firsts rva_seconds rsf_facts rsa_heard rsa_huts rsa_minutes rcf_voices rcf_step rca_parts rca_heights rf_fault rf_faultPlace ra_numbers ra_tape rf_length rf_behind rf_kind rf_first rf_value rf_hutsToldOf rf_singersToldOf nf_minute nf_avalanches nf_begun nf_climbed nf_seed na_huts na_known na_levels na_snow na_open pa_heard pa_walked pa_total pa_longest pa_next pa_cover pa_now pa_then ko_stands ka_gaps ka_behind ba_less ba_full U.heap ∧ zK E U)) (vp_Si post) 0 0 (fun _ => False) := by
  refine Met.ofW (cc := cX10_count) (maxL := 2) (ret := (some .int)) (by decide) rfl ?_
  intro p e s m args below meth c s₁ B hml hv
  obtain ⟨rfl, hM, hK⟩ := hv
  have zc := zc_of B hml
  have hl := lv_entry ([.ref qx, .int x1]) (n := 2) (Nat.le_of_ble_eq_true rfl)
  rw [lg_entry_eq]
  generalize (lg_sl ([.ref qx, .int x1]) ++ List.replicate (2 - (lg_sl ([.ref qx, .int x1])).length) Slot.unset).toArray = ls at hl ⊢
  have hl : lv_has ls 2 [(0, .ref qx), (1, .int x1)] := hl
  exact t_wx_X10_count_0 zc hK hM (lv_sub hl [0, 1] rfl) hw
end
