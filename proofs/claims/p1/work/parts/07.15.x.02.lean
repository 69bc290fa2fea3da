-- wx_X10_choirAt
abbrev rm_wx_X10_choirAt : Room := { frames := 0, cells := 0, slots := 0, locals := 0 }
def q_wx_X10_choirAt_0 (ta_counts : Nat → Int32) (x1 : Int32) (post : Nat → Prop) : Prop :=
  (x1 < 0 → (post 0)) ∧ (¬ x1 < 0 → (((ta_counts (Int32.toNatClampNeg (3 : Int32))) ≤ x1 → (post 0)) ∧ (¬ (ta_counts (Int32.toNatClampNeg (3 : Int32))) ≤ x1 → (vp_in x1 2 ∧ (x1 = 0 → (post 2)) ∧ (¬ x1 = 0 → (post 1))))))
set_option maxRecDepth 20000 in
theorem t_wx_X10_choirAt_0 {p : Program} {l : Launch} {e : Env} {s : State} {m : MethodId} {args : Array Value} {below : List Frame} {meth : Method} {c : Code} {E : zE} {qx : Nat} {ta_tape : Nat → Int32} {tf_length : Int32} {tf_fault : Int32} {tf_place : Int32} {ta_counts : Nat → Int32} {tl0f_huts : Int32} {tl0f_singers : Int32} {tl0f_villages : Int32} {tl0f_dams : Int32} {tl0f_echoes : Int32} {tl0f_deep : Int32} {tl0f_slide : Int32} {tl0a_heights : Nat → Int32} {tl0a_ladders : Nat → Int32} {tl0a_minutes : Nat → Int32} {tl0a_echoFrom : Nat → Int32} {tl0a_echoTo : Nat → Int32} {tl0a_homes : Nat → Int32} {tl0a_talls : Nat → Int32} {tl0a_known : Nat → Int32} {tl1f_huts : Int32} {tl1f_singers : Int32} {tl1f_villages : Int32} {tl1f_dams : Int32} {tl1f_echoes : Int32} {tl1f_deep : Int32} {tl1f_slide : Int32} {tl1a_heights : Nat → Int32} {tl1a_ladders : Nat → Int32} {tl1a_minutes : Nat → Int32} {tl1a_echoFrom : Nat → Int32} {tl1a_echoTo : Nat → Int32} {tl1a_homes : Nat → Int32} {tl1a_talls : Nat → Int32} {tl1a_known : Nat → Int32} {tv0f_deeds : Int32} {tv0a_kinds : Nat → Int32} {tv0a_firsts : Nat → Int32} {tv0a_seconds : Nat → Int32} {tv1f_deeds : Int32} {tv1a_kinds : Nat → Int32} {tv1a_firsts : Nat → Int32} {tv1a_seconds : Nat → Int32} {ts0f_facts : Int32} {ts0a_heard : Nat → Int32} {ts0a_huts : Nat → Int32} {ts0a_minutes : Nat → Int32} {ts1f_facts : Int32} {ts1a_heard : Nat → Int32} {ts1a_huts : Nat → Int32} {ts1a_minutes : Nat → Int32} {tc0f_voices : Int32} {tc0f_step : Int32} {tc0a_parts : Nat → Int32} {tc0a_heights : Nat → Int32} {tc1f_voices : Int32} {tc1f_step : Int32} {tc1a_parts : Nat → Int32} {tc1a_heights : Nat → Int32} {m_images : Nat → Option Nat} {rlf_huts : Int32} {rlf_singers : Int32} {rlf_villages : Int32} {rlf_dams : Int32} {rlf_echoes : Int32} {rlf_deep : Int32} {rlf_slide : Int32} {rla_heights : Nat → Int32} {rla_ladders : Nat → Int32} {rla_minutes : Nat → Int32} {rla_echoFrom : Nat → Int32} {rla_echoTo : Nat → Int32} {rla_homes : Nat → Int32} {rla_talls : Nat → Int32} {rla_known : Nat → Int32} {rvf_deeds : Int32} {rva_kinds : Nat → Int32} {rva_firsts : Nat → Int32} {rva_seconds : Nat → Int32} {rsf_facts : Int32} {rsa_heard : Nat → Int32} {rsa_huts : Nat → Int32} {rsa_minutes : Nat → Int32} {rcf_voices : Int32} {rcf_step : Int32} {rca_parts : Nat → Int32} {rca_heights : Nat → Int32} {rf_fault : Int32} {rf_faultPlace : Int32} {ra_numbers : Nat → Int32} {ra_tape : Nat → Int32} {rf_length : Int32} {rf_behind : Int32} {rf_kind : Int32} {rf_first : Int32} {rf_value : Int32} {rf_hutsToldOf : Int32} {rf_singersToldOf : Int32} {nf_minute : Int32} {nf_avalanches : Int32} {nf_begun : Int32} {nf_climbed : Int32} {nf_seed : Int32} {na_huts : Nat → Int32} {na_known : Nat → Int32} {na_levels : Nat → Int32} {na_snow : Nat → Int32} {na_open : Nat → Int32} {pa_heard : Nat → Int32} {pa_walked : Nat → Int32} {pa_total : Nat → Int32} {pa_longest : Nat → Int32} {pa_next : Nat → Int32} {pa_cover : Nat → Int32} {pa_now : Nat → Int32} {pa_then : Nat → Int32} {ko_stands : Option Nat} {ka_gaps : Nat → Int32} {ka_behind : Nat → Int32} {ba_less : Nat → Int32} {ba_full : Nat → Int32} {post : Nat → Prop} {x1 : Int32} {ls : Array Slot}
    (zc : zC p s m args meth c cX10_choirAt 2 RX10 (some (.object "DownhillSong$Choir")))
    (hK : zK E s)
    (hM : wxW E qx ta_tape tf_length tf_fault tf_place ta_counts tl0f_huts tl0f_singers tl0f_villages tl0f_dams tl0f_echoes tl0f_deep tl0f_slide tl0a_heights tl0a_ladders tl0a_minutes tl0a_echoFrom tl0a_echoTo tl0a_homes tl0a_talls tl0a_known tl1f_huts tl1f_singers tl1f_villages tl1f_dams tl1f_echoes tl1f_deep tl1f_slide tl1a_heights tl1a_ladders tl1a_minutes tl1a_echoFrom tl1a_echoTo tl1a_homes tl1a_talls tl1a_known tv0f_deeds tv0a_kinds tv0a_firsts tv0a_seconds tv1f_deeds tv1a_kinds tv1a_firsts tv1a_seconds ts0f_facts ts0a_heard ts0a_huts ts0a_minutes ts1f_facts ts1a_heard ts1a_huts ts1a_minutes tc0f_voices tc0f_step tc0a_parts tc0a_heights tc1f_voices tc1f_step tc1a_parts tc1a_heights m_images rlf_huts rlf_singers rlf_villages rlf_dams rlf_echoes rlf_deep rlf_slide rla_heights rla_ladders rla_minutes rla_echoFrom rla_echoTo rla_homes rla_talls rla_known rvf_deeds rva_kinds rva_firsts rva_seconds rsf_facts rsa_heard rsa_huts rsa_minutes rcf_voices rcf_step rca_parts rca_heights rf_fault rf_faultPlace ra_numbers ra_tape rf_length rf_behind rf_kind rf_first rf_value rf_hutsToldOf rf_singersToldOf nf_minute nf_avalanches nf_begun nf_climbed nf_seed na_huts na_known na_levels na_snow na_open pa_heard pa_walked pa_total pa_longest pa_next pa_cover pa_now pa_then ko_stands ka_gaps ka_behind ba_less ba_full s.heap)
    (hl : lv_has ls 2 [(0, .ref qx), (1, .int x1)])
    (hw : q_wx_X10_choirAt_0 ta_counts x1 post) :
    W p l e rm_wx_X10_choirAt s m args below meth c s.heap [] 0 0 (MQ below (va_Sr post (fun k => if k = 0 then Value.null else if k = 1 then Value.ref (qx + 45) else Value.ref (qx + 42))) args s 0 0 (fun _ => False)) (F0 m 0 ls []) := by
  have hx := zc.1
  have hb := zc.2.1
  refine lv_iload_n hx hb dX10_choirAt_0 rfl (lv_at hl 1 rfl) ?_
  refine lv_if_lt (tgt := 29) hx hb dX10_choirAt_1 (by decide) (fun hc => ?_) (fun hc => ?_)
  · have hw := hw.1 hc
    refine lv_null hx hb dX10_choirAt_29 ?_
    exact zret_r (k := 0) zc (Or.inl rfl) hw dX10_choirAt_30
  · have hw := hw.2 hc
    refine lv_iload_n hx hb dX10_choirAt_4 rfl (lv_at hl 1 rfl) ?_
    refine lv_aload_n hx hb dX10_choirAt_5 rfl (lv_at hl 0 rfl) ?_
    refine wxg_10_10_0 zc hK hM dX10_choirAt_6 ?_
    refine wxg_10_320_1 zc hK hM dX10_choirAt_9 ?_
    refine lv_iconst (v := (3 : Int32)) hx hb dX10_choirAt_12 (by decide) ?_
    refine wxld_3 zc hK hM (by unfold vp_in; decide) dX10_choirAt_13 ?_
    refine lv_icmp_ge (tgt := 29) hx hb dX10_choirAt_14 (by decide) (fun hc => ?_) (fun hc => ?_)
    · have hw := hw.1 hc
      refine lv_null hx hb dX10_choirAt_29 ?_
      exact zret_r (k := 0) zc (Or.inl rfl) hw dX10_choirAt_30
    · have hw := hw.2 hc
      refine lv_aload_n hx hb dX10_choirAt_17 rfl (lv_at hl 0 rfl) ?_
      refine wxg_10_10_0 zc hK hM dX10_choirAt_18 ?_
      refine wxg_10_355_1 zc hK hM dX10_choirAt_21 ?_
      refine lv_iload_n hx hb dX10_choirAt_24 rfl (lv_at hl 1 rfl) ?_
      have hin := hw.1
      by_cases hc : x1 = 0
      · have hw9 := hw.2.1 hc
        have hM9 := hM
        subst hc
        have hw := hw9
        have hM := hM9
        refine va_aldq hx hb hK.1 hM 41 7 rfl rfl hin dX10_choirAt_25 ?_
        refine W.eq (g2 := F0 m 26 ls (.ref (qx + 42) :: [])) rfl ?_
        refine lv_goto (tgt := 30) hx hb dX10_choirAt_26 (by decide) ?_
        exact zret_r (k := 2) zc (Or.inr ⟨_, rfl⟩) hw dX10_choirAt_30
      · have hw9 := hw.2.2 hc
        have hc := zin2 hin hc
        have hM9 := hM
        subst hc
        have hw := hw9
        have hM := hM9
        refine va_aldq hx hb hK.1 hM 41 7 rfl rfl hin dX10_choirAt_25 ?_
        refine W.eq (g2 := F0 m 26 ls (.ref (qx + 45) :: [])) rfl ?_
        refine lv_goto (tgt := 30) hx hb dX10_choirAt_26 (by decide) ?_
        exact zret_r (k := 1) zc (Or.inr ⟨_, rfl⟩) hw dX10_choirAt_30
set_option maxRecDepth 20000 in
theorem c_wx_X10_choirAt (l : Launch) {E : zE} {qx : Nat} {ta_tape : Nat → Int32} {tf_length : Int32} {tf_fault : Int32} {tf_place : Int32} {ta_counts : Nat → Int32} {tl0f_huts : Int32} {tl0f_singers : Int32} {tl0f_villages : Int32} {tl0f_dams : Int32} {tl0f_echoes : Int32} {tl0f_deep : Int32} {tl0f_slide : Int32} {tl0a_heights : Nat → Int32} {tl0a_ladders : Nat → Int32} {tl0a_minutes : Nat → Int32} {tl0a_echoFrom : Nat → Int32} {tl0a_echoTo : Nat → Int32} {tl0a_homes : Nat → Int32} {tl0a_talls : Nat → Int32} {tl0a_known : Nat → Int32} {tl1f_huts : Int32} {tl1f_singers : Int32} {tl1f_villages : Int32} {tl1f_dams : Int32} {tl1f_echoes : Int32} {tl1f_deep : Int32} {tl1f_slide : Int32} {tl1a_heights : Nat → Int32} {tl1a_ladders : Nat → Int32} {tl1a_minutes : Nat → Int32} {tl1a_echoFrom : Nat → Int32} {tl1a_echoTo : Nat → Int32} {tl1a_homes : Nat → Int32} {tl1a_talls : Nat → Int32} {tl1a_known : Nat → Int32} {tv0f_deeds : Int32} {tv0a_kinds : Nat → Int32} {tv0a_firsts : Nat → Int32} {tv0a_seconds : Nat → Int32} {tv1f_deeds : Int32} {tv1a_kinds : Nat → Int32} {tv1a_firsts : Nat → Int32} {tv1a_seconds : Nat → Int32} {ts0f_facts : Int32} {ts0a_heard : Nat → Int32} {ts0a_huts : Nat → Int32} {ts0a_minutes : Nat → Int32} {ts1f_facts : Int32} {ts1a_heard : Nat → Int32} {ts1a_huts : Nat → Int32} {ts1a_minutes : Nat → Int32} {tc0f_voices : Int32} {tc0f_step : Int32} {tc0a_parts : Nat → Int32} {tc0a_heights : Nat → Int32} {tc1f_voices : Int32} {tc1f_step : Int32} {tc1a_parts : Nat → Int32} {tc1a_heights : Nat → Int32} {m_images : Nat → Option Nat} {rlf_huts : Int32} {rlf_singers : Int32} {rlf_villages : Int32} {rlf_dams : Int32} {rlf_echoes : Int32} {rlf_deep : Int32} {rlf_slide : Int32} {rla_heights : Nat → Int32} {rla_ladders : Nat → Int32} {rla_minutes : Nat → Int32} {rla_echoFrom : Nat → Int32} {rla_echoTo : Nat → Int32} {rla_homes : Nat → Int32} {rla_talls : Nat → Int32} {rla_known : Nat → Int32} {rvf_deeds : Int32} {rva_kinds : Nat → Int32} {rva_firsts : Nat → Int32} {rva_seconds : Nat → Int32} {rsf_facts : Int32} {rsa_heard : Nat → Int32} {rsa_huts : Nat → Int32} {rsa_minutes : Nat → Int32} {rcf_voices : Int32} {rcf_step : Int32} {rca_parts : Nat → Int32} {rca_heights : Nat → Int32} {rf_fault : Int32} {rf_faultPlace : Int32} {ra_numbers : Nat → Int32} {ra_tape : Nat → Int32} {rf_length : Int32} {rf_behind : Int32} {rf_kind : Int32} {rf_first : Int32} {rf_value : Int32} {rf_hutsToldOf : Int32} {rf_singersToldOf : Int32} {nf_minute : Int32} {nf_avalanches : Int32} {nf_begun : Int32} {nf_climbed : Int32} {nf_seed : Int32} {na_huts : Nat → Int32} {na_known : Nat → Int32} {na_levels : Nat → Int32} {na_snow : Nat → Int32} {na_open : Nat → Int32} {pa_heard : Nat → Int32} {pa_walked : Nat → Int32} {pa_total : Nat → Int32} {pa_longest : Nat → Int32} {pa_next : Nat → Int32} {pa_cover : Nat → Int32} {pa_now : Nat → Int32} {pa_then : Nat → Int32} {ko_stands : Option Nat} {ka_gaps : Nat → Int32} {ka_behind : Nat → Int32} {ba_less : Nat → Int32} {ba_full : Nat → Int32} {x1 : Int32} {post : Nat → Prop} (hw : q_wx_X10_choirAt_0 ta_counts x1 post) : Met l yX10_choirAt (Cond.code yX10_choirAt cX10_choirAt 2 (some (.object "DownhillSong$Choir")) :: zb) rm_wx_X10_choirAt (va_Pc [.ref qx, .int x1] (fun U => wxW E qx ta_tape tf_length tf_fault tf_place ta_counts tl0f_huts tl0f_singers tl0f_villages tl0f_dams tl0f_echoes tl0f_deep tl0f_slide tl0a_heights tl0a_ladders tl0a_minutes tl0a_echoFrom tl0a_echoTo tl0a_homes tl0a_talls tl0a_known tl1f_huts tl1f_singers tl1f_villages tl1f_dams tl1f_echoes tl1f_deep tl1f_slide tl1a_heights tl1a_ladders tl1a_minutes tl1a_echoFrom tl1a_echoTo tl1a_homes tl1a_talls tl1a_known tv0f_deeds tv0a_kinds tv0a_firsts tv0a_seconds tv1f_deeds tv1a_kinds tv1a_firsts tv1a_seconds ts0f_facts ts0a_heard ts0a_huts ts0a_minutes ts1f_facts ts1a_heard ts1a_huts ts1a_minutes tc0f_voices tc0f_step tc0a_parts tc0a_heights tc1f_voices tc1f_step tc1a_parts tc1a_heights m_images rlf_huts rlf_singers rlf_villages rlf_dams rlf_echoes rlf_deep rlf_slide rla_heights rla_ladders rla_minutes rla_echoFrom rla_echoTo rla_homes rla_talls rla_known rvf_deeds rva_kinds rva_firsts rva_seconds rsf_facts rsa_heard rsa_huts rsa_minutes rcf_voices rcf_step rca_parts rca_heights rf_fault rf_faultPlace ra_numbers ra_tape rf_length rf_behind rf_kind rf_first rf_value rf_hutsToldOf rf_singersToldOf nf_minute nf_avalanches nf_begun nf_climbed nf_seed na_huts na_known na_levels na_snow na_open pa_heard pa_walked pa_total pa_longest pa_next pa_cover pa_now pa_then ko_stands ka_gaps ka_behind ba_less ba_full U.heap ∧ zK E U)) (va_Sr post (fun k => if k = 0 then Value.null else if k = 1 then Value.ref (qx + 45) else Value.ref (qx + 42))) 0 0 (fun _ => False) := by
  refine Met.ofW (cc := cX10_choirAt) (maxL := 2) (ret := (some (.object "DownhillSong$Choir"))) (by decide) rfl ?_
  intro p e s m args below meth c s₁ B hml hv
  obtain ⟨rfl, hM, hK⟩ := hv
  have zc := zc_of B hml
  have hl := lv_entry ([.ref qx, .int x1]) (n := 2) (Nat.le_of_ble_eq_true rfl)
  rw [lg_entry_eq]
  generalize (lg_sl ([.ref qx, .int x1]) ++ List.replicate (2 - (lg_sl ([.ref qx, .int x1])).length) Slot.unset).toArray = ls at hl ⊢
  have hl : lv_has ls 2 [(0, .ref qx), (1, .int x1)] := hl
  exact t_wx_X10_choirAt_0 zc hK hM (lv_sub hl [0, 1] rfl) hw
-- wx_X10_choir
abbrev rm_wx_X10_choir : Room := { frames := 1, cells := 0, slots := 0, locals := 21 }
def q_wx_X10_choir_0 (ta_counts : Nat → Int32) (x1 : Int32) (x2 : Int32) (post : Int32 → Prop) : Prop :=
  q_wx_X10_choirAt_0 ta_counts x1 (fun r_1 => (r_1 = 0 → (post (-1 : Int32))) ∧ (r_1 = 1 → ((¬ x2 = (2 : Int32) → False) ∧ (x2 = (2 : Int32) → False))) ∧ (¬ r_1 = 0 → ¬ r_1 = 1 → ((¬ x2 = (2 : Int32) → False) ∧ (x2 = (2 : Int32) → False))))
set_option maxRecDepth 20000 in
theorem t_wx_X10_choir_0 {p : Program} {l : Launch} {e : Env} {s : State} {m : MethodId} {args : Array Value} {below : List Frame} {meth : Method} {c : Code} {E : zE} {qx : Nat} {ta_tape : Nat → Int32} {tf_length : Int32} {tf_fault : Int32} {tf_place : Int32} {ta_counts : Nat → Int32} {tl0f_huts : Int32} {tl0f_singers : Int32} {tl0f_villages : Int32} {tl0f_dams : Int32} {tl0f_echoes : Int32} {tl0f_deep : Int32} {tl0f_slide : Int32} {tl0a_heights : Nat → Int32} {tl0a_ladders : Nat → Int32} {tl0a_minutes : Nat → Int32} {tl0a_echoFrom : Nat → Int32} {tl0a_echoTo : Nat → Int32} {tl0a_homes : Nat → Int32} {tl0a_talls : Nat → Int32} {tl0a_known : Nat → Int32} {tl1f_huts : Int32} {tl1f_singers : Int32} {tl1f_villages : Int32} {tl1f_dams : Int32} {tl1f_echoes : Int32} {tl1f_deep : Int32} {tl1f_slide : Int32} {tl1a_heights : Nat → Int32} {tl1a_ladders : Nat → Int32} {tl1a_minutes : Nat → Int32} {tl1a_echoFrom : Nat → Int32} {tl1a_echoTo : Nat → Int32} {tl1a_homes : Nat → Int32} {tl1a_talls : Nat → Int32} {tl1a_known : Nat → Int32} {tv0f_deeds : Int32} {tv0a_kinds : Nat → Int32} {tv0a_firsts : Nat → Int32} {tv0a_seconds : Nat → Int32} {tv1f_deeds : Int32} {tv1a_kinds : Nat → Int32} {tv1a_firsts : Nat → Int32} {tv1a_seconds : Nat → Int32} {ts0f_facts : Int32} {ts0a_heard : Nat → Int32} {ts0a_huts : Nat → Int32} {ts0a_minutes : Nat → Int32} {ts1f_facts : Int32} {ts1a_heard : Nat → Int32} {ts1a_huts : Nat → Int32} {ts1a_minutes : Nat → Int32} {tc0f_voices : Int32} {tc0f_step : Int32} {tc0a_parts : Nat → Int32} {tc0a_heights : Nat → Int32} {tc1f_voices : Int32} {tc1f_step : Int32} {tc1a_parts : Nat → Int32} {tc1a_heights : Nat → Int32} {m_images : Nat → Option Nat} {rlf_huts : Int32} {rlf_singers : Int32} {rlf_villages : Int32} {rlf_dams : Int32} {rlf_echoes : Int32} {rlf_deep : Int32} {rlf_slide : Int32} {rla_heights : Nat → Int32} {rla_ladders : Nat → Int32} {rla_minutes : Nat → Int32} {rla_echoFrom : Nat → Int32} {rla_echoTo : Nat → Int32} {rla_homes : Nat → Int32} {rla_talls : Nat → Int32} {rla_known : Nat → Int32} {rvf_deeds : Int32} {rva_kinds : Nat → Int32} {rva_firsts : Nat → Int32} {rva_seconds : Nat → Int32} {rsf_facts : Int32} {rsa_heard : Nat → Int32} {rsa_huts : Nat → Int32} {rsa_minutes : Nat → Int32} {rcf_voices : Int32} {rcf_step : Int32} {rca_parts : Nat → Int32} {rca_heights : Nat → Int32} {rf_fault : Int32} {rf_faultPlace : Int32} {ra_numbers : Nat → Int32} {ra_tape : Nat → Int32} {rf_length : Int32} {rf_behind : Int32} {rf_kind : Int32} {rf_first : Int32} {rf_value : Int32} {rf_hutsToldOf : Int32} {rf_singersToldOf : Int32} {nf_minute : Int32} {nf_avalanches : Int32} {nf_begun : Int32} {nf_climbed : Int32} {nf_seed : Int32} {na_huts : Nat → Int32} {na_known : Nat → Int32} {na_levels : Nat → Int32} {na_snow : Nat → Int32} {na_open : Nat → Int32} {pa_heard : Nat → Int32} {pa_walked : Nat → Int32} {pa_total : Nat → Int32} {pa_longest : Nat → Int32} {pa_next : Nat → Int32} {pa_cover : Nat → Int32} {pa_now : Nat → Int32} {pa_then : Nat → Int32} {ko_stands : Option Nat} {ka_gaps : Nat → Int32} {ka_behind : Nat → Int32} {ba_less : Nat → Int32} {ba_full : Nat → Int32} {post : Int32 → Prop} {x1 : Int32} {x2 : Int32} {ls : Array Slot}
    (zc : zC p s m args meth c cX10_choir 4 RX10 (some .int))
    (hK : zK E s)
    (hM : wxW E qx ta_tape tf_length tf_fault tf_place ta_counts tl0f_huts tl0f_singers tl0f_villages tl0f_dams tl0f_echoes tl0f_deep tl0f_slide tl0a_heights tl0a_ladders tl0a_minutes tl0a_echoFrom tl0a_echoTo tl0a_homes tl0a_talls tl0a_known tl1f_huts tl1f_singers tl1f_villages tl1f_dams tl1f_echoes tl1f_deep tl1f_slide tl1a_heights tl1a_ladders tl1a_minutes tl1a_echoFrom tl1a_echoTo tl1a_homes tl1a_talls tl1a_known tv0f_deeds tv0a_kinds tv0a_firsts tv0a_seconds tv1f_deeds tv1a_kinds tv1a_firsts tv1a_seconds ts0f_facts ts0a_heard ts0a_huts ts0a_minutes ts1f_facts ts1a_heard ts1a_huts ts1a_minutes tc0f_voices tc0f_step tc0a_parts tc0a_heights tc1f_voices tc1f_step tc1a_parts tc1a_heights m_images rlf_huts rlf_singers rlf_villages rlf_dams rlf_echoes rlf_deep rlf_slide rla_heights rla_ladders rla_minutes rla_echoFrom rla_echoTo rla_homes rla_talls rla_known rvf_deeds rva_kinds rva_firsts rva_seconds rsf_facts rsa_heard rsa_huts rsa_minutes rcf_voices rcf_step rca_parts rca_heights rf_fault rf_faultPlace ra_numbers ra_tape rf_length rf_behind rf_kind rf_first rf_value rf_hutsToldOf rf_singersToldOf nf_minute nf_avalanches nf_begun nf_climbed nf_seed na_huts na_known na_levels na_snow na_open pa_heard pa_walked pa_total pa_longest pa_next pa_cover pa_now pa_then ko_stands ka_gaps ka_behind ba_less ba_full s.heap)
    (hl : lv_has ls 4 [(0, .ref qx), (1, .int x1), (2, .int x2)])
    (hw : q_wx_X10_choir_0 ta_counts x1 x2 post) :
    W p l e rm_wx_X10_choir s m args below meth c s.heap [] 0 0 (MQ below (vp_Si post) args s 0 0 (fun _ => False)) (F0 m 0 ls []) := by
  have hx := zc.1
  have hb := zc.2.1
  refine lv_aload_n hx hb dX10_choir_0 rfl (lv_at hl 0 rfl) ?_
  refine lv_iload_n hx hb dX10_choir_1 rfl (lv_at hl 1 rfl) ?_
  refine zV_r [.int x1] [] zc ky_X10_choirAt kz_X10_choirAt km_10_219 (c_wx_X10_choirAt l hw) (wxPreV0 hK hM) rfl rfl hl.1 (Nat.le_of_ble_eq_true rfl) ⟨rfl, rfl⟩ ⟨Nat.le_of_ble_eq_true rfl, Nat.le_of_ble_eq_true rfl⟩ ⟨Nat.zero_le _, Nat.zero_le _⟩ dX10_choir_2 (fun r_1 hw => ?_)
  by_cases hc0 : r_1 = 0
  · have hw := hw.1 hc0
    refine W.eq (g2 := F0 m 5 ls (.null :: [])) (by simp [hc0]) ?_
    refine lv_astore_nN (lv' := [(3, .null), (0, .ref qx), (1, .int x1), (2, .int x2)]) hx hb dX10_choir_5 rfl hl (by decide) rfl (fun ls hl => ?_)
    refine lv_aload_nN hx hb dX10_choir_6 rfl (lv_at hl 0 rfl) ?_
    refine lv_ifnonnullN hx hb dX10_choir_7 ?_
    refine lv_iconst (v := (-1 : Int32)) hx hb dX10_choir_10 (by decide) ?_
    exact zret_i zc hw dX10_choir_11
  by_cases hc1 : r_1 = 1
  · have hw := hw.2.1 hc1
    refine W.eq (g2 := F0 m 5 ls (.ref (qx + 45) :: [])) (by simp [hc0, hc1]) ?_
    refine lv_astore_n (lv' := [(3, .ref (qx + 45)), (0, .ref qx), (1, .int x1), (2, .int x2)]) hx hb dX10_choir_5 rfl hl (by decide) rfl (fun ls hl => ?_)
    refine lv_aload_n hx hb dX10_choir_6 rfl (lv_at hl 0 rfl) ?_
    refine lv_ifnonnull (tgt := 12) hx hb dX10_choir_7 (by decide) ?_
    refine lv_iload_n hx hb dX10_choir_12 rfl (lv_at hl 3 rfl) ?_
    refine lv_iconst (v := (2 : Int32)) hx hb dX10_choir_13 (by decide) ?_
    refine lv_icmp_ne (tgt := 28) hx hb dX10_choir_14 (by decide) (fun hc => ?_) (fun hc => ?_)
    · have hw := hw.1 hc
      refine lv_aload_n hx hb dX10_choir_28 rfl (lv_at hl 0 rfl) ?_
      refine lv_iload_n hx hb dX10_choir_29 rfl (lv_at hl 3 rfl) ?_
      exact hw.elim
    · have hw := hw.2 hc
      refine lv_aload_n hx hb dX10_choir_17 rfl (lv_at hl 1 rfl) ?_
      refine wxg_10_44_0 zc hK hM dX10_choir_18 ?_
      refine lv_aload_n hx hb dX10_choir_21 rfl (lv_at hl 0 rfl) ?_
      exact hw.elim
  have hw := hw.2.2 hc0 hc1
  refine W.eq (g2 := F0 m 5 ls (.ref (qx + 42) :: [])) (by simp [hc0, hc1]) ?_
  refine lv_astore_n (lv' := [(3, .ref (qx + 42)), (0, .ref qx), (1, .int x1), (2, .int x2)]) hx hb dX10_choir_5 rfl hl (by decide) rfl (fun ls hl => ?_)
  refine lv_aload_n hx hb dX10_choir_6 rfl (lv_at hl 0 rfl) ?_
  refine lv_ifnonnull (tgt := 12) hx hb dX10_choir_7 (by decide) ?_
  refine lv_iload_n hx hb dX10_choir_12 rfl (lv_at hl 3 rfl) ?_
  refine lv_iconst (v := (2 : Int32)) hx hb dX10_choir_13 (by decide) ?_
  refine lv_icmp_ne (tgt := 28) hx hb dX10_choir_14 (by decide) (fun hc => ?_) (fun hc => ?_)
  · have hw := hw.1 hc
    refine lv_aload_n hx hb dX10_choir_28 rfl (lv_at hl 0 rfl) ?_
    refine lv_iload_n hx hb dX10_choir_29 rfl (lv_at hl 3 rfl) ?_
    exact hw.elim
  · have hw := hw.2 hc
    refine lv_aload_n hx hb dX10_choir_17 rfl (lv_at hl 1 rfl) ?_
    refine wxg_10_44_0 zc hK hM dX10_choir_18 ?_
    refine lv_aload_n hx hb dX10_choir_21 rfl (lv_at hl 0 rfl) ?_
    exact hw.elim
set_option maxRecDepth 20000 in
theorem c_wx_X10_choir (l : Launch) {E : zE} {qx : Nat} {ta_tape : Nat → Int32} {tf_length : Int32} {tf_fault : Int32} {tf_place : Int32} {ta_counts : Nat → Int32} {tl0f_huts : Int32} {tl0f_singers : Int32} {tl0f_villages : Int32} {tl0f_dams : Int32} {tl0f_echoes : Int32} {tl0f_deep : Int32} {tl0f_slide : Int32} {tl0a_heights : Nat → Int32} {tl0a_ladders : Nat → Int32} {tl0a_minutes : Nat → Int32} {tl0a_echoFrom : Nat → Int32} {tl0a_echoTo : Nat → Int32} {tl0a_homes : Nat → Int32} {tl0a_talls : Nat → Int32} {tl0a_known : Nat → Int32} {tl1f_huts : Int32} {tl1f_singers : Int32} {tl1f_villages : Int32} {tl1f_dams : Int32} {tl1f_echoes : Int32} {tl1f_deep : Int32} {tl1f_slide : Int32} {tl1a_heights : Nat → Int32} {tl1a_ladders : Nat → Int32} {tl1a_minutes : Nat → Int32} {tl1a_echoFrom : Nat → Int32} {tl1a_echoTo : Nat → Int32} {tl1a_homes : Nat → Int32} {tl1a_talls : Nat → Int32} {tl1a_known : Nat → Int32} {tv0f_deeds : Int32} {tv0a_kinds : Nat → Int32} {tv0a_firsts : Nat → Int32} {tv0a_seconds : Nat → Int32} {tv1f_deeds : Int32} {tv1a_kinds : Nat → Int32} {tv1a_firsts : Nat → Int32} {tv1a_seconds : Nat → Int32} {ts0f_facts : Int32} {ts0a_heard : Nat → Int32} {ts0a_huts : Nat → Int32} {ts0a_minutes : Nat → Int32} {ts1f_facts : Int32} {ts1a_heard : Nat → Int32} {ts1a_huts : Nat → Int32} {ts1a_minutes : Nat → Int32} {tc0f_voices : Int32} {tc0f_step : Int32} {tc0a_parts : Nat → Int32} {tc0a_heights : Nat → Int32} {tc1f_voices : Int32} {tc1f_step : Int32} {tc1a_parts : Nat → Int32} {tc1a_heights : Nat → Int32} {m_images : Nat → Option Nat} {rlf_huts : Int32} {rlf_singers : Int32} {rlf_villages : Int32} {rlf_dams : Int32} {rlf_echoes : Int32} {rlf_deep : Int32} {rlf_slide : Int32} {rla_heights : Nat → Int32} {rla_ladders : Nat → Int32} {rla_minutes : Nat → Int32} {rla_echoFrom : Nat → Int32} {rla_echoTo : Nat → Int32} {rla_homes : Nat → Int32} {rla_talls : Nat → Int32} {rla_known : Nat → Int32} {rvf_deeds : Int32} {rva_kinds : Nat → Int32} {rva_firsts : Nat → Int32} {rva_seconds : Nat → Int32} {rsf_facts : Int32} {rsa_heard : Nat → Int32} {rsa_huts : Nat → Int32} {rsa_minutes : Nat → Int32} {rcf_voices : Int32} {rcf_step : Int32} {rca_parts : Nat → Int32} {rca_heights : Nat → Int32} {rf_fault : Int32} {rf_faultPlace : Int32} {ra_numbers : Nat → Int32} {ra_tape : Nat → Int32} {rf_length : Int32} {rf_behind : Int32} {rf_kind : Int32} {rf_first : Int32} {rf_value : Int32} {rf_hutsToldOf : Int32} {rf_singersToldOf : Int32} {nf_minute : Int32} {nf_avalanches : Int32} {nf_begun : Int32} {nf_climbed : Int32} {nf_seed : Int32} {na_huts : Nat → Int32} {na_known : Nat → Int32} {na_levels : Nat → Int32} {na_snow : Nat → Int32} {na_open : Nat → Int32} {pa_heard : Nat → Int32} {pa_walked : Nat → Int32} {pa_total : Nat → Int32} {pa_longest : Nat → Int32} {pa_next : Nat → Int32} {pa_cover : Nat → Int32} {pa_now : Nat → Int32} {pa_then : Nat → Int32} {ko_stands : Option Nat} {ka_gaps : Nat → Int32} {ka_behind : Nat → Int32} {ba_less : Nat → Int32} {ba_full : Nat → Int32} {x1 : Int32} {x2 : Int32} {post : Int32 → Prop} (hw : q_wx_X10_choir_0 ta_counts x1 x2 post) : Met l yX10_choir (Cond.code yX10_choir cX10_choir 4 (some .int) :: zb) rm_wx_X10_choir (va_Pc [.ref qx, .int x1, .int x2] (fun U => wxW E qx ta_tape tf_length tf_fault tf_place ta_counts tl0f_huts tl0f_singers tl0f_villages tl0f_dams tl0f_echoes tl0f_deep tl0f_slide tl0a_heights tl0a_ladders tl0a_minutes tl0a_echoFrom tl0a_echoTo tl0a_homes tl0a_talls tl0a_known tl1f_huts tl1f_singers tl1f_villages tl1f_dams tl1f_echoes tl1f_deep tl1f_slide tl1a_heights tl1a_ladders tl1a_minutes tl1a_echoFrom tl1a_echoTo tl1a_homes tl1a_talls tl1a_known tv0f_deeds tv0a_kinds tv0a_firsts tv0a_seconds tv1f_deeds tv1a_kinds tv1a_firsts tv1a_seconds ts0f_facts ts0a_heard ts0a_huts ts0a_minutes ts1f_facts ts1a_heard ts1a_huts ts1a_minutes tc0f_voices tc0f_step tc0a_parts tc0a_heights tc1f_voices tc1f_step tc1a_parts tc1a_heights m_images rlf_huts rlf_singers rlf_villages rlf_dams rlf_echoes rlf_deep rlf_slide rla_heights rla_ladders rla_minutes rla_echoFrom rla_echoTo rla_homes rla_talls rla_known rvf_deeds rva_kinds rva_firsts rva_seconds rsf_facts rsa_heard rsa_huts rsa_minutes rcf_voices rcf_step rca_parts rca_heights rf_fault rf_faultPlace ra_numbers ra_tape rf_length rf_behind rf_kind rf_first rf_value rf_hutsToldOf rf_singersToldOf nf_minute nf_avalanches nf_begun nf_climbed nf_seed na_huts na_known na_levels na_snow na_open pa_heard pa_walked pa_total pa_longest pa_next pa_cover pa_now pa_then ko_stands ka_gaps ka_behind ba_less ba_full U.heap ∧ zK E U)) (vp_Si post) 0 0 (fun _ => False) := by
  refine Met.ofW (cc := cX10_choir) (maxL := 4) (ret := (some .int)) (by decide) rfl ?_
  intro p e s m args below meth c s₁ B hml hv
  obtain ⟨rfl, hM, hK⟩ := hv
  have zc := zc_of B hml
  have hl := lv_entry ([.ref qx, .int x1, .int x2]) (n := 4) (Nat.le_of_ble_eq_true rfl)
  rw [lg_entry_eq]
  generalize (lg_sl ([.ref qx, .int x1, .int x2]) ++ List.replicate (4 - (lg_sl ([.ref qx, .int x1, .int x2])).length) Slot.unset).toArray = ls at hl ⊢
  have hl : lv_has ls 4 [(0, .ref qx), (1, .int x1), (2, .int x2)] := hl
  exact t_wx_X10_choir_0 zc hK hM (lv_sub hl [0, 1, 2] rfl) hw
-- wx_X10_orders
abbrev rm_wx_X10_orders : Room := { frames := 1, cells := 0, slots := 0, locals := 21 }
def q_wx_X10_orders_0 (ta_counts : Nat → Int32) (x1 : Int32) (post : Int64 → Prop) : Prop :=
  q_wx_X10_choirAt_0 ta_counts x1 (fun r_1 => (r_1 = 0 → (post (-1 : Int64))) ∧ (r_1 = 1 → False) ∧ (¬ r_1 = 0 → ¬ r_1 = 1 → False))
set_option maxRecDepth 20000 in
theorem t_wx_X10_orders_0 {p : Program} {l : Launch} {e : Env} {s : State} {m : MethodId} {args : Array Value} {below : List Frame} {meth : Method} {c : Code} {E : zE} {qx : Nat} {ta_tape : Nat → Int32} {tf_length : Int32} {tf_fault : Int32} {tf_place : Int32} {ta_counts : Nat → Int32} {tl0f_huts : Int32} {tl0f_singers : Int32} {tl0f_villages : Int32} {tl0f_dams : Int32} {tl0f_echoes : Int32} {tl0f_deep : Int32} {tl0f_slide : Int32} {tl0a_heights : Nat → Int32} {tl0a_ladders : Nat → Int32} {tl0a_minutes : Nat → Int32} {tl0a_echoFrom : Nat → Int32} {tl0a_echoTo : Nat → Int32} {tl0a_homes : Nat → Int32} {tl0a_talls : Nat → Int32} {tl0a_known : Nat → Int32} {tl1f_huts : Int32} {tl1f_singers : Int32} {tl1f_villages : Int32} {tl1f_dams : Int32} {tl1f_echoes : Int32} {tl1f_deep : Int32} {tl1f_slide : Int32} {tl1a_heights : Nat → Int32} {tl1a_ladders : Nat → Int32} {tl1a_minutes : Nat → Int32} {tl1a_echoFrom : Nat → Int32} {tl1a_echoTo : Nat → Int32} {tl1a_homes : Nat → Int32} {tl1a_talls : Nat → Int32} {tl1a_known : Nat → Int32} {tv0f_deeds : Int32} {tv0a_kinds : Nat → Int32} {tv0a_firsts : Nat → Int32} {tv0a_seconds : Nat → Int32} {tv1f_deeds : Int32} {tv1a_kinds : Nat → Int32} {tv1a_firsts : Nat → Int32} {tv1a_seconds : Nat → Int32} {ts0f_facts : Int32} {ts0a_heard : Nat → Int32} {ts0a_huts : Nat → Int32} {ts0a_minutes : Nat → Int32} {ts1f_facts : Int32} {ts1a_heard : Nat → Int32} {ts1a_huts : Nat → Int32} {ts1a_minutes : Nat → Int32} {tc0f_voices : Int32} {tc0f_step : Int32} {tc0a_parts : Nat → Int32} {tc0a_heights : Nat → Int32} {tc1f_voices : Int32} {tc1f_step : Int32} {tc1a_parts : Nat → Int32} {tc1a_heights : Nat → Int32} {m_images : Nat → Option Nat} {rlf_huts : Int32} {rlf_singers : Int32} {rlf_villages : Int32} {rlf_dams : Int32} {rlf_echoes : Int32} {rlf_deep : Int32} {rlf_slide : Int32} {rla_heights : Nat → Int32} {rla_ladders : Nat → Int32} {rla_minutes : Nat → Int32} {rla_echoFrom : Nat → Int32} {rla_echoTo : Nat → Int32} {rla_homes : Nat → Int32} {rla_talls : Nat → Int32} {rla_known : Nat → Int32} {rvf_deeds : Int32} {rva_kinds : Nat → Int32} {rva_firsts : Nat → Int32} {rva_seconds : Nat → Int32} {rsf_facts : Int32} {rsa_heard : Nat → Int32} {rsa_huts : Nat → Int32} {rsa_minutes : Nat → Int32} {rcf_voices : Int32} {rcf_step : Int32} {rca_parts : Nat → Int32} {rca_heights : Nat → Int32} {rf_fault : Int32} {rf_faultPlace : Int32} {ra_numbers : Nat → Int32} {ra_tape : Nat → Int32} {rf_length : Int32} {rf_behind : Int32} {rf_kind : Int32} {rf_first : Int32} {rf_value : Int32} {rf_hutsToldOf : Int32} {rf_singersToldOf : Int32} {nf_minute : Int32} {nf_avalanches : Int32} {nf_begun : Int32} {nf_climbed : Int32} {nf_seed : Int32} {na_huts : Nat → Int32} {na_known : Nat → Int32} {na_levels : Nat → Int32} {na_snow : Nat → Int32} {na_open : Nat → Int32} {pa_heard : Nat → Int32} {pa_walked : Nat → Int32} {pa_total : Nat → Int32} {pa_longest : Nat → Int32} {pa_next : Nat → Int32} {pa_cover : Nat → Int32} {pa_now : Nat → Int32} {pa_then : Nat → Int32} {ko_stands : Option Nat} {ka_gaps : Nat → Int32} {ka_behind : Nat → Int32} {ba_less : Nat → Int32} {ba_full : Nat → Int32} {post : Int64 → Prop} {x1 : Int32} {ls : Array Slot}
    (zc : zC p s m args meth c cX10_orders 3 RX10 (some .long))
    (hK : zK E s)
    (hM : wxW E qx ta_tape tf_length tf_fault tf_place ta_counts tl0f_huts tl0f_singers tl0f_villages tl0f_dams tl0f_echoes tl0f_deep tl0f_slide tl0a_heights tl0a_ladders tl0a_minutes tl0a_echoFrom tl0a_echoTo tl0a_homes tl0a_talls tl0a_known tl1f_huts tl1f_singers tl1f_villages tl1f_dams tl1f_echoes tl1f_deep tl1f_slide tl1a_heights tl1a_ladders tl1a_minutes tl1a_echoFrom tl1a_echoTo tl1a_homes tl1a_talls tl1a_known tv0f_deeds tv0a_kinds tv0a_firsts tv0a_seconds tv1f_deeds tv1a_kinds tv1a_firsts tv1a_seconds ts0f_facts ts0a_heard ts0a_huts ts0a_minutes ts1f_facts ts1a_heard ts1a_huts ts1a_minutes tc0f_voices tc0f_step tc0a_parts tc0a_heights tc1f_voices tc1f_step tc1a_parts tc1a_heights m_images rlf_huts rlf_singers rlf_villages rlf_dams rlf_echoes rlf_deep rlf_slide rla_heights rla_ladders rla_minutes rla_echoFrom rla_echoTo rla_homes rla_talls rla_known rvf_deeds rva_kinds rva_firsts rva_seconds rsf_facts rsa_heard rsa_huts rsa_minutes rcf_voices rcf_step rca_parts rca_heights rf_fault rf_faultPlace ra_numbers ra_tape rf_length rf_behind rf_kind rf_first rf_value rf_hutsToldOf rf_singersToldOf nf_minute nf_avalanches nf_begun nf_climbed nf_seed na_huts na_known na_levels na_snow na_open pa_heard pa_walked pa_total pa_longest pa_next pa_cover pa_now pa_then ko_stands ka_gaps ka_behind ba_less ba_full s.heap)
    (hl : lv_has ls 3 [(0, .ref qx), (1, .int x1)])
    (hw : q_wx_X10_orders_0 ta_counts x1 post) :
    W p l e rm_wx_X10_orders s m args below meth c s.heap [] 0 0 (MQ below (vp_Sl post) args s 0 0 (fun _ => False)) (F0 m 0 ls []) := by
  have hx := zc.1
  have hb := zc.2.1
  refine lv_aload_n hx hb dX10_orders_0 rfl (lv_at hl 0 rfl) ?_
  refine lv_iload_n hx hb dX10_orders_1 rfl (lv_at hl 1 rfl) ?_
  refine zV_r [.int x1] [] zc ky_X10_choirAt kz_X10_choirAt km_10_219 (c_wx_X10_choirAt l hw) (wxPreV0 hK hM) rfl rfl hl.1 (Nat.le_of_ble_eq_true rfl) ⟨rfl, rfl⟩ ⟨Nat.le_of_ble_eq_true rfl, Nat.le_of_ble_eq_true rfl⟩ ⟨Nat.zero_le _, Nat.zero_le _⟩ dX10_orders_2 (fun r_1 hw => ?_)
  by_cases hc0 : r_1 = 0
  · have hw := hw.1 hc0
    refine W.eq (g2 := F0 m 5 ls (.null :: [])) (by simp [hc0]) ?_
    refine lv_astore_nN (lv' := [(2, .null), (0, .ref qx), (1, .int x1)]) hx hb dX10_orders_5 rfl hl (by decide) rfl (fun ls hl => ?_)
    refine lv_aload_nN hx hb dX10_orders_6 rfl (lv_at hl 0 rfl) ?_
    refine lv_ifnonnullN hx hb dX10_orders_7 ?_
    refine lv_ldc2 (v := (-1 : Int64)) hx hb zc.2.2.2.1 (zc.2.2.2.2.1 _ kc_10_230) dX10_orders_10 ?_
    exact zret_l zc hw dX10_orders_13
  by_cases hc1 : r_1 = 1
  · have hw := hw.2.1 hc1
    refine W.eq (g2 := F0 m 5 ls (.ref (qx + 45) :: [])) (by simp [hc0, hc1]) ?_
    refine lv_astore_n (lv' := [(2, .ref (qx + 45)), (0, .ref qx), (1, .int x1)]) hx hb dX10_orders_5 rfl hl (by decide) rfl (fun ls hl => ?_)
    refine lv_aload_n hx hb dX10_orders_6 rfl (lv_at hl 0 rfl) ?_
    refine lv_ifnonnull (tgt := 14) hx hb dX10_orders_7 (by decide) ?_
    refine lv_aload_n hx hb dX10_orders_14 rfl (lv_at hl 1 rfl) ?_
    refine wxg_10_44_0 zc hK hM dX10_orders_15 ?_
    refine lv_aload_n hx hb dX10_orders_18 rfl (lv_at hl 0 rfl) ?_
    exact hw.elim
  have hw := hw.2.2 hc0 hc1
  refine W.eq (g2 := F0 m 5 ls (.ref (qx + 42) :: [])) (by simp [hc0, hc1]) ?_
  refine lv_astore_n (lv' := [(2, .ref (qx + 42)), (0, .ref qx), (1, .int x1)]) hx hb dX10_orders_5 rfl hl (by decide) rfl (fun ls hl => ?_)
  refine lv_aload_n hx hb dX10_orders_6 rfl (lv_at hl 0 rfl) ?_
  refine lv_ifnonnull (tgt := 14) hx hb dX10_orders_7 (by decide) ?_
  refine lv_aload_n hx hb dX10_orders_14 rfl (lv_at hl 1 rfl) ?_
  refine wxg_10_44_0 zc hK hM dX10_orders_15 ?_
  refine lv_aload_n hx hb dX10_orders_18 rfl (lv_at hl 0 rfl) ?_
  exact hw.elim
set_option maxRecDepth 20000 in
theorem c_wx_X10_orders (l : Launch) {E : zE} {qx : Nat} {ta_tape : Nat → Int32} {tf_length : Int32} {tf_fault : Int32} {tf_place : Int32} {ta_counts : Nat → Int32} {tl0f_huts : Int32} {tl0f_singers : Int32} {tl0f_villages : Int32} {tl0f_dams : Int32} {tl0f_echoes : Int32} {tl0f_deep : Int32} {tl0f_slide : Int32} {tl0a_heights : Nat → Int32} {tl0a_ladders : Nat → Int32} {tl0a_minutes : Nat → Int32} {tl0a_echoFrom : Nat → Int32} {tl0a_echoTo : Nat → Int32} {tl0a_homes : Nat → Int32} {tl0a_talls : Nat → Int32} {tl0a_known : Nat → Int32} {tl1f_huts : Int32} {tl1f_singers : Int32} {tl1f_villages : Int32} {tl1f_dams : Int32} {tl1f_echoes : Int32} {tl1f_deep : Int32} {tl1f_slide : Int32} {tl1a_heights : Nat → Int32} {tl1a_ladders : Nat → Int32} {tl1a_minutes : Nat → Int32} {tl1a_echoFrom : Nat → Int32} {tl1a_echoTo : Nat → Int32} {tl1a_homes : Nat → Int32} {tl1a_talls : Nat → Int32} {tl1a_known : Nat → Int32} {tv0f_deeds : Int32} {tv0a_kinds : Nat → Int32} {tv0a_firsts : Nat → Int32} {tv0a_seconds : Nat → Int32} {tv1f_deeds : Int32} {tv1a_kinds : Nat → Int32} {tv1a_firsts : Nat → Int32} {tv1a_seconds : Nat → Int32} {ts0f_facts : Int32} {ts0a_heard : Nat → Int32} {ts0a_huts : Nat → Int32} {ts0a_minutes : Nat → Int32} {ts1f_facts : Int32} {ts1a_heard : Nat → Int32} {ts1a_huts : Nat → Int32} {ts1a_minutes : Nat → Int32} {tc0f_voices : Int32} {tc0f_step : Int32} {tc0a_parts : Nat → Int32} {tc0a_heights : Nat → Int32} {tc1f_voices : Int32} {tc1f_step : Int32} {tc1a_parts : Nat → Int32} {tc1a_heights : Nat → Int32} {m_images : Nat → Option Nat} {rlf_huts : Int32} {rlf_singers : Int32} {rlf_villages : Int32} {rlf_dams : Int32} {rlf_echoes : Int32} {rlf_deep : Int32} {rlf_slide : Int32} {rla_heights : Nat → Int32} {rla_ladders : Nat → Int32} {rla_minutes : Nat → Int32} {rla_echoFrom : Nat → Int32} {rla_echoTo : Nat → Int32} {rla_homes : Nat → Int32} {rla_talls : Nat → Int32} {rla_known : Nat → Int32} {rvf_deeds : Int32} {rva_kinds : Nat → Int32} {rva_firsts : Nat → Int32} {rva_seconds : Nat → Int32} {rsf_facts : Int32} {rsa_heard : Nat → Int32} {rsa_huts : Nat → Int32} {rsa_minutes : Nat → Int32} {rcf_voices : Int32} {rcf_step : Int32} {rca_parts : Nat → Int32} {rca_heights : Nat → Int32} {rf_fault : Int32} {rf_faultPlace : Int32} {ra_numbers : Nat → Int32} {ra_tape : Nat → Int32} {rf_length : Int32} {rf_behind : Int32} {rf_kind : Int32} {rf_first : Int32} {rf_value : Int32} {rf_hutsToldOf : Int32} {rf_singersToldOf : Int32} {nf_minute : Int32} {nf_avalanches : Int32} {nf_begun : Int32} {nf_climbed : Int32} {nf_seed : Int32} {na_huts : Nat → Int32} {na_known : Nat → Int32} {na_levels : Nat → Int32} {na_snow : Nat → Int32} {na_open : Nat → Int32} {pa_heard : Nat → Int32} {pa_walked : Nat → Int32} {pa_total : Nat → Int32} {pa_longest : Nat → Int32} {pa_next : Nat → Int32} {pa_cover : Nat → Int32} {pa_now : Nat → Int32} {pa_then : Nat → Int32} {ko_stands : Option Nat} {ka_gaps : Nat → Int32} {ka_behind : Nat → Int32} {ba_less : Nat → Int32} {ba_full : Nat → Int32} {x1 : Int32} {post : Int64 → Prop} (hw : q_wx_X10_orders_0 ta_counts x1 post) : Met l yX10_orders (Cond.code yX10_orders cX10_orders 3 (some .long) :: zb) rm_wx_X10_orders (va_Pc [.ref qx, .int x1] (fun U => wxW E qx ta_tape tf_length tf_fault tf_place ta_counts tl0f_huts tl0f_singers tl0f_villages tl0f_dams tl0f_echoes tl0f_deep tl0f_slide tl0a_heights tl0a_ladders tl0a_minutes tl0a_echoFrom tl0a_echoTo tl0a_homes tl0a_talls tl0a_known tl1f_huts tl1f_singers tl1f_villages tl1f_dams tl1f_echoes tl1f_deep tl1f_slide tl1a_heights tl1a_ladders tl1a_minutes tl1a_echoFrom tl1a_echoTo tl1a_homes tl1a_talls tl1a_known tv0f_deeds tv0a_kinds tv0a_firsts tv0a_seconds tv1f_deeds tv1a_kinds tv1a_firsts tv1a_seconds ts0f_facts ts0a_heard ts0a_huts ts0a_minutes ts1f_facts ts1a_heard ts1a_huts ts1a_minutes tc0f_voices tc0f_step tc0a_parts tc0a_heights tc1f_voices tc1f_step tc1a_parts tc1a_heights m_images rlf_huts rlf_singers rlf_villages rlf_dams rlf_echoes rlf_deep rlf_slide rla_heights rla_ladders rla_minutes rla_echoFrom rla_echoTo rla_homes rla_talls rla_known rvf_deeds rva_kinds rva_firsts rva_seconds rsf_facts rsa_heard rsa_huts rsa_minutes rcf_voices rcf_step rca_parts rca_heights rf_fault rf_faultPlace ra_numbers ra_tape rf_length rf_behind rf_kind rf_first rf_value rf_hutsToldOf rf_singersToldOf nf_minute nf_avalanches nf_begun nf_climbed nf_seed na_huts na_known na_levels na_snow na_open pa_heard pa_walked pa_total pa_longest pa_next pa_cover pa_now pa_then ko_stands ka_gaps ka_behind ba_less ba_full U.heap ∧ zK E U)) (vp_Sl post) 0 0 (fun _ => False) := by
  refine Met.ofW (cc := cX10_orders) (maxL := 3) (ret := (some .long)) (by decide) rfl ?_
  intro p e s m args below meth c s₁ B hml hv
  obtain ⟨rfl, hM, hK⟩ := hv
  have zc := zc_of B hml
  have hl := lv_entry ([.ref qx, .int x1]) (n := 3) (Nat.le_of_ble_eq_true rfl)
  rw [lg_entry_eq]
  generalize (lg_sl ([.ref qx, .int x1]) ++ List.replicate (3 - (lg_sl ([.ref qx, .int x1])).length) Slot.unset).toArray = ls at hl ⊢
  have hl : lv_has ls 3 [(0, .ref qx), (1, .int x1)] := hl
  exact t_wx_X10_orders_0 zc hK hM (lv_sub hl [0, 1] rfl) hw
-- wx_X10_order
abbrev rm_wx_X10_order : Room := { frames := 1, cells := 0, slots := 0, locals := 21 }
def q_wx_X10_order_0 (ta_counts : Nat → Int32) (tc0f_voices : Int32) (tc1f_voices : Int32) (x1 : Int32) (x2 : Int32) (post : Int32 → Prop) : Prop :=
  q_wx_X10_choirAt_0 ta_counts x1 (fun r_1 => (r_1 = 0 → (post (-1 : Int32))) ∧ (r_1 = 1 → ((x2 < 0 → (post (-1 : Int32))) ∧ (¬ x2 < 0 → ((x2 < tc1f_voices → False) ∧ (¬ x2 < tc1f_voices → (post (-1 : Int32))))))) ∧ (¬ r_1 = 0 → ¬ r_1 = 1 → ((x2 < 0 → (post (-1 : Int32))) ∧ (¬ x2 < 0 → ((x2 < tc0f_voices → False) ∧ (¬ x2 < tc0f_voices → (post (-1 : Int32))))))))
set_option maxRecDepth 20000 in
theorem t_wx_X10_order_0 {p : Program} {l : Launch} {e : Env} {s : State} {m : MethodId} {args : Array Value} {below : List Frame} {meth : Method} {c : Code} {E : zE} {qx : Nat} {ta_tape : Nat → Int32} {tf_length : Int32} {tf_fault : Int32} {tf_place : Int32} {ta_counts : Nat → Int32} {tl0f_huts : Int32} {tl0f_singers : Int32} {tl0f_villages : Int32} {tl0f_dams : Int32} {tl0f_echoes : Int32} {tl0f_deep : Int32} {tl0f_slide : Int32} {tl0a_heights : Nat → Int32} {tl0a_ladders : Nat → Int32} {tl0a_minutes : Nat → Int32} {tl0a_echoFrom : Nat → Int32} {tl0a_echoTo : Nat → Int32} {tl0a_homes : Nat → Int32} {tl0a_talls : Nat → Int32} {tl0a_known : Nat → Int32} {tl1f_huts : Int32} {tl1f_singers : Int32} {tl1f_villages : Int32} {tl1f_dams : Int32} {tl1f_echoes : Int32} {tl1f_deep : Int32} {tl1f_slide : Int32} {tl1a_heights : Nat → Int32} {tl1a_ladders : Nat → Int32} {tl1a_minutes : Nat → Int32} {tl1a_echoFrom : Nat → Int32} {tl1a_echoTo : Nat → Int32} {tl1a_homes : Nat → Int32} {tl1a_talls : Nat → Int32} {tl1a_known : Nat → Int32} {tv0f_deeds : Int32} {tv0a_kinds : Nat → Int32} {tv0a_firsts : Nat → Int32} {tv0a_seconds : Nat → Int32} {tv1f_deeds : Int32} {tv1a_kinds : Nat → Int32} {tv1a_firsts : Nat → Int32} {tv1a_seconds : Nat → Int32} {ts0f_facts : Int32} {ts0a_heard : Nat → Int32} {ts0a_huts : Nat → Int32} {ts0a_minutes : Nat → Int32} {ts1f_facts : Int32} {ts1a_heard : Nat → Int32} {ts1a_huts : Nat → Int32} {ts1a_minutes : Nat → Int32} {tc0f_voices : Int32} {tc0f_step : Int32} {tc0a_parts : Nat → Int32} {tc0a_heights : Nat → Int32} {tc1f_voices : Int32} {tc1f_step : Int32} {tc1a_parts : Nat → Int32} {tc1a_heights : Nat → Int32} {m_images : Nat → Option Nat} {rlf_huts : Int32} {rlf_singers : Int32} {rlf_villages : Int32} {rlf_dams : Int32} {rlf_echoes : Int32} {rlf_deep : Int32} {rlf_slide : Int32} {rla_heights : Nat → Int32} {rla_ladders : Nat → Int32} {rla_minutes : Nat → Int32} {rla_echoFrom : Nat → Int32} {rla_echoTo : Nat → Int32} {rla_homes : Nat → Int32} {rla_talls : Nat → Int32} {rla_known : Nat → Int32} {rvf_deeds : Int32} {rva_kinds : Nat → Int32} {rva_firsts : Nat → Int32} {rva_seconds : Nat → Int32} {rsf_facts : Int32} {rsa_heard : Nat → Int32} {rsa_huts : Nat → Int32} {rsa_minutes : Nat → Int32} {rcf_voices : Int32} {rcf_step : Int32} {rca_parts : Nat → Int32} {rca_heights : Nat → Int32} {rf_fault : Int32} {rf_faultPlace : Int32} {ra_numbers : Nat → Int32} {ra_tape : Nat → Int32} {rf_length : Int32} {rf_behind : Int32} {rf_kind : Int32} {rf_first : Int32} {rf_value : Int32} {rf_hutsToldOf : Int32} {rf_singersToldOf : Int32} {nf_minute : Int32} {nf_avalanches : Int32} {nf_begun : Int32} {nf_climbed : Int32} {nf_seed : Int32} {na_huts : Nat → Int32} {na_known : Nat → Int32} {na_levels : Nat → Int32} {na_snow : Nat → Int32} {na_open : Nat → Int32} {pa_heard : Nat → Int32} {pa_walked : Nat → Int32} {pa_total : Nat → Int32} {pa_longest : Nat → Int32} {pa_next : Nat → Int32} {pa_cover : Nat → Int32} {pa_now : Nat → Int32} {pa_then : Nat → Int32} {ko_stands : Option Nat} {ka_gaps : Nat → Int32} {ka_behind : Nat → Int32} {ba_less : Nat → Int32} {ba_full : Nat → Int32} {post : Int32 → Prop} {x1 : Int32} {x2 : Int32} {ls : Array Slot}
    (zc : zC p s m args meth c cX10_order 4 RX10 (some .int))
    (hK : zK E s)
    (hM : wxW E qx ta_tape tf_length tf_fault tf_place ta_counts tl0f_huts tl0f_singers tl0f_villages tl0f_dams tl0f_echoes tl0f_deep tl0f_slide tl0a_heights tl0a_ladders tl0a_minutes tl0a_echoFrom tl0a_echoTo tl0a_homes tl0a_talls tl0a_known tl1f_huts tl1f_singers tl1f_villages tl1f_dams tl1f_echoes tl1f_deep tl1f_slide tl1a_heights tl1a_ladders tl1a_minutes tl1a_echoFrom tl1a_echoTo tl1a_homes tl1a_talls tl1a_known tv0f_deeds tv0a_kinds tv0a_firsts tv0a_seconds tv1f_deeds tv1a_kinds tv1a_firsts tv1a_seconds ts0f_facts ts0a_heard ts0a_huts ts0a_minutes ts1f_facts ts1a_heard ts1a_huts ts1a_minutes tc0f_voices tc0f_step tc0a_parts tc0a_heights tc1f_voices tc1f_step tc1a_parts tc1a_heights m_images rlf_huts rlf_singers rlf_villages rlf_dams rlf_echoes rlf_deep rlf_slide rla_heights rla_ladders rla_minutes rla_echoFrom rla_echoTo rla_homes rla_talls rla_known rvf_deeds rva_kinds rva_firsts rva_seconds rsf_facts rsa_heard rsa_huts rsa_minutes rcf_voices rcf_step rca_parts rca_heights rf_fault rf_faultPlace ra_numbers ra_tape rf_length rf_behind rf_kind rf_first rf_value rf_hutsToldOf rf_singersToldOf nf_minute nf_avalanches nf_begun nf_climbed nf_seed na_huts na_known na_levels na_snow na_open pa_heard pa_walked pa_total pa_longest pa_next pa_cover pa_now pa_then ko_stands ka_gaps ka_behind ba_less ba_full s.heap)
    (hl : lv_has ls 4 [(0, .ref qx), (1, .int x1), (2, .int x2)])
    (hw : q_wx_X10_order_0 ta_counts tc0f_voices tc1f_voices x1 x2 post) :
    W p l e rm_wx_X10_order s m args below meth c s.heap [] 0 0 (MQ below (vp_Si post) args s 0 0 (fun _ => False)) (F0 m 0 ls []) := by
  have hx := zc.1
  have hb := zc.2.1
  refine lv_aload_n hx hb dX10_order_0 rfl (lv_at hl 0 rfl) ?_
  refine lv_iload_n hx hb dX10_order_1 rfl (lv_at hl 1 rfl) ?_
  refine zV_r [.int x1] [] zc ky_X10_choirAt kz_X10_choirAt km_10_219 (c_wx_X10_choirAt l hw) (wxPreV0 hK hM) rfl rfl hl.1 (Nat.le_of_ble_eq_true rfl) ⟨rfl, rfl⟩ ⟨Nat.le_of_ble_eq_true rfl, Nat.le_of_ble_eq_true rfl⟩ ⟨Nat.zero_le _, Nat.zero_le _⟩ dX10_order_2 (fun r_1 hw => ?_)
  by_cases hc0 : r_1 = 0
  · have hw := hw.1 hc0
    refine W.eq (g2 := F0 m 5 ls (.null :: [])) (by simp [hc0]) ?_
    refine lv_astore_nN (lv' := [(3, .null), (0, .ref qx), (1, .int x1), (2, .int x2)]) hx hb dX10_order_5 rfl hl (by decide) rfl (fun ls hl => ?_)
    refine lv_aload_nN hx hb dX10_order_6 rfl (lv_at hl 0 rfl) ?_
    refine lv_ifnullN (tgt := 22) hx hb dX10_order_7 (by decide) ?_
    refine lv_iconst (v := (-1 : Int32)) hx hb dX10_order_22 (by decide) ?_
    exact zret_i zc hw dX10_order_23
  by_cases hc1 : r_1 = 1
  · have hw := hw.2.1 hc1
    refine W.eq (g2 := F0 m 5 ls (.ref (qx + 45) :: [])) (by simp [hc0, hc1]) ?_
    refine lv_astore_n (lv' := [(3, .ref (qx + 45)), (0, .ref qx), (1, .int x1), (2, .int x2)]) hx hb dX10_order_5 rfl hl (by decide) rfl (fun ls hl => ?_)
    refine lv_aload_n hx hb dX10_order_6 rfl (lv_at hl 0 rfl) ?_
    refine lv_ifnull hx hb dX10_order_7 ?_
    refine lv_iload_n hx hb dX10_order_10 rfl (lv_at hl 3 rfl) ?_
    refine lv_if_lt (tgt := 22) hx hb dX10_order_11 (by decide) (fun hc => ?_) (fun hc => ?_)
    · have hw := hw.1 hc
      refine lv_iconst (v := (-1 : Int32)) hx hb dX10_order_22 (by decide) ?_
      exact zret_i zc hw dX10_order_23
    · have hw := hw.2 hc
      refine lv_iload_n hx hb dX10_order_14 rfl (lv_at hl 3 rfl) ?_
      refine lv_aload_n hx hb dX10_order_15 rfl (lv_at hl 0 rfl) ?_
      refine wxg_10_238_45 zc hK hM dX10_order_16 ?_
      refine lv_icmp_lt (tgt := 24) hx hb dX10_order_19 (by decide) (fun hc => ?_) (fun hc => ?_)
      · have hw := hw.1 hc
        refine lv_aload_n hx hb dX10_order_24 rfl (lv_at hl 1 rfl) ?_
        refine wxg_10_44_0 zc hK hM dX10_order_25 ?_
        refine lv_aload_n hx hb dX10_order_28 rfl (lv_at hl 0 rfl) ?_
        exact hw.elim
      · have hw := hw.2 hc
        refine lv_iconst (v := (-1 : Int32)) hx hb dX10_order_22 (by decide) ?_
        exact zret_i zc hw dX10_order_23
  have hw := hw.2.2 hc0 hc1
  refine W.eq (g2 := F0 m 5 ls (.ref (qx + 42) :: [])) (by simp [hc0, hc1]) ?_
  refine lv_astore_n (lv' := [(3, .ref (qx + 42)), (0, .ref qx), (1, .int x1), (2, .int x2)]) hx hb dX10_order_5 rfl hl (by decide) rfl (fun ls hl => ?_)
  refine lv_aload_n hx hb dX10_order_6 rfl (lv_at hl 0 rfl) ?_
  refine lv_ifnull hx hb dX10_order_7 ?_
  refine lv_iload_n hx hb dX10_order_10 rfl (lv_at hl 3 rfl) ?_
  refine lv_if_lt (tgt := 22) hx hb dX10_order_11 (by decide) (fun hc => ?_) (fun hc => ?_)
  · have hw := hw.1 hc
    refine lv_iconst (v := (-1 : Int32)) hx hb dX10_order_22 (by decide) ?_
    exact zret_i zc hw dX10_order_23
  · have hw := hw.2 hc
    refine lv_iload_n hx hb dX10_order_14 rfl (lv_at hl 3 rfl) ?_
    refine lv_aload_n hx hb dX10_order_15 rfl (lv_at hl 0 rfl) ?_
    refine wxg_10_238_42 zc hK hM dX10_order_16 ?_
    refine lv_icmp_lt (tgt := 24) hx hb dX10_order_19 (by decide) (fun hc => ?_) (fun hc => ?_)
    · have hw := hw.1 hc
      refine lv_aload_n hx hb dX10_order_24 rfl (lv_at hl 1 rfl) ?_
      refine wxg_10_44_0 zc hK hM dX10_order_25 ?_
      refine lv_aload_n hx hb dX10_order_28 rfl (lv_at hl 0 rfl) ?_
      exact hw.elim
    · have hw := hw.2 hc
      refine lv_iconst (v := (-1 : Int32)) hx hb dX10_order_22 (by decide) ?_
      exact zret_i zc hw dX10_order_23
set_option maxRecDepth 20000 in
theorem c_wx_X10_order (l : Launch) {E : zE} {qx : Nat} {ta_tape : Nat → Int32} {tf_length : Int32} {tf_fault : Int32} {tf_place : Int32} {ta_counts : Nat → Int32} {tl0f_huts : Int32} {tl0f_singers : Int32} {tl0f_villages : Int32} {tl0f_dams : Int32} {tl0f_echoes : Int32} {tl0f_deep : Int32} {tl0f_slide : Int32} {tl0a_heights : Nat → Int32} {tl0a_ladders : Nat → Int32} {tl0a_minutes : Nat → Int32} {tl0a_echoFrom : Nat → Int32} {tl0a_echoTo : Nat → Int32} {tl0a_homes : Nat → Int32} {tl0a_talls : Nat → Int32} {tl0a_known : Nat → Int32} {tl1f_huts : Int32} {tl1f_singers : Int32} {tl1f_villages : Int32} {tl1f_dams : Int32} {tl1f_echoes : Int32} {tl1f_deep : Int32} {tl1f_slide : Int32} {tl1a_heights : Nat → Int32} {tl1a_ladders : Nat → Int32} {tl1a_minutes : Nat → Int32} {tl1a_echoFrom : Nat → Int32} {tl1a_echoTo : Nat → Int32} {tl1a_homes : Nat → Int32} {tl1a_talls : Nat → Int32} {tl1a_known : Nat → Int32} {tv0f_deeds : Int32} {tv0a_kinds : Nat → Int32} {tv0a_firsts : Nat → Int32} {tv0a_seconds : Nat → Int32} {tv1f_deeds : Int32} {tv1a_kinds : Nat → Int32} {tv1a_firsts : Nat → Int32} {tv1a_seconds : Nat → Int32} {ts0f_facts : Int32} {ts0a_heard : Nat → Int32} {ts0a_huts : Nat → Int32} {ts0a_minutes : Nat → Int32} {ts1f_facts : Int32} {ts1a_heard : Nat → Int32} {ts1a_huts : Nat → Int32} {ts1a_minutes : Nat → Int32} {tc0f_voices : Int32} {tc0f_step : Int32} {tc0a_parts : Nat → Int32} {tc0a_heights : Nat → Int32} {tc1f_voices : Int32} {tc1f_step : Int32} {tc1a_parts : Nat → Int32} {tc1a_heights : Nat → Int32} {m_images : Nat → Option Nat} {rlf_huts : Int32} {rlf_singers : Int32} {rlf_villages : Int32} {rlf_dams : Int32} {rlf_echoes : Int32} {rlf_deep : Int32} {rlf_slide : Int32} {rla_heights : Nat → Int32} {rla_ladders : Nat → Int32} {rla_minutes : Nat → Int32} {rla_echoFrom : Nat → Int32} {rla_echoTo : Nat → Int32} {rla_homes : Nat → Int32} {rla_talls : Nat → Int32} {rla_known : Nat → Int32} {rvf_deeds : Int32} {rva_kinds : Nat → Int32} {rva_firsts : Nat → Int32} {rva_seconds : Nat → Int32} {rsf_facts : Int32} {rsa_heard : Nat → Int32} {rsa_huts : Nat → Int32} {rsa_minutes : Nat → Int32} {rcf_voices : Int32} {rcf_step : Int32} {rca_parts : Nat → Int32} {rca_heights : Nat → Int32} {rf_fault : Int32} {rf_faultPlace : Int32} {ra_numbers : Nat → Int32} {ra_tape : Nat → Int32} {rf_length : Int32} {rf_behind : Int32} {rf_kind : Int32} {rf_first : Int32} {rf_value : Int32} {rf_hutsToldOf : Int32} {rf_singersToldOf : Int32} {nf_minute : Int32} {nf_avalanches : Int32} {nf_begun : Int32} {nf_climbed : Int32} {nf_seed : Int32} {na_huts : Nat → Int32} {na_known : Nat → Int32} {na_levels : Nat → Int32} {na_snow : Nat → Int32} {na_open : Nat → Int32} {pa_heard : Nat → Int32} {pa_walked : Nat → Int32} {pa_total : Nat → Int32} {pa_longest : Nat → Int32} {pa_next : Nat → Int32} {pa_cover : Nat → Int32} {pa_now : Nat → Int32} {pa_then : Nat → Int32} {ko_stands : Option Nat} {ka_gaps : Nat → Int32} {ka_behind : Nat → Int32} {ba_less : Nat → Int32} {ba_full : Nat → Int32} {x1 : Int32} {x2 : Int32} {post : Int32 → Prop} (hw : q_wx_X10_order_0 ta_counts tc0f_voices tc1f_voices x1 x2 post) : Met l yX10_order (Cond.code yX10_order cX10_order 4 (some .int) :: zb) rm_wx_X10_order (va_Pc [.ref qx, .int x1, .int x2] (fun U => wxW E qx ta_tape tf_length tf_fault tf_place ta_counts tl0f_huts tl0f_singers tl0f_villages tl0f_dams tl0f_echoes tl0f_deep tl0f_slide tl0a_heights tl0a_ladders tl0a_minutes tl0a_echoFrom tl0a_echoTo tl0a_homes tl0a_talls tl0a_known tl1f_huts tl1f_singers tl1f_villages tl1f_dams tl1f_echoes tl1f_deep tl1f_slide tl1a_heights tl1a_ladders tl1a_minutes tl1a_echoFrom tl1a_echoTo tl1a_homes tl1a_talls tl1a_known tv0f_deeds tv0a_kinds tv0a_firsts tv0a_seconds tv1f_deeds tv1a_kinds tv1a_firsts tv1a_seconds ts0f_facts ts0a_heard ts0a_huts ts0a_minutes ts1f_facts ts1a_heard ts1a_huts ts1a_minutes tc0f_voices tc0f_step tc0a_parts tc0a_heights tc1f_voices tc1f_step tc1a_parts tc1a_heights m_images rlf_huts rlf_singers rlf_villages rlf_dams rlf_echoes rlf_deep rlf_slide rla_heights rla_ladders rla_minutes rla_echoFrom rla_echoTo rla_homes rla_talls rla_known rvf_deeds rva_kinds rva_firsts rva_seconds rsf_facts rsa_heard rsa_huts rsa_minutes rcf_voices rcf_step rca_parts rca_heights rf_fault rf_faultPlace ra_numbers ra_tape rf_length rf_behind rf_kind rf_first rf_value rf_hutsToldOf rf_singersToldOf nf_minute nf_avalanches nf_begun nf_climbed nf_seed na_huts na_known na_levels na_snow na_open pa_heard pa_walked pa_total pa_longest pa_next pa_cover pa_now pa_then ko_stands ka_gaps ka_behind ba_less ba_full U.heap ∧ zK E U)) (vp_Si post) 0 0 (fun _ => False) := by
  refine Met.ofW (cc := cX10_order) (maxL := 4) (ret := (some .int)) (by decide) rfl ?_
  intro p e s m args below meth c s₁ B hml hv
  obtain ⟨rfl, hM, hK⟩ := hv
  have zc := zc_of B hml
  have hl := lv_entry ([.ref qx, .int x1, .int x2]) (n := 4) (Nat.le_of_ble_eq_true rfl)
  rw [lg_entry_eq]
  generalize (lg_sl ([.ref qx, .int x1, .int x2]) ++ List.replicate (4 - (lg_sl ([.ref qx, .int x1, .int x2])).length) Slot.unset).toArray = ls at hl ⊢
  have hl : lv_has ls 4 [(0, .ref qx), (1, .int x1), (2, .int x2)] := hl
  exact t_wx_X10_order_0 zc hK hM (lv_sub hl [0, 1, 2] rfl) hw
-- wx_X10_trade
abbrev rm_wx_X10_trade : Room := { frames := 2, cells := 0, slots := 0, locals := 65 }
def q_wx_X10_trade_0 (ba_less : Nat → Int32) (ba_full : Nat → Int32) (x1 : Int32) (x2 : Int32) (x3 : Int32) (x4 : Int32) (post : Int32 → (Nat → Int32) → (Nat → Int32) → Prop) : Prop :=
  (x1 < 0 → (post (-2 : Int32) ba_less ba_full)) ∧ (¬ x1 < 0 → (((60 : Int32) < x1 → (post (-2 : Int32) ba_less ba_full)) ∧ (¬ (60 : Int32) < x1 → ((x2 < 0 → (post (-2 : Int32) ba_less ba_full)) ∧ (¬ x2 < 0 → (((60 : Int32) < x2 → (post (-2 : Int32) ba_less ba_full)) ∧ (¬ (60 : Int32) < x2 → ((x3 < (1 : Int32) → (post (-2 : Int32) ba_less ba_full)) ∧ (¬ x3 < (1 : Int32) → ((x3 ≤ (9 : Int32) → (q_wb_X8_lay_0 ba_less ba_full x1 x2 x3 (fun ba_less_1 ba_full_1 => q_wb_X8_firstTake_0 ba_less_1 ba_full_1 x1 x2 x3 (fun r_1 => (x4 = 0 → ((¬ r_1 = (-1 : Int32) → (post (1 : Int32) ba_less_1 ba_full_1)) ∧ (r_1 = (-1 : Int32) → (post (0 : Int32) ba_less_1 ba_full_1)))) ∧ (¬ x4 = 0 → (post r_1 ba_less_1 ba_full_1)))))) ∧ (¬ x3 ≤ (9 : Int32) → (post (-2 : Int32) ba_less ba_full))))))))))))
set_option maxRecDepth 20000 in
theorem t_wx_X10_trade_0 {p : Program} {l : Launch} {e : Env} {s : State} {m : MethodId} {args : Array Value} {below : List Frame} {meth : Method} {c : Code} {E : zE} {qx : Nat} {ta_tape : Nat → Int32} {tf_length : Int32} {tf_fault : Int32} {tf_place : Int32} {ta_counts : Nat → Int32} {tl0f_huts : Int32} {tl0f_singers : Int32} {tl0f_villages : Int32} {tl0f_dams : Int32} {tl0f_echoes : Int32} {tl0f_deep : Int32} {tl0f_slide : Int32} {tl0a_heights : Nat → Int32} {tl0a_ladders : Nat → Int32} {tl0a_minutes : Nat → Int32} {tl0a_echoFrom : Nat → Int32} {tl0a_echoTo : Nat → Int32} {tl0a_homes : Nat → Int32} {tl0a_talls : Nat → Int32} {tl0a_known : Nat → Int32} {tl1f_huts : Int32} {tl1f_singers : Int32} {tl1f_villages : Int32} {tl1f_dams : Int32} {tl1f_echoes : Int32} {tl1f_deep : Int32} {tl1f_slide : Int32} {tl1a_heights : Nat → Int32} {tl1a_ladders : Nat → Int32} {tl1a_minutes : Nat → Int32} {tl1a_echoFrom : Nat → Int32} {tl1a_echoTo : Nat → Int32} {tl1a_homes : Nat → Int32} {tl1a_talls : Nat → Int32} {tl1a_known : Nat → Int32} {tv0f_deeds : Int32} {tv0a_kinds : Nat → Int32} {tv0a_firsts : Nat → Int32} {tv0a_seconds : Nat → Int32} {tv1f_deeds : Int32} {tv1a_kinds : Nat → Int32} {tv1a_firsts : Nat → Int32} {tv1a_seconds : Nat → Int32} {ts0f_facts : Int32} {ts0a_heard : Nat → Int32} {ts0a_huts : Nat → Int32} {ts0a_minutes : Nat → Int32} {ts1f_facts : Int32} {ts1a_heard : Nat → Int32} {ts1a_huts : Nat → Int32} {ts1a_minutes : Nat → Int32} {tc0f_voices : Int32} {tc0f_step : Int32} {tc0a_parts : Nat → Int32} {tc0a_heights : Nat → Int32} {tc1f_voices : Int32} {tc1f_step : Int32} {tc1a_parts : Nat → Int32} {tc1a_heights : Nat → Int32} {m_images : Nat → Option Nat} {rlf_huts : Int32} {rlf_singers : Int32} {rlf_villages : Int32} {rlf_dams : Int32} {rlf_echoes : Int32} {rlf_deep : Int32} {rlf_slide : Int32} {rla_heights : Nat → Int32} {rla_ladders : Nat → Int32} {rla_minutes : Nat → Int32} {rla_echoFrom : Nat → Int32} {rla_echoTo : Nat → Int32} {rla_homes : Nat → Int32} {rla_talls : Nat → Int32} {rla_known : Nat → Int32} {rvf_deeds : Int32} {rva_kinds : Nat → Int32} {rva_firsts : Nat → Int32} {rva_seconds : Nat → Int32} {rsf_facts : Int32} {rsa_heard : Nat → Int32} {rsa_huts : Nat → Int32} {rsa_minutes : Nat → Int32} {rcf_voices : Int32} {rcf_step : Int32} {rca_parts : Nat → Int32} {rca_heights : Nat → Int32} {rf_fault : Int32} {rf_faultPlace : Int32} {ra_numbers : Nat → Int32} {ra_tape : Nat → Int32} {rf_length : Int32} {rf_behind : Int32} {rf_kind : Int32} {rf_first : Int32} {rf_value : Int32} {rf_hutsToldOf : Int32} {rf_singersToldOf : Int32} {nf_minute : Int32} {nf_avalanches : Int32} {nf_begun : Int32} {nf_climbed : Int32} {nf_seed : Int32} {na_huts : Nat → Int32} {na_known : Nat → Int32} {na_levels : Nat → Int32} {na_snow : Nat → Int32} {na_open : Nat → Int32} {pa_heard : Nat → Int32} {pa_walked : Nat → Int32} {pa_total : Nat → Int32} {pa_longest : Nat → Int32} {pa_next : Nat → Int32} {pa_cover : Nat → Int32} {pa_now : Nat → Int32} {pa_then : Nat → Int32} {ko_stands : Option Nat} {ka_gaps : Nat → Int32} {ka_behind : Nat → Int32} {ba_less : Nat → Int32} {ba_full : Nat → Int32} {post : Int32 → (Nat → Int32) → (Nat → Int32) → Prop} {x1 : Int32} {x2 : Int32} {x3 : Int32} {x4 : Int32} {ls : Array Slot} {H : Heap} {locs : List Loc}
    (zc : zC p s m args meth c cX10_trade 6 RX10 (some .int))
    (hK : zK E s)
    (hM : wxW E qx ta_tape tf_length tf_fault tf_place ta_counts tl0f_huts tl0f_singers tl0f_villages tl0f_dams tl0f_echoes tl0f_deep tl0f_slide tl0a_heights tl0a_ladders tl0a_minutes tl0a_echoFrom tl0a_echoTo tl0a_homes tl0a_talls tl0a_known tl1f_huts tl1f_singers tl1f_villages tl1f_dams tl1f_echoes tl1f_deep tl1f_slide tl1a_heights tl1a_ladders tl1a_minutes tl1a_echoFrom tl1a_echoTo tl1a_homes tl1a_talls tl1a_known tv0f_deeds tv0a_kinds tv0a_firsts tv0a_seconds tv1f_deeds tv1a_kinds tv1a_firsts tv1a_seconds ts0f_facts ts0a_heard ts0a_huts ts0a_minutes ts1f_facts ts1a_heard ts1a_huts ts1a_minutes tc0f_voices tc0f_step tc0a_parts tc0a_heights tc1f_voices tc1f_step tc1a_parts tc1a_heights m_images rlf_huts rlf_singers rlf_villages rlf_dams rlf_echoes rlf_deep rlf_slide rla_heights rla_ladders rla_minutes rla_echoFrom rla_echoTo rla_homes rla_talls rla_known rvf_deeds rva_kinds rva_firsts rva_seconds rsf_facts rsa_heard rsa_huts rsa_minutes rcf_voices rcf_step rca_parts rca_heights rf_fault rf_faultPlace ra_numbers ra_tape rf_length rf_behind rf_kind rf_first rf_value rf_hutsToldOf rf_singersToldOf nf_minute nf_avalanches nf_begun nf_climbed nf_seed na_huts na_known na_levels na_snow na_open pa_heard pa_walked pa_total pa_longest pa_next pa_cover pa_now pa_then ko_stands ka_gaps ka_behind ba_less ba_full H)
    (hS : va_S (wxA qx) s.heap H locs)
    (hl : lv_has ls 6 [(0, .ref qx), (1, .int x1), (2, .int x2), (3, .int x3), (4, .int x4)])
    (hw : q_wx_X10_trade_0 ba_less ba_full x1 x2 x3 x4 post) :
    W p l e rm_wx_X10_trade s m args below meth c H locs 0 0 (MQ below (zQi (S := (Nat → Int32) × (Nat → Int32)) (fun r u => post r u.1 u.2) (fun u H => wxW E qx ta_tape tf_length tf_fault tf_place ta_counts tl0f_huts tl0f_singers tl0f_villages tl0f_dams tl0f_echoes tl0f_deep tl0f_slide tl0a_heights tl0a_ladders tl0a_minutes tl0a_echoFrom tl0a_echoTo tl0a_homes tl0a_talls tl0a_known tl1f_huts tl1f_singers tl1f_villages tl1f_dams tl1f_echoes tl1f_deep tl1f_slide tl1a_heights tl1a_ladders tl1a_minutes tl1a_echoFrom tl1a_echoTo tl1a_homes tl1a_talls tl1a_known tv0f_deeds tv0a_kinds tv0a_firsts tv0a_seconds tv1f_deeds tv1a_kinds tv1a_firsts tv1a_seconds ts0f_facts ts0a_heard ts0a_huts ts0a_minutes ts1f_facts ts1a_heard ts1a_huts ts1a_minutes tc0f_voices tc0f_step tc0a_parts tc0a_heights tc1f_voices tc1f_step tc1a_parts tc1a_heights m_images rlf_huts rlf_singers rlf_villages rlf_dams rlf_echoes rlf_deep rlf_slide rla_heights rla_ladders rla_minutes rla_echoFrom rla_echoTo rla_homes rla_talls rla_known rvf_deeds rva_kinds rva_firsts rva_seconds rsf_facts rsa_heard rsa_huts rsa_minutes rcf_voices rcf_step rca_parts rca_heights rf_fault rf_faultPlace ra_numbers ra_tape rf_length rf_behind rf_kind rf_first rf_value rf_hutsToldOf rf_singersToldOf nf_minute nf_avalanches nf_begun nf_climbed nf_seed na_huts na_known na_levels na_snow na_open pa_heard pa_walked pa_total pa_longest pa_next pa_cover pa_now pa_then ko_stands ka_gaps ka_behind u.1 u.2 H) (wxA qx)) args s 0 0 (wxA qx)) (F0 m 0 ls []) := by
  have hx := zc.1
  have hb := zc.2.1
  refine lv_iload_n hx hb dX10_trade_0 rfl (lv_at hl 1 rfl) ?_
  refine lv_if_lt (tgt := 31) hx hb dX10_trade_1 (by decide) (fun hc => ?_) (fun hc => ?_)
  · have hw := hw.1 hc
    refine lv_bipush (v := (-2 : Int32)) hx hb dX10_trade_31 (by decide) ?_
    exact zret_iw ⟨ba_less, ba_full⟩ zc hS hw hM dX10_trade_33
  · have hw := hw.2 hc
    refine lv_iload_n hx hb dX10_trade_4 rfl (lv_at hl 1 rfl) ?_
    refine lv_bipush (v := (60 : Int32)) hx hb dX10_trade_5 (by decide) ?_
    refine lv_icmp_gt (tgt := 31) hx hb dX10_trade_7 (by decide) (fun hc => ?_) (fun hc => ?_)
    · have hw := hw.1 hc
      refine lv_bipush (v := (-2 : Int32)) hx hb dX10_trade_31 (by decide) ?_
      exact zret_iw ⟨ba_less, ba_full⟩ zc hS hw hM dX10_trade_33
    · have hw := hw.2 hc
      refine lv_iload_n hx hb dX10_trade_10 rfl (lv_at hl 2 rfl) ?_
      refine lv_if_lt (tgt := 31) hx hb dX10_trade_11 (by decide) (fun hc => ?_) (fun hc => ?_)
      · have hw := hw.1 hc
        refine lv_bipush (v := (-2 : Int32)) hx hb dX10_trade_31 (by decide) ?_
        exact zret_iw ⟨ba_less, ba_full⟩ zc hS hw hM dX10_trade_33
      · have hw := hw.2 hc
        refine lv_iload_n hx hb dX10_trade_14 rfl (lv_at hl 2 rfl) ?_
        refine lv_bipush (v := (60 : Int32)) hx hb dX10_trade_15 (by decide) ?_
        refine lv_icmp_gt (tgt := 31) hx hb dX10_trade_17 (by decide) (fun hc => ?_) (fun hc => ?_)
        · have hw := hw.1 hc
          refine lv_bipush (v := (-2 : Int32)) hx hb dX10_trade_31 (by decide) ?_
          exact zret_iw ⟨ba_less, ba_full⟩ zc hS hw hM dX10_trade_33
        · have hw := hw.2 hc
          refine lv_iload_n hx hb dX10_trade_20 rfl (lv_at hl 3 rfl) ?_
          refine lv_iconst (v := (1 : Int32)) hx hb dX10_trade_21 (by decide) ?_
          refine lv_icmp_lt (tgt := 31) hx hb dX10_trade_22 (by decide) (fun hc => ?_) (fun hc => ?_)
          · have hw := hw.1 hc
            refine lv_bipush (v := (-2 : Int32)) hx hb dX10_trade_31 (by decide) ?_
            exact zret_iw ⟨ba_less, ba_full⟩ zc hS hw hM dX10_trade_33
          · have hw := hw.2 hc
            refine lv_iload_n hx hb dX10_trade_25 rfl (lv_at hl 3 rfl) ?_
            refine lv_bipush (v := (9 : Int32)) hx hb dX10_trade_26 (by decide) ?_
            refine lv_icmp_le (tgt := 34) hx hb dX10_trade_28 (by decide) (fun hc => ?_) (fun hc => ?_)
            · have hw := hw.1 hc
              refine lv_aload_n hx hb dX10_trade_34 rfl (lv_at hl 0 rfl) ?_
              refine wxg_10_51_0 zc hK hM dX10_trade_35 ?_
              refine lv_iload_n hx hb dX10_trade_38 rfl (lv_at hl 1 rfl) ?_
              refine lv_iload_n hx hb dX10_trade_39 rfl (lv_at hl 2 rfl) ?_
              refine lv_iload_n hx hb dX10_trade_40 rfl (lv_at hl 3 rfl) ?_
              refine zVx_v [.int x1, .int x2, .int x3] [] zc ky_X8_lay kz_X8_lay km_10_245 (c_wb_X8_lay l hw) (wbPreV0 hK (pj_wx_wb_90 hM)) hS (sb_wx_wb_90) rfl rfl hl.1 (Nat.le_of_ble_eq_true rfl) ⟨rfl, rfl⟩ ⟨Nat.le_of_ble_eq_true rfl, Nat.le_of_ble_eq_true rfl⟩ ⟨Nat.zero_le _, Nat.zero_le _⟩ dX10_trade_41 (fun u H1 locs1 hw hM1 hk hS => ?_)
              obtain ⟨ba_less_1, ba_full_1⟩ := u
              have hM := jn_wx_wb_90 hM hM1 hk
              refine lv_aload_n hx hb dX10_trade_44 rfl (lv_at hl 0 rfl) ?_
              refine wxg_10_51_0 zc hK hM dX10_trade_45 ?_
              refine lv_iload_n hx hb dX10_trade_48 rfl (lv_at hl 1 rfl) ?_
              refine lv_iload_n hx hb dX10_trade_49 rfl (lv_at hl 2 rfl) ?_
              refine lv_iload_n hx hb dX10_trade_50 rfl (lv_at hl 3 rfl) ?_
              refine zV_i [.int x1, .int x2, .int x3] [] zc ky_X8_firstTake kz_X8_firstTake km_10_249 (c_wb_X8_firstTake l hw) (wbPreV0 hK (pj_wx_wb_90 hM)) rfl rfl hl.1 (Nat.le_of_ble_eq_true rfl) ⟨rfl, rfl⟩ ⟨Nat.le_of_ble_eq_true rfl, Nat.le_of_ble_eq_true rfl⟩ ⟨Nat.zero_le _, Nat.zero_le _⟩ dX10_trade_51 (fun r_1 hw => ?_)
              refine lv_istore (lv' := [(5, .int r_1), (0, .ref qx), (1, .int x1), (2, .int x2), (3, .int x3), (4, .int x4)]) hx hb dX10_trade_54 hl (by decide) rfl (fun ls hl => ?_)
              refine lv_iload hx hb dX10_trade_56 (lv_at hl 5 rfl) ?_
              refine lv_if_eq (tgt := 64) hx hb dX10_trade_58 (by decide) (fun hc => ?_) (fun hc => ?_)
              · have hw := hw.1 hc
                refine lv_iload hx hb dX10_trade_64 (lv_at hl 0 rfl) ?_
                refine lv_iconst (v := (-1 : Int32)) hx hb dX10_trade_66 (by decide) ?_
                refine lv_icmp_ne (tgt := 74) hx hb dX10_trade_67 (by decide) (fun hc => ?_) (fun hc => ?_)
                · have hw := hw.1 hc
                  refine lv_iconst (v := (1 : Int32)) hx hb dX10_trade_74 (by decide) ?_
                  exact zret_iw ⟨ba_less_1, ba_full_1⟩ zc hS hw hM dX10_trade_75
                · have hw := hw.2 hc
                  refine lv_iconst (v := (0 : Int32)) hx hb dX10_trade_70 (by decide) ?_
                  refine lv_goto (tgt := 75) hx hb dX10_trade_71 (by decide) ?_
                  exact zret_iw ⟨ba_less_1, ba_full_1⟩ zc hS hw hM dX10_trade_75
              · have hw := hw.2 hc
                refine lv_iload hx hb dX10_trade_61 (lv_at hl 0 rfl) ?_
                exact zret_iw ⟨ba_less_1, ba_full_1⟩ zc hS hw hM dX10_trade_63
            · have hw := hw.2 hc
              refine lv_bipush (v := (-2 : Int32)) hx hb dX10_trade_31 (by decide) ?_
              exact zret_iw ⟨ba_less, ba_full⟩ zc hS hw hM dX10_trade_33
set_option maxRecDepth 20000 in
theorem c_wx_X10_trade (l : Launch) {E : zE} {qx : Nat} {ta_tape : Nat → Int32} {tf_length : Int32} {tf_fault : Int32} {tf_place : Int32} {ta_counts : Nat → Int32} {tl0f_huts : Int32} {tl0f_singers : Int32} {tl0f_villages : Int32} {tl0f_dams : Int32} {tl0f_echoes : Int32} {tl0f_deep : Int32} {tl0f_slide : Int32} {tl0a_heights : Nat → Int32} {tl0a_ladders : Nat → Int32} {tl0a_minutes : Nat → Int32} {tl0a_echoFrom : Nat → Int32} {tl0a_echoTo : Nat → Int32} {tl0a_homes : Nat → Int32} {tl0a_talls : Nat → Int32} {tl0a_known : Nat → Int32} {tl1f_huts : Int32} {tl1f_singers : Int32} {tl1f_villages : Int32} {tl1f_dams : Int32} {tl1f_echoes : Int32} {tl1f_deep : Int32} {tl1f_slide : Int32} {tl1a_heights : Nat → Int32} {tl1a_ladders : Nat → Int32} {tl1a_minutes : Nat → Int32} {tl1a_echoFrom : Nat → Int32} {tl1a_echoTo : Nat → Int32} {tl1a_homes : Nat → Int32} {tl1a_talls : Nat → Int32} {tl1a_known : Nat → Int32} {tv0f_deeds : Int32} {tv0a_kinds : Nat → Int32} {tv0a_firsts : Nat → Int32} {tv0a_seconds : Nat → Int32} {tv1f_deeds : Int32} {tv1a_kinds : Nat → Int32} {tv1a_firsts : Nat → Int32} {tv1a_seconds : Nat → Int32} {ts0f_facts : Int32} {ts0a_heard : Nat → Int32} {ts0a_huts : Nat → Int32} {ts0a_minutes : Nat → Int32} {ts1f_facts : Int32} {ts1a_heard : Nat → Int32} {ts1a_huts : Nat → Int32} {ts1a_minutes : Nat → Int32} {tc0f_voices : Int32} {tc0f_step : Int32} {tc0a_parts : Nat → Int32} {tc0a_heights : Nat → Int32} {tc1f_voices : Int32} {tc1f_step : Int32} {tc1a_parts : Nat → Int32} {tc1a_heights : Nat → Int32} {m_images : Nat → Option Nat} {rlf_huts : Int32} {rlf_singers : Int32} {rlf_villages : Int32} {rlf_dams : Int32} {rlf_echoes : Int32} {rlf_deep : Int32} {rlf_slide : Int32} {rla_heights : Nat → Int32} {rla_ladders : Nat → Int32} {rla_minutes : Nat → Int32} {rla_echoFrom : Nat → Int32} {rla_echoTo : Nat → Int32} {rla_homes : Nat → Int32} {rla_talls : Nat → Int32} {rla_known : Nat → Int32} {rvf_deeds : Int32} {rva_kinds : Nat → Int32} {rva_firsts : Nat → Int32} {rva_seconds : Nat → Int32} {rsf_facts : Int32} {rsa_heard : Nat → Int32} {rsa_huts : Nat → Int32} {rsa_minutes : Nat → Int32} {rcf_voices : Int32} {rcf_step : Int32} {rca_parts : Nat → Int32} {rca_heights : Nat → Int32} {rf_fault : Int32} {rf_faultPlace : Int32} {ra_numbers : Nat → Int32} {ra_tape : Nat → Int32} {rf_length : Int32} {rf_behind : Int32} {rf_kind : Int32} {rf_first : Int32} {rf_value : Int32} {rf_hutsToldOf : Int32} {rf_singersToldOf : Int32} {nf_minute : Int32} {nf_avalanches : Int32} {nf_begun : Int32} {nf_climbed : Int32} {nf_seed : Int32} {na_huts : Nat → Int32} {na_known : Nat → Int32} {na_levels : Nat → Int32} {na_snow : Nat → Int32} {na_open : Nat → Int32} {pa_heard : Nat → Int32} {pa_walked : Nat → Int32} {pa_total : Nat → Int32} {pa_longest : Nat → Int32} {pa_next : Nat → Int32} {pa_cover : Nat → Int32} {pa_now : Nat → Int32} {pa_then : Nat → Int32} {ko_stands : Option Nat} {ka_gaps : Nat → Int32} {ka_behind : Nat → Int32} {ba_less : Nat → Int32} {ba_full : Nat → Int32} {x1 : Int32} {x2 : Int32} {x3 : Int32} {x4 : Int32} {post : Int32 → (Nat → Int32) → (Nat → Int32) → Prop} (hw : q_wx_X10_trade_0 ba_less ba_full x1 x2 x3 x4 post) : Met l yX10_trade (Cond.code yX10_trade cX10_trade 6 (some .int) :: zb) rm_wx_X10_trade (va_Pc [.ref qx, .int x1, .int x2, .int x3, .int x4] (fun U => wxW E qx ta_tape tf_length tf_fault tf_place ta_counts tl0f_huts tl0f_singers tl0f_villages tl0f_dams tl0f_echoes tl0f_deep tl0f_slide tl0a_heights tl0a_ladders tl0a_minutes tl0a_echoFrom tl0a_echoTo tl0a_homes tl0a_talls tl0a_known tl1f_huts tl1f_singers tl1f_villages tl1f_dams tl1f_echoes tl1f_deep tl1f_slide tl1a_heights tl1a_ladders tl1a_minutes tl1a_echoFrom tl1a_echoTo tl1a_homes tl1a_talls tl1a_known tv0f_deeds tv0a_kinds tv0a_firsts tv0a_seconds tv1f_deeds tv1a_kinds tv1a_firsts tv1a_seconds ts0f_facts ts0a_heard ts0a_huts ts0a_minutes ts1f_facts ts1a_heard ts1a_huts ts1a_minutes tc0f_voices tc0f_step tc0a_parts tc0a_heights tc1f_voices tc1f_step tc1a_parts tc1a_heights m_images rlf_huts rlf_singers rlf_villages rlf_dams rlf_echoes rlf_deep rlf_slide rla_heights rla_ladders rla_minutes rla_echoFrom rla_echoTo rla_homes rla_talls rla_known rvf_deeds rva_kinds rva_firsts rva_seconds rsf_facts rsa_heard rsa_huts rsa_minutes rcf_voices rcf_step rca_parts rca_heights rf_fault rf_faultPlace ra_numbers ra_tape rf_length rf_behind rf_kind rf_first rf_value rf_hutsToldOf rf_singersToldOf nf_minute nf_avalanches nf_begun nf_climbed nf_seed na_huts na_known na_levels na_snow na_open pa_heard pa_walked pa_total pa_longest pa_next pa_cover pa_now pa_then ko_stands ka_gaps ka_behind ba_less ba_full U.heap ∧ zK E U)) (zQi (S := (Nat → Int32) × (Nat → Int32)) (fun r u => post r u.1 u.2) (fun u H => wxW E qx ta_tape tf_length tf_fault tf_place ta_counts tl0f_huts tl0f_singers tl0f_villages tl0f_dams tl0f_echoes tl0f_deep tl0f_slide tl0a_heights tl0a_ladders tl0a_minutes tl0a_echoFrom tl0a_echoTo tl0a_homes tl0a_talls tl0a_known tl1f_huts tl1f_singers tl1f_villages tl1f_dams tl1f_echoes tl1f_deep tl1f_slide tl1a_heights tl1a_ladders tl1a_minutes tl1a_echoFrom tl1a_echoTo tl1a_homes tl1a_talls tl1a_known tv0f_deeds tv0a_kinds tv0a_firsts tv0a_seconds tv1f_deeds tv1a_kinds tv1a_firsts tv1a_seconds ts0f_facts ts0a_heard ts0a_huts ts0a_minutes ts1f_facts ts1a_heard ts1a_huts ts1a_minutes tc0f_voices tc0f_step tc0a_parts tc0a_heights tc1f_voices tc1f_step tc1a_parts tc1a_heights m_images rlf_huts rlf_singers rlf_villages rlf_dams rlf_echoes rlf_deep rlf_slide rla_heights rla_ladders rla_minutes rla_echoFrom rla_echoTo rla_homes rla_talls rla_known rvf_deeds rva_kinds rva_firsts rva_seconds rsf_facts rsa_heard rsa_huts rsa_minutes rcf_voices rcf_step rca_parts rca_heights rf_fault rf_faultPlace ra_numbers ra_tape rf_length rf_behind rf_kind rf_first rf_value rf_hutsToldOf rf_singersToldOf nf_minute nf_avalanches nf_begun nf_climbed nf_seed na_huts na_known na_levels na_snow na_open pa_heard pa_walked pa_total pa_longest pa_next pa_cover pa_now pa_then ko_stands ka_gaps ka_behind u.1 u.2 H) (wxA qx)) 0 0 (wxA qx) := by
  refine Met.ofW (cc := cX10_trade) (maxL := 6) (ret := (some .int)) (by decide) rfl ?_
  intro p e s m args below meth c s₁ B hml hv
  obtain ⟨rfl, hM, hK⟩ := hv
  have zc := zc_of B hml
  have hl := lv_entry ([.ref qx, .int x1, .int x2, .int x3, .int x4]) (n := 6) (Nat.le_of_ble_eq_true rfl)
  rw [lg_entry_eq]
  generalize (lg_sl ([.ref qx, .int x1, .int x2, .int x3, .int x4]) ++ List.replicate (6 - (lg_sl ([.ref qx, .int x1, .int x2, .int x3, .int x4])).length) Slot.unset).toArray = ls at hl ⊢
  have hl : lv_has ls 6 [(0, .ref qx), (1, .int x1), (2, .int x2), (3, .int x3), (4, .int x4)] := hl
  exact t_wx_X10_trade_0 zc hK hM va_S.rf (lv_sub hl [0, 1, 2, 3, 4] rfl) hw
-- wx_X10_odds
abbrev rm_wx_X10_odds : Room := { frames := 1, cells := 0, slots := 0, locals := 21 }
def q_wx_X10_odds_0 (ta_counts : Nat → Int32) (tv0f_deeds : Int32) (tv1f_deeds : Int32) (x1 : Int32) (x2 : Int32) (x3 : Int32) (post : Int64 → Prop) : Prop :=
  q_wx_X10_landAt_0 ta_counts x1 (fun r_1 => (r_1 = 0 → (q_wx_X10_eveningAt_0 ta_counts x2 (fun r_2 => (r_2 = 0 → (post (-1 : Int64))) ∧ (r_2 = 1 → (post (-1 : Int64))) ∧ (¬ r_2 = 0 → ¬ r_2 = 1 → (post (-1 : Int64)))))) ∧ (r_1 = 1 → (q_wx_X10_eveningAt_0 ta_counts x2 (fun r_3 => (r_3 = 0 → (post (-1 : Int64))) ∧ (r_3 = 1 → ((x3 < 0 → (post (-1 : Int64))) ∧ (¬ x3 < 0 → ((x3 ≤ (2 : Int32) → False) ∧ (¬ x3 ≤ (2 : Int32) → (post (-1 : Int64))))))) ∧ (¬ r_3 = 0 → ¬ r_3 = 1 → ((x3 < 0 → (post (-1 : Int64))) ∧ (¬ x3 < 0 → ((x3 ≤ (2 : Int32) → False) ∧ (¬ x3 ≤ (2 : Int32) → (post (-1 : Int64)))))))))) ∧ (¬ r_1 = 0 → ¬ r_1 = 1 → (q_wx_X10_eveningAt_0 ta_counts x2 (fun r_4 => (r_4 = 0 → (post (-1 : Int64))) ∧ (r_4 = 1 → ((x3 < 0 → (post (-1 : Int64))) ∧ (¬ x3 < 0 → ((x3 ≤ (2 : Int32) → False) ∧ (¬ x3 ≤ (2 : Int32) → (post (-1 : Int64))))))) ∧ (¬ r_4 = 0 → ¬ r_4 = 1 → ((x3 < 0 → (post (-1 : Int64))) ∧ (¬ x3 < 0 → ((x3 ≤ (2 : Int32) → False) ∧ (¬ x3 ≤ (2 : Int32) → (post (-1 : Int64)))))))))))
set_option maxRecDepth 20000 in
theorem t_wx_X10_odds_0 {p : Program} {l : Launch} {e : Env} {s : State} {m : MethodId} {args : Array Value} {below : List Frame} {meth : Method} {c : Code} {E : zE} {qx : Nat} {ta_tape : Nat → Int32} {tf_length : Int32} {tf_fault : Int32} {tf_place : Int32} {ta_counts : Nat → Int32} {tl0f_huts : Int32} {tl0f_singers : Int32} {tl0f_villages : Int32} {tl0f_dams : Int32} {tl0f_echoes : Int32} {tl0f_deep : Int32} {tl0f_slide : Int32} {tl0a_heights : Nat → Int32} {tl0a_ladders : Nat → Int32} {tl0a_minutes : Nat → Int32} {tl0a_echoFrom : Nat → Int32} {tl0a_echoTo : Nat → Int32} {tl0a_homes : Nat → Int32} {tl0a_talls : Nat → Int32} {tl0a_known : Nat → Int32} {tl1f_huts : Int32} {tl1f_singers : Int32} {tl1f_villages : Int32} {tl1f_dams : Int32} {tl1f_echoes : Int32} {tl1f_deep : Int32} {tl1f_slide : Int32} {tl1a_heights : Nat → Int32} {tl1a_ladders : Nat → Int32} {tl1a_minutes : Nat → Int32} {tl1a_echoFrom : Nat → Int32} {tl1a_echoTo : Nat → Int32} {tl1a_homes : Nat → Int32} {tl1a_talls : Nat → Int32} {tl1a_known : Nat → Int32} {tv0f_deeds : Int32} {tv0a_kinds : Nat → Int32} {tv0a_firsts : Nat → Int32} {tv0a_seconds : Nat → Int32} {tv1f_deeds : Int32} {tv1a_kinds : Nat → Int32} {tv1a_firsts : Nat → Int32} {tv1a_seconds : Nat → Int32} {ts0f_facts : Int32} {ts0a_heard : Nat → Int32} {ts0a_huts : Nat → Int32} {ts0a_minutes : Nat → Int32} {ts1f_facts : Int32} {ts1a_heard : Nat → Int32} {ts1a_huts : Nat → Int32} {ts1a_minutes : Nat → Int32} {tc0f_voices : Int32} {tc0f_step : Int32} {tc0a_parts : Nat → Int32} {tc0a_heights : Nat → Int32} {tc1f_voices : Int32} {tc1f_step : Int32} {tc1a_parts : Nat → Int32} {tc1a_heights : Nat → Int32} {m_images : Nat → Option Nat} {rlf_huts : Int32} {rlf_singers : Int32} {rlf_villages : Int32} {rlf_dams : Int32} {rlf_echoes : Int32} {rlf_deep : Int32} {rlf_slide : Int32} {rla_heights : Nat → Int32} {rla_ladders : Nat → Int32} {rla_minutes : Nat → Int32} {rla_echoFrom : Nat → Int32} {rla_echoTo : Nat → Int32} {rla_homes : Nat → Int32} {rla_talls : Nat → Int32} {rla_known : Nat → Int32} {rvf_deeds : Int32} {rva_kinds : Nat → Int32} {rva_firsts : Nat → Int32} {rva_seconds : Nat → Int32} {rsf_facts : Int32} {rsa_heard : Nat → Int32} {rsa_huts : Nat → Int32} {rsa_minutes : Nat → Int32} {rcf_voices : Int32} {rcf_step : Int32} {rca_parts : Nat → Int32} {rca_heights : Nat → Int32} {rf_fault : Int32} {rf_faultPlace : Int32} {ra_numbers : Nat → Int32} {ra_tape : Nat → Int32} {rf_length : Int32} {rf_behind : Int32} {rf_kind : Int32} {rf_first : Int32} {rf_value : Int32} {rf_hutsToldOf : Int32} {rf_singersToldOf : Int32} {nf_minute : Int32} {nf_avalanches : Int32} {nf_begun : Int32} {nf_climbed : Int32} {nf_seed : Int32} {na_huts : Nat → Int32} {na_known : Nat → Int32} {na_levels : Nat → Int32} {na_snow : Nat → Int32} {na_open : Nat → Int32} {pa_heard : Nat → Int32} {pa_walked : Nat → Int32} {pa_total : Nat → Int32} {pa_longest : Nat → Int32} {pa_next : Nat → Int32} {pa_cover : Nat → Int32} {pa_now : Nat → Int32} {pa_then : Nat → Int32} {ko_stands : Option Nat} {ka_gaps : Nat → Int32} {ka_behind : Nat → Int32} {ba_less : Nat → Int32} {ba_full : Nat → Int32} {post : Int64 → Prop} {x1 : Int32} {x2 : Int32} {x3 : Int32} {ls : Array Slot}
    (zc : zC p s m args meth c cX10_odds 7 RX10 (some .long))
    (hK : zK E s)
    (hM : wxW E qx ta_tape tf_length tf_fault tf_place ta_counts tl0f_huts tl0f_singers tl0f_villages tl0f_dams tl0f_echoes tl0f_deep tl0f_slide tl0a_heights tl0a_ladders tl0a_minutes tl0a_echoFrom tl0a_echoTo tl0a_homes tl0a_talls tl0a_known tl1f_huts tl1f_singers tl1f_villages tl1f_dams tl1f_echoes tl1f_deep tl1f_slide tl1a_heights tl1a_ladders tl1a_minutes tl1a_echoFrom tl1a_echoTo tl1a_homes tl1a_talls tl1a_known tv0f_deeds tv0a_kinds tv0a_firsts tv0a_seconds tv1f_deeds tv1a_kinds tv1a_firsts tv1a_seconds ts0f_facts ts0a_heard ts0a_huts ts0a_minutes ts1f_facts ts1a_heard ts1a_huts ts1a_minutes tc0f_voices tc0f_step tc0a_parts tc0a_heights tc1f_voices tc1f_step tc1a_parts tc1a_heights m_images rlf_huts rlf_singers rlf_villages rlf_dams rlf_echoes rlf_deep rlf_slide rla_heights rla_ladders rla_minutes rla_echoFrom rla_echoTo rla_homes rla_talls rla_known rvf_deeds rva_kinds rva_firsts rva_seconds rsf_facts rsa_heard rsa_huts rsa_minutes rcf_voices rcf_step rca_parts rca_heights rf_fault rf_faultPlace ra_numbers ra_tape rf_length rf_behind rf_kind rf_first rf_value rf_hutsToldOf rf_singersToldOf nf_minute nf_avalanches nf_begun nf_climbed nf_seed na_huts na_known na_levels na_snow na_open pa_heard pa_walked pa_total pa_longest pa_next pa_cover pa_now pa_then ko_stands ka_gaps ka_behind ba_less ba_full s.heap)
    (hl : lv_has ls 7 [(0, .ref qx), (1, .int x1), (2, .int x2), (3, .int x3)])
    (hw : q_wx_X10_odds_0 ta_counts tv0f_deeds tv1f_deeds x1 x2 x3 post) :
    W p l e rm_wx_X10_odds s m args below meth c s.heap [] 0 0 (MQ below (vp_Sl post) args s 0 0 (fun _ => False)) (F0 m 0 ls []) := by
  have hx := zc.1
  have hb := zc.2.1
  refine lv_aload_n hx hb dX10_odds_0 rfl (lv_at hl 0 rfl) ?_
  refine lv_iload_n hx hb dX10_odds_1 rfl (lv_at hl 1 rfl) ?_
  refine zV_r [.int x1] [] zc ky_X10_landAt kz_X10_landAt km_10_89 (c_wx_X10_landAt l hw) (wxPreV0 hK hM) rfl rfl hl.1 (Nat.le_of_ble_eq_true rfl) ⟨rfl, rfl⟩ ⟨Nat.le_of_ble_eq_true rfl, Nat.le_of_ble_eq_true rfl⟩ ⟨Nat.zero_le _, Nat.zero_le _⟩ dX10_odds_2 (fun r_1 hw => ?_)
  by_cases hc0 : r_1 = 0
  · have hw := hw.1 hc0
    refine W.eq (g2 := F0 m 5 ls (.null :: [])) (by simp [hc0]) ?_
    refine lv_astoreN (lv' := [(4, .null), (0, .ref qx), (1, .int x1), (2, .int x2), (3, .int x3)]) hx hb dX10_odds_5 hl (by decide) rfl (fun ls hl => ?_)
    refine lv_aload_n hx hb dX10_odds_7 rfl (lv_at hl 1 rfl) ?_
    refine lv_iload_n hx hb dX10_odds_8 rfl (lv_at hl 3 rfl) ?_
    refine zV_r [.int x2] [] zc ky_X10_eveningAt kz_X10_eveningAt km_10_109 (c_wx_X10_eveningAt l hw) (wxPreV0 hK hM) rfl rfl hl.1 (Nat.le_of_ble_eq_true rfl) ⟨rfl, rfl⟩ ⟨Nat.le_of_ble_eq_true rfl, Nat.le_of_ble_eq_true rfl⟩ ⟨Nat.zero_le _, Nat.zero_le _⟩ dX10_odds_9 (fun r_2 hw => ?_)
    by_cases hc0 : r_2 = 0
    · have hw := hw.1 hc0
      refine W.eq (g2 := F0 m 12 ls (.null :: [])) (by simp [hc0]) ?_
      refine lv_astoreN (lv' := [(5, .null), (4, .null), (0, .ref qx), (1, .int x1), (2, .int x2), (3, .int x3)]) hx hb dX10_odds_12 hl (by decide) rfl (fun ls hl => ?_)
      refine lv_aloadN hx hb dX10_odds_14 (lv_at hl 1 rfl) ?_
      refine lv_ifnullN (tgt := 33) hx hb dX10_odds_16 (by decide) ?_
      refine lv_ldc2 (v := (-1 : Int64)) hx hb zc.2.2.2.1 (zc.2.2.2.2.1 _ kc_10_230) dX10_odds_33 ?_
      exact zret_l zc hw dX10_odds_36
    by_cases hc1 : r_2 = 1
    · have hw := hw.2.1 hc1
      refine W.eq (g2 := F0 m 12 ls (.ref (qx + 28) :: [])) (by simp [hc0, hc1]) ?_
      refine lv_astore (lv' := [(5, .ref (qx + 28)), (4, .null), (0, .ref qx), (1, .int x1), (2, .int x2), (3, .int x3)]) hx hb dX10_odds_12 hl (by decide) rfl (fun ls hl => ?_)
      refine lv_aloadN hx hb dX10_odds_14 (lv_at hl 1 rfl) ?_
      refine lv_ifnullN (tgt := 33) hx hb dX10_odds_16 (by decide) ?_
      refine lv_ldc2 (v := (-1 : Int64)) hx hb zc.2.2.2.1 (zc.2.2.2.2.1 _ kc_10_230) dX10_odds_33 ?_
      exact zret_l zc hw dX10_odds_36
    have hw := hw.2.2 hc0 hc1
    refine W.eq (g2 := F0 m 12 ls (.ref (qx + 24) :: [])) (by simp [hc0, hc1]) ?_
    refine lv_astore (lv' := [(5, .ref (qx + 24)), (4, .null), (0, .ref qx), (1, .int x1), (2, .int x2), (3, .int x3)]) hx hb dX10_odds_12 hl (by decide) rfl (fun ls hl => ?_)
    refine lv_aloadN hx hb dX10_odds_14 (lv_at hl 1 rfl) ?_
    refine lv_ifnullN (tgt := 33) hx hb dX10_odds_16 (by decide) ?_
    refine lv_ldc2 (v := (-1 : Int64)) hx hb zc.2.2.2.1 (zc.2.2.2.2.1 _ kc_10_230) dX10_odds_33 ?_
    exact zret_l zc hw dX10_odds_36
  by_cases hc1 : r_1 = 1
  · have hw := hw.2.1 hc1
    refine W.eq (g2 := F0 m 5 ls (.ref (qx + 14) :: [])) (by simp [hc0, hc1]) ?_
    refine lv_astore (lv' := [(4, .ref (qx + 14)), (0, .ref qx), (1, .int x1), (2, .int x2), (3, .int x3)]) hx hb dX10_odds_5 hl (by decide) rfl (fun ls hl => ?_)
    refine lv_aload_n hx hb dX10_odds_7 rfl (lv_at hl 1 rfl) ?_
    refine lv_iload_n hx hb dX10_odds_8 rfl (lv_at hl 3 rfl) ?_
    refine zV_r [.int x2] [] zc ky_X10_eveningAt kz_X10_eveningAt km_10_109 (c_wx_X10_eveningAt l hw) (wxPreV0 hK hM) rfl rfl hl.1 (Nat.le_of_ble_eq_true rfl) ⟨rfl, rfl⟩ ⟨Nat.le_of_ble_eq_true rfl, Nat.le_of_ble_eq_true rfl⟩ ⟨Nat.zero_le _, Nat.zero_le _⟩ dX10_odds_9 (fun r_3 hw => ?_)
    by_cases hc0 : r_3 = 0
    · have hw := hw.1 hc0
      refine W.eq (g2 := F0 m 12 ls (.null :: [])) (by simp [hc0]) ?_
      refine lv_astoreN (lv' := [(5, .null), (4, .ref (qx + 14)), (0, .ref qx), (1, .int x1), (2, .int x2), (3, .int x3)]) hx hb dX10_odds_12 hl (by decide) rfl (fun ls hl => ?_)
      refine lv_aload hx hb dX10_odds_14 (lv_at hl 1 rfl) ?_
      refine lv_ifnull hx hb dX10_odds_16 ?_
      refine lv_aloadN hx hb dX10_odds_19 (lv_at hl 0 rfl) ?_
      refine lv_ifnullN (tgt := 33) hx hb dX10_odds_21 (by decide) ?_
      refine lv_ldc2 (v := (-1 : Int64)) hx hb zc.2.2.2.1 (zc.2.2.2.2.1 _ kc_10_230) dX10_odds_33 ?_
      exact zret_l zc hw dX10_odds_36
    by_cases hc1 : r_3 = 1
    · have hw := hw.2.1 hc1
      refine W.eq (g2 := F0 m 12 ls (.ref (qx + 28) :: [])) (by simp [hc0, hc1]) ?_
      refine lv_astore (lv' := [(5, .ref (qx + 28)), (4, .ref (qx + 14)), (0, .ref qx), (1, .int x1), (2, .int x2), (3, .int x3)]) hx hb dX10_odds_12 hl (by decide) rfl (fun ls hl => ?_)
      refine lv_aload hx hb dX10_odds_14 (lv_at hl 1 rfl) ?_
      refine lv_ifnull hx hb dX10_odds_16 ?_
      refine lv_aload hx hb dX10_odds_19 (lv_at hl 0 rfl) ?_
      refine lv_ifnull hx hb dX10_odds_21 ?_
      refine lv_iload_n hx hb dX10_odds_24 rfl (lv_at hl 5 rfl) ?_
      refine lv_if_lt (tgt := 33) hx hb dX10_odds_25 (by decide) (fun hc => ?_) (fun hc => ?_)
      · have hw := hw.1 hc
        refine lv_ldc2 (v := (-1 : Int64)) hx hb zc.2.2.2.1 (zc.2.2.2.2.1 _ kc_10_230) dX10_odds_33 ?_
        exact zret_l zc hw dX10_odds_36
      · have hw := hw.2 hc
        refine lv_iload_n hx hb dX10_odds_28 rfl (lv_at hl 5 rfl) ?_
        refine lv_iconst (v := (2 : Int32)) hx hb dX10_odds_29 (by decide) ?_
        refine lv_icmp_le (tgt := 37) hx hb dX10_odds_30 (by decide) (fun hc => ?_) (fun hc => ?_)
        · have hw := hw.1 hc
          refine lv_aload_n hx hb dX10_odds_37 rfl (lv_at hl 2 rfl) ?_
          refine wxg_10_30_0 zc hK hM dX10_odds_38 ?_
          refine lv_aload hx hb dX10_odds_41 (lv_at hl 1 rfl) ?_
          refine lv_aload hx hb dX10_odds_43 (lv_at hl 0 rfl) ?_
          refine lv_aload hx hb dX10_odds_45 (lv_at hl 0 rfl) ?_
          refine wxg_10_113_28 zc hK hM dX10_odds_47 ?_
          exact hw.elim
        · have hw := hw.2 hc
          refine lv_ldc2 (v := (-1 : Int64)) hx hb zc.2.2.2.1 (zc.2.2.2.2.1 _ kc_10_230) dX10_odds_33 ?_
          exact zret_l zc hw dX10_odds_36
    have hw := hw.2.2 hc0 hc1
    refine W.eq (g2 := F0 m 12 ls (.ref (qx + 24) :: [])) (by simp [hc0, hc1]) ?_
    refine lv_astore (lv' := [(5, .ref (qx + 24)), (4, .ref (qx + 14)), (0, .ref qx), (1, .int x1), (2, .int x2), (3, .int x3)]) hx hb dX10_odds_12 hl (by decide) rfl (fun ls hl => ?_)
    refine lv_aload hx hb dX10_odds_14 (lv_at hl 1 rfl) ?_
    refine lv_ifnull hx hb dX10_odds_16 ?_
    refine lv_aload hx hb dX10_odds_19 (lv_at hl 0 rfl) ?_
    refine lv_ifnull hx hb dX10_odds_21 ?_
    refine lv_iload_n hx hb dX10_odds_24 rfl (lv_at hl 5 rfl) ?_
    refine lv_if_lt (tgt := 33) hx hb dX10_odds_25 (by decide) (fun hc => ?_) (fun hc => ?_)
    · have hw := hw.1 hc
      refine lv_ldc2 (v := (-1 : Int64)) hx hb zc.2.2.2.1 (zc.2.2.2.2.1 _ kc_10_230) dX10_odds_33 ?_
      exact zret_l zc hw dX10_odds_36
    · have hw := hw.2 hc
      refine lv_iload_n hx hb dX10_odds_28 rfl (lv_at hl 5 rfl) ?_
      refine lv_iconst (v := (2 : Int32)) hx hb dX10_odds_29 (by decide) ?_
      refine lv_icmp_le (tgt := 37) hx hb dX10_odds_30 (by decide) (fun hc => ?_) (fun hc => ?_)
      · have hw := hw.1 hc
        refine lv_aload_n hx hb dX10_odds_37 rfl (lv_at hl 2 rfl) ?_
        refine wxg_10_30_0 zc hK hM dX10_odds_38 ?_
        refine lv_aload hx hb dX10_odds_41 (lv_at hl 1 rfl) ?_
        refine lv_aload hx hb dX10_odds_43 (lv_at hl 0 rfl) ?_
        refine lv_aload hx hb dX10_odds_45 (lv_at hl 0 rfl) ?_
        refine wxg_10_113_24 zc hK hM dX10_odds_47 ?_
        exact hw.elim
      · have hw := hw.2 hc
        refine lv_ldc2 (v := (-1 : Int64)) hx hb zc.2.2.2.1 (zc.2.2.2.2.1 _ kc_10_230) dX10_odds_33 ?_
        exact zret_l zc hw dX10_odds_36
  have hw := hw.2.2 hc0 hc1
  refine W.eq (g2 := F0 m 5 ls (.ref (qx + 5) :: [])) (by simp [hc0, hc1]) ?_
  refine lv_astore (lv' := [(4, .ref (qx + 5)), (0, .ref qx), (1, .int x1), (2, .int x2), (3, .int x3)]) hx hb dX10_odds_5 hl (by decide) rfl (fun ls hl => ?_)
  refine lv_aload_n hx hb dX10_odds_7 rfl (lv_at hl 1 rfl) ?_
  refine lv_iload_n hx hb dX10_odds_8 rfl (lv_at hl 3 rfl) ?_
  refine zV_r [.int x2] [] zc ky_X10_eveningAt kz_X10_eveningAt km_10_109 (c_wx_X10_eveningAt l hw) (wxPreV0 hK hM) rfl rfl hl.1 (Nat.le_of_ble_eq_true rfl) ⟨rfl, rfl⟩ ⟨Nat.le_of_ble_eq_true rfl, Nat.le_of_ble_eq_true rfl⟩ ⟨Nat.zero_le _, Nat.zero_le _⟩ dX10_odds_9 (fun r_4 hw => ?_)
  by_cases hc0 : r_4 = 0
  · have hw := hw.1 hc0
    refine W.eq (g2 := F0 m 12 ls (.null :: [])) (by simp [hc0]) ?_
    refine lv_astoreN (lv' := [(5, .null), (4, .ref (qx + 5)), (0, .ref qx), (1, .int x1), (2, .int x2), (3, .int x3)]) hx hb dX10_odds_12 hl (by decide) rfl (fun ls hl => ?_)
    refine lv_aload hx hb dX10_odds_14 (lv_at hl 1 rfl) ?_
    refine lv_ifnull hx hb dX10_odds_16 ?_
    refine lv_aloadN hx hb dX10_odds_19 (lv_at hl 0 rfl) ?_
    refine lv_ifnullN (tgt := 33) hx hb dX10_odds_21 (by decide) ?_
    refine lv_ldc2 (v := (-1 : Int64)) hx hb zc.2.2.2.1 (zc.2.2.2.2.1 _ kc_10_230) dX10_odds_33 ?_
    exact zret_l zc hw dX10_odds_36
  by_cases hc1 : r_4 = 1
  · have hw := hw.2.1 hc1
    refine W.eq (g2 := F0 m 12 ls (.ref (qx + 28) :: [])) (by simp [hc0, hc1]) ?_
    refine lv_astore (lv' := [(5, .ref (qx + 28)), (4, .ref (qx + 5)), (0, .ref qx), (1, .int x1), (2, .int x2), (3, .int x3)]) hx hb dX10_odds_12 hl (by decide) rfl (fun ls hl => ?_)
    refine lv_aload hx hb dX10_odds_14 (lv_at hl 1 rfl) ?_
    refine lv_ifnull hx hb dX10_odds_16 ?_
    refine lv_aload hx hb dX10_odds_19 (lv_at hl 0 rfl) ?_
    refine lv_ifnull hx hb dX10_odds_21 ?_
    refine lv_iload_n hx hb dX10_odds_24 rfl (lv_at hl 5 rfl) ?_
    refine lv_if_lt (tgt := 33) hx hb dX10_odds_25 (by decide) (fun hc => ?_) (fun hc => ?_)
    · have hw := hw.1 hc
      refine lv_ldc2 (v := (-1 : Int64)) hx hb zc.2.2.2.1 (zc.2.2.2.2.1 _ kc_10_230) dX10_odds_33 ?_
      exact zret_l zc hw dX10_odds_36
    · have hw := hw.2 hc
      refine lv_iload_n hx hb dX10_odds_28 rfl (lv_at hl 5 rfl) ?_
      refine lv_iconst (v := (2 : Int32)) hx hb dX10_odds_29 (by decide) ?_
      refine lv_icmp_le (tgt := 37) hx hb dX10_odds_30 (by decide) (fun hc => ?_) (fun hc => ?_)
      · have hw := hw.1 hc
        refine lv_aload_n hx hb dX10_odds_37 rfl (lv_at hl 2 rfl) ?_
        refine wxg_10_30_0 zc hK hM dX10_odds_38 ?_
        refine lv_aload hx hb dX10_odds_41 (lv_at hl 1 rfl) ?_
        refine lv_aload hx hb dX10_odds_43 (lv_at hl 0 rfl) ?_
        refine lv_aload hx hb dX10_odds_45 (lv_at hl 0 rfl) ?_
        refine wxg_10_113_28 zc hK hM dX10_odds_47 ?_
        exact hw.elim
      · have hw := hw.2 hc
        refine lv_ldc2 (v := (-1 : Int64)) hx hb zc.2.2.2.1 (zc.2.2.2.2.1 _ kc_10_230) dX10_odds_33 ?_
        exact zret_l zc hw dX10_odds_36
  have hw := hw.2.2 hc0 hc1
  refine W.eq (g2 := F0 m 12 ls (.ref (qx + 24) :: [])) (by simp [hc0, hc1]) ?_
  refine lv_astore (lv' := [(5, .ref (qx + 24)), (4, .ref (qx + 5)), (0, .ref qx), (1, .int x1), (2, .int x2), (3, .int x3)]) hx hb dX10_odds_12 hl (by decide) rfl (fun ls hl => ?_)
  refine lv_aload hx hb dX10_odds_14 (lv_at hl 1 rfl) ?_
  refine lv_ifnull hx hb dX10_odds_16 ?_
  refine lv_aload hx hb dX10_odds_19 (lv_at hl 0 rfl) ?_
  refine lv_ifnull hx hb dX10_odds_21 ?_
  refine lv_iload_n hx hb dX10_odds_24 rfl (lv_at hl 5 rfl) ?_
  refine lv_if_lt (tgt := 33) hx hb dX10_odds_25 (by decide) (fun hc => ?_) (fun hc => ?_)
  · have hw := hw.1 hc
    refine lv_ldc2 (v := (-1 : Int64)) hx hb zc.2.2.2.1 (zc.2.2.2.2.1 _ kc_10_230) dX10_odds_33 ?_
    exact zret_l zc hw dX10_odds_36
  · have hw := hw.2 hc
    refine lv_iload_n hx hb dX10_odds_28 rfl (lv_at hl 5 rfl) ?_
    refine lv_iconst (v := (2 : Int32)) hx hb dX10_odds_29 (by decide) ?_
    refine lv_icmp_le (tgt := 37) hx hb dX10_odds_30 (by decide) (fun hc => ?_) (fun hc => ?_)
    · have hw := hw.1 hc
      refine lv_aload_n hx hb dX10_odds_37 rfl (lv_at hl 2 rfl) ?_
      refine wxg_10_30_0 zc hK hM dX10_odds_38 ?_
      refine lv_aload hx hb dX10_odds_41 (lv_at hl 1 rfl) ?_
      refine lv_aload hx hb dX10_odds_43 (lv_at hl 0 rfl) ?_
      refine lv_aload hx hb dX10_odds_45 (lv_at hl 0 rfl) ?_
      refine wxg_10_113_24 zc hK hM dX10_odds_47 ?_
      exact hw.elim
    · have hw := hw.2 hc
      refine lv_ldc2 (v := (-1 : Int64)) hx hb zc.2.2.2.1 (zc.2.2.2.2.1 _ kc_10_230) dX10_odds_33 ?_
      exact zret_l zc hw dX10_odds_36
set_option maxRecDepth 20000 in
theorem c_wx_X10_odds (l : Launch) {E : zE} {qx : Nat} {ta_tape : Nat → Int32} {tf_length : Int32} {tf_fault : Int32} {tf_place : Int32} {ta_counts : Nat → Int32} {tl0f_huts : Int32} {tl0f_singers : Int32} {tl0f_villages : Int32} {tl0f_dams : Int32} {tl0f_echoes : Int32} {tl0f_deep : Int32} {tl0f_slide : Int32} {tl0a_heights : Nat → Int32} {tl0a_ladders : Nat → Int32} {tl0a_minutes : Nat → Int32} {tl0a_echoFrom : Nat → Int32} {tl0a_echoTo : Nat → Int32} {tl0a_homes : Nat → Int32} {tl0a_talls : Nat → Int32} {tl0a_known : Nat → Int32} {tl1f_huts : Int32} {tl1f_singers : Int32} {tl1f_villages : Int32} {tl1f_dams : Int32} {tl1f_echoes : Int32} {tl1f_deep : Int32} {tl1f_slide : Int32} {tl1a_heights : Nat → Int32} {tl1a_ladders : Nat → Int32} {tl1a_minutes : Nat → Int32} {tl1a_echoFrom : Nat → Int32} {tl1a_echoTo : Nat → Int32} {tl1a_homes : Nat → Int32} {tl1a_talls : Nat → Int32} {tl1a_known : Nat → Int32} {tv0f_deeds : Int32} {tv0a_kinds : Nat → Int32} {tv0a_firsts : Nat → Int32} {tv0a_seconds : Nat → Int32} {tv1f_deeds : Int32} {tv1a_kinds : Nat → Int32} {tv1a_firsts : Nat → Int32} {tv1a_seconds : Nat → Int32} {ts0f_facts : Int32} {ts0a_heard : Nat → Int32} {ts0a_huts : Nat → Int32} {ts0a_minutes : Nat → Int32} {ts1f_facts : Int32} {ts1a_heard : Nat → Int32} {ts1a_huts : Nat → Int32} {ts1a_minutes : Nat → Int32} {tc0f_voices : Int32} {tc0f_step : Int32} {tc0a_parts : Nat → Int32} {tc0a_heights : Nat → Int32} {tc1f_voices : Int32} {tc1f_step : Int32} {tc1a_parts : Nat → Int32} {tc1a_heights : Nat → Int32} {m_images : Nat → Option Nat} {rlf_huts : Int32} {rlf_singers : Int32} {rlf_villages : Int32} {rlf_dams : Int32} {rlf_echoes : Int32} {rlf_deep : Int32} {rlf_slide : Int32} {rla_heights : Nat → Int32} {rla_ladders : Nat → Int32} {rla_minutes : Nat → Int32} {rla_echoFrom : Nat → Int32} {rla_echoTo : Nat → Int32} {rla_homes : Nat → Int32} {rla_talls : Nat → Int32} {rla_known : Nat → Int32} {rvf_deeds : Int32} {rva_kinds : Nat → Int32} {rva_firsts : Nat → Int32} {rva_seconds : Nat → Int32} {rsf_facts : Int32} {rsa_heard : Nat → Int32} {rsa_huts : Nat → Int32} {rsa_minutes : Nat → Int32} {rcf_voices : Int32} {rcf_step : Int32} {rca_parts : Nat → Int32} {rca_heights : Nat → Int32} {rf_fault : Int32} {rf_faultPlace : Int32} {ra_numbers : Nat → Int32} {ra_tape : Nat → Int32} {rf_length : Int32} {rf_behind : Int32} {rf_kind : Int32} {rf_first : Int32} {rf_value : Int32} {rf_hutsToldOf : Int32} {rf_singersToldOf : Int32} {nf_minute : Int32} {nf_avalanches : Int32} {nf_begun : Int32} {nf_climbed : Int32} {nf_seed : Int32} {na_huts : Nat → Int32} {na_known : Nat → Int32} {na_levels : Nat → Int32} {na_snow : Nat → Int32} {na_open : Nat → Int32} {pa_heard : Nat → Int32} {pa_walked : Nat → Int32} {pa_total : Nat → Int32} {pa_longest : Nat → Int32} {pa_next : Nat → Int32} {pa_cover : Nat → Int32} {pa_now : Nat → Int32} {pa_then : Nat → Int32} {ko_stands : Option Nat} {ka_gaps : Nat → Int32} {ka_behind : Nat → Int32} {ba_less : Nat → Int32} {ba_full : Nat → Int32} {x1 : Int32} {x2 : Int32} {x3 : Int32} {post : Int64 → Prop} (hw : q_wx_X10_odds_0 ta_counts tv0f_deeds tv1f_deeds x1 x2 x3 post) : Met l yX10_odds (Cond.code yX10_odds cX10_odds 7 (some .long) :: zb) rm_wx_X10_odds (va_Pc [.ref qx, .int x1, .int x2, .int x3] (fun U => wxW E qx ta_tape tf_length tf_fault tf_place ta_counts tl0f_huts tl0f_singers tl0f_villages tl0f_dams tl0f_echoes tl0f_deep tl0f_slide tl0a_heights tl0a_ladders tl0a_minutes tl0a_echoFrom tl0a_echoTo tl0a_homes tl0a_talls tl0a_known tl1f_huts tl1f_singers tl1f_villages tl1f_dams tl1f_echoes tl1f_deep tl1f_slide tl1a_heights tl1a_ladders tl1a_minutes tl1a_echoFrom tl1a_echoTo tl1a_homes tl1a_talls tl1a_known tv0f_deeds tv0a_kinds tv0a_firsts tv0a_seconds tv1f_deeds tv1a_kinds tv1a_firsts tv1a_seconds ts0f_facts ts0a_heard ts0a_huts ts0a_minutes ts1f_facts ts1a_heard ts1a_huts ts1a_minutes tc0f_voices tc0f_step tc0a_parts tc0a_heights tc1f_voices tc1f_step tc1a_parts tc1a_heights m_images rlf_huts rlf_singers rlf_villages rlf_dams rlf_echoes rlf_deep rlf_slide rla_heights rla_ladders rla_minutes rla_echoFrom rla_echoTo rla_homes rla_talls rla_known rvf_deeds rva_kinds rva_firsts rva_seconds rsf_facts rsa_heard rsa_huts rsa_minutes rcf_voices rcf_step rca_parts rca_heights rf_fault rf_faultPlace ra_numbers ra_tape rf_length rf_behind rf_kind rf_first rf_value rf_hutsToldOf rf_singersToldOf nf_minute nf_avalanches nf_begun nf_climbed nf_seed na_huts na_known na_levels na_snow na_open pa_heard pa_walked pa_total pa_longest pa_next pa_cover pa_now pa_then ko_stands ka_gaps ka_behind ba_less ba_full U.heap ∧ zK E U)) (vp_Sl post) 0 0 (fun _ => False) := by
  refine Met.ofW (cc := cX10_odds) (maxL := 7) (ret := (some .long)) (by decide) rfl ?_
  intro p e s m args below meth c s₁ B hml hv
  obtain ⟨rfl, hM, hK⟩ := hv
  have zc := zc_of B hml
  have hl := lv_entry ([.ref qx, .int x1, .int x2, .int x3]) (n := 7) (Nat.le_of_ble_eq_true rfl)
  rw [lg_entry_eq]
  generalize (lg_sl ([.ref qx, .int x1, .int x2, .int x3]) ++ List.replicate (7 - (lg_sl ([.ref qx, .int x1, .int x2, .int x3])).length) Slot.unset).toArray = ls at hl ⊢
  have hl : lv_has ls 7 [(0, .ref qx), (1, .int x1), (2, .int x2), (3, .int x3)] := hl
  exact t_wx_X10_odds_0 zc hK hM (lv_sub hl [0, 1, 2, 3] rfl) hw
-- wx_X10_drawn
abbrev rm_wx_X10_drawn : Room := { frames := 1, cells := 0, slots := 0, locals := 21 }
def q_wx_X10_drawn_0 (ta_counts : Nat → Int32) (tl0f_singers : Int32) (tl1f_singers : Int32) (x1 : Int32) (x2 : Int32) (x3 : Int32) (x4 : Int32) (post : Int32 → Prop) : Prop :=
  q_wx_X10_landAt_0 ta_counts x1 (fun r_1 => (r_1 = 0 → (post (-1000 : Int32))) ∧ (r_1 = 1 → ((tl1f_singers = 0 → (post (-1000 : Int32))) ∧ (¬ tl1f_singers = 0 → ((x3 < 0 → (post (-1000 : Int32))) ∧ (¬ x3 < 0 → ((x3 ≤ (60 : Int32) → False) ∧ (¬ x3 ≤ (60 : Int32) → (post (-1000 : Int32))))))))) ∧ (¬ r_1 = 0 → ¬ r_1 = 1 → ((tl0f_singers = 0 → (post (-1000 : Int32))) ∧ (¬ tl0f_singers = 0 → ((x3 < 0 → (post (-1000 : Int32))) ∧ (¬ x3 < 0 → ((x3 ≤ (60 : Int32) → False) ∧ (¬ x3 ≤ (60 : Int32) → (post (-1000 : Int32))))))))))
set_option maxRecDepth 20000 in
theorem t_wx_X10_drawn_0 {p : Program} {l : Launch} {e : Env} {s : State} {m : MethodId} {args : Array Value} {below : List Frame} {meth : Method} {c : Code} {E : zE} {qx : Nat} {ta_tape : Nat → Int32} {tf_length : Int32} {tf_fault : Int32} {tf_place : Int32} {ta_counts : Nat → Int32} {tl0f_huts : Int32} {tl0f_singers : Int32} {tl0f_villages : Int32} {tl0f_dams : Int32} {tl0f_echoes : Int32} {tl0f_deep : Int32} {tl0f_slide : Int32} {tl0a_heights : Nat → Int32} {tl0a_ladders : Nat → Int32} {tl0a_minutes : Nat → Int32} {tl0a_echoFrom : Nat → Int32} {tl0a_echoTo : Nat → Int32} {tl0a_homes : Nat → Int32} {tl0a_talls : Nat → Int32} {tl0a_known : Nat → Int32} {tl1f_huts : Int32} {tl1f_singers : Int32} {tl1f_villages : Int32} {tl1f_dams : Int32} {tl1f_echoes : Int32} {tl1f_deep : Int32} {tl1f_slide : Int32} {tl1a_heights : Nat → Int32} {tl1a_ladders : Nat → Int32} {tl1a_minutes : Nat → Int32} {tl1a_echoFrom : Nat → Int32} {tl1a_echoTo : Nat → Int32} {tl1a_homes : Nat → Int32} {tl1a_talls : Nat → Int32} {tl1a_known : Nat → Int32} {tv0f_deeds : Int32} {tv0a_kinds : Nat → Int32} {tv0a_firsts : Nat → Int32} {tv0a_seconds : Nat → Int32} {tv1f_deeds : Int32} {tv1a_kinds : Nat → Int32} {tv1a_firsts : Nat → Int32} {tv1a_seconds : Nat → Int32} {ts0f_facts : Int32} {ts0a_heard : Nat → Int32} {ts0a_huts : Nat → Int32} {ts0a_minutes : Nat → Int32} {ts1f_facts : Int32} {ts1a_heard : Nat → Int32} {ts1a_huts : Nat → Int32} {ts1a_minutes : Nat → Int32} {tc0f_voices : Int32} {tc0f_step : Int32} {tc0a_parts : Nat → Int32} {tc0a_heights : Nat → Int32} {tc1f_voices : Int32} {tc1f_step : Int32} {tc1a_parts : Nat → Int32} {tc1a_heights : Nat → Int32} {m_images : Nat → Option Nat} {rlf_huts : Int32} {rlf_singers : Int32} {rlf_villages : Int32} {rlf_dams : Int32} {rlf_echoes : Int32} {rlf_deep : Int32} {rlf_slide : Int32} {rla_heights : Nat → Int32} {rla_ladders : Nat → Int32} {rla_minutes : Nat → Int32} {rla_echoFrom : Nat → Int32} {rla_echoTo : Nat → Int32} {rla_homes : Nat → Int32} {rla_talls : Nat → Int32} {rla_known : Nat → Int32} {rvf_deeds : Int32} {rva_kinds : Nat → Int32} {rva_firsts : Nat → Int32} {rva_seconds : Nat → Int32} {rsf_facts : Int32} {rsa_heard : Nat → Int32} {rsa_huts : Nat → Int32} {rsa_minutes : Nat → Int32} {rcf_voices : Int32} {rcf_step : Int32} {rca_parts : Nat → Int32} {rca_heights : Nat → Int32} {rf_fault : Int32} {rf_faultPlace : Int32} {ra_numbers : Nat → Int32} {ra_tape : Nat → Int32} {rf_length : Int32} {rf_behind : Int32} {rf_kind : Int32} {rf_first : Int32} {rf_value : Int32} {rf_hutsToldOf : Int32} {rf_singersToldOf : Int32} {nf_minute : Int32} {nf_avalanches : Int32} {nf_begun : Int32} {nf_climbed : Int32} {nf_seed : Int32} {na_huts : Nat → Int32} {na_known : Nat → Int32} {na_levels : Nat → Int32} {na_snow : Nat → Int32} {na_open : Nat → Int32} {pa_heard : Nat → Int32} {pa_walked : Nat → Int32} {pa_total : Nat → Int32} {pa_longest : Nat → Int32} {pa_next : Nat → Int32} {pa_cover : Nat → Int32} {pa_now : Nat → Int32} {pa_then : Nat → Int32} {ko_stands : Option Nat} {ka_gaps : Nat → Int32} {ka_behind : Nat → Int32} {ba_less : Nat → Int32} {ba_full : Nat → Int32} {post : Int32 → Prop} {x1 : Int32} {x2 : Int32} {x3 : Int32} {x4 : Int32} {ls : Array Slot}
    (zc : zC p s m args meth c cX10_drawn 6 RX10 (some .int))
    (hK : zK E s)
    (hM : wxW E qx ta_tape tf_length tf_fault tf_place ta_counts tl0f_huts tl0f_singers tl0f_villages tl0f_dams tl0f_echoes tl0f_deep tl0f_slide tl0a_heights tl0a_ladders tl0a_minutes tl0a_echoFrom tl0a_echoTo tl0a_homes tl0a_talls tl0a_known tl1f_huts tl1f_singers tl1f_villages tl1f_dams tl1f_echoes tl1f_deep tl1f_slide tl1a_heights tl1a_ladders tl1a_minutes tl1a_echoFrom tl1a_echoTo tl1a_homes tl1a_talls tl1a_known tv0f_deeds tv0a_kinds tv0a_firsts tv0a_seconds tv1f_deeds tv1a_kinds tv1a_firsts tv1a_seconds ts0f_facts ts0a_heard ts0a_huts ts0a_minutes ts1f_facts ts1a_heard ts1a_huts ts1a_minutes tc0f_voices tc0f_step tc0a_parts tc0a_heights tc1f_voices tc1f_step tc1a_parts tc1a_heights m_images rlf_huts rlf_singers rlf_villages rlf_dams rlf_echoes rlf_deep rlf_slide rla_heights rla_ladders rla_minutes rla_echoFrom rla_echoTo rla_homes rla_talls rla_known rvf_deeds rva_kinds rva_firsts rva_seconds rsf_facts rsa_heard rsa_huts rsa_minutes rcf_voices rcf_step rca_parts rca_heights rf_fault rf_faultPlace ra_numbers ra_tape rf_length rf_behind rf_kind rf_first rf_value rf_hutsToldOf rf_singersToldOf nf_minute nf_avalanches nf_begun nf_climbed nf_seed na_huts na_known na_levels na_snow na_open pa_heard pa_walked pa_total pa_longest pa_next pa_cover pa_now pa_then ko_stands ka_gaps ka_behind ba_less ba_full s.heap)
    (hl : lv_has ls 6 [(0, .ref qx), (1, .int x1), (2, .int x2), (3, .int x3), (4, .int x4)])
    (hw : q_wx_X10_drawn_0 ta_counts tl0f_singers tl1f_singers x1 x2 x3 x4 post) :
    W p l e rm_wx_X10_drawn s m args below meth c s.heap [] 0 0 (MQ below (vp_Si post) args s 0 0 (fun _ => False)) (F0 m 0 ls []) := by
  have hx := zc.1
  have hb := zc.2.1
  refine lv_aload_n hx hb dX10_drawn_0 rfl (lv_at hl 0 rfl) ?_
  refine lv_iload_n hx hb dX10_drawn_1 rfl (lv_at hl 1 rfl) ?_
  refine zV_r [.int x1] [] zc ky_X10_landAt kz_X10_landAt km_10_89 (c_wx_X10_landAt l hw) (wxPreV0 hK hM) rfl rfl hl.1 (Nat.le_of_ble_eq_true rfl) ⟨rfl, rfl⟩ ⟨Nat.le_of_ble_eq_true rfl, Nat.le_of_ble_eq_true rfl⟩ ⟨Nat.zero_le _, Nat.zero_le _⟩ dX10_drawn_2 (fun r_1 hw => ?_)
  by_cases hc0 : r_1 = 0
  · have hw := hw.1 hc0
    refine W.eq (g2 := F0 m 5 ls (.null :: [])) (by simp [hc0]) ?_
    refine lv_astoreN (lv' := [(5, .null), (0, .ref qx), (1, .int x1), (2, .int x2), (3, .int x3), (4, .int x4)]) hx hb dX10_drawn_5 hl (by decide) rfl (fun ls hl => ?_)
    refine lv_aloadN hx hb dX10_drawn_7 (lv_at hl 0 rfl) ?_
    refine lv_ifnullN (tgt := 30) hx hb dX10_drawn_9 (by decide) ?_
    refine lv_sipush (v := (-1000 : Int32)) hx hb dX10_drawn_30 (by decide) ?_
    exact zret_i zc hw dX10_drawn_33
  by_cases hc1 : r_1 = 1
  · have hw := hw.2.1 hc1
    refine W.eq (g2 := F0 m 5 ls (.ref (qx + 14) :: [])) (by simp [hc0, hc1]) ?_
    refine lv_astore (lv' := [(5, .ref (qx + 14)), (0, .ref qx), (1, .int x1), (2, .int x2), (3, .int x3), (4, .int x4)]) hx hb dX10_drawn_5 hl (by decide) rfl (fun ls hl => ?_)
    refine lv_aload hx hb dX10_drawn_7 (lv_at hl 0 rfl) ?_
    refine lv_ifnull hx hb dX10_drawn_9 ?_
    refine lv_aload hx hb dX10_drawn_12 (lv_at hl 0 rfl) ?_
    refine wxg_10_266_14 zc hK hM dX10_drawn_14 ?_
    refine lv_if_eq (tgt := 30) hx hb dX10_drawn_17 (by decide) (fun hc => ?_) (fun hc => ?_)
    · have hw := hw.1 hc
      refine lv_sipush (v := (-1000 : Int32)) hx hb dX10_drawn_30 (by decide) ?_
      exact zret_i zc hw dX10_drawn_33
    · have hw := hw.2 hc
      refine lv_iload_n hx hb dX10_drawn_20 rfl (lv_at hl 4 rfl) ?_
      refine lv_if_lt (tgt := 30) hx hb dX10_drawn_21 (by decide) (fun hc => ?_) (fun hc => ?_)
      · have hw := hw.1 hc
        refine lv_sipush (v := (-1000 : Int32)) hx hb dX10_drawn_30 (by decide) ?_
        exact zret_i zc hw dX10_drawn_33
      · have hw := hw.2 hc
        refine lv_iload_n hx hb dX10_drawn_24 rfl (lv_at hl 4 rfl) ?_
        refine lv_bipush (v := (60 : Int32)) hx hb dX10_drawn_25 (by decide) ?_
        refine lv_icmp_le (tgt := 34) hx hb dX10_drawn_27 (by decide) (fun hc => ?_) (fun hc => ?_)
        · have hw := hw.1 hc
          refine lv_aload_n hx hb dX10_drawn_34 rfl (lv_at hl 1 rfl) ?_
          refine wxg_10_30_0 zc hK hM dX10_drawn_35 ?_
          refine lv_aload hx hb dX10_drawn_38 (lv_at hl 0 rfl) ?_
          refine lv_iload_n hx hb dX10_drawn_40 rfl (lv_at hl 3 rfl) ?_
          refine lv_iload_n hx hb dX10_drawn_41 rfl (lv_at hl 4 rfl) ?_
          exact hw.elim
        · have hw := hw.2 hc
          refine lv_sipush (v := (-1000 : Int32)) hx hb dX10_drawn_30 (by decide) ?_
          exact zret_i zc hw dX10_drawn_33
  have hw := hw.2.2 hc0 hc1
  refine W.eq (g2 := F0 m 5 ls (.ref (qx + 5) :: [])) (by simp [hc0, hc1]) ?_
  refine lv_astore (lv' := [(5, .ref (qx + 5)), (0, .ref qx), (1, .int x1), (2, .int x2), (3, .int x3), (4, .int x4)]) hx hb dX10_drawn_5 hl (by decide) rfl (fun ls hl => ?_)
  refine lv_aload hx hb dX10_drawn_7 (lv_at hl 0 rfl) ?_
  refine lv_ifnull hx hb dX10_drawn_9 ?_
  refine lv_aload hx hb dX10_drawn_12 (lv_at hl 0 rfl) ?_
  refine wxg_10_266_5 zc hK hM dX10_drawn_14 ?_
  refine lv_if_eq (tgt := 30) hx hb dX10_drawn_17 (by decide) (fun hc => ?_) (fun hc => ?_)
  · have hw := hw.1 hc
    refine lv_sipush (v := (-1000 : Int32)) hx hb dX10_drawn_30 (by decide) ?_
    exact zret_i zc hw dX10_drawn_33
  · have hw := hw.2 hc
    refine lv_iload_n hx hb dX10_drawn_20 rfl (lv_at hl 4 rfl) ?_
    refine lv_if_lt (tgt := 30) hx hb dX10_drawn_21 (by decide) (fun hc => ?_) (fun hc => ?_)
    · have hw := hw.1 hc
      refine lv_sipush (v := (-1000 : Int32)) hx hb dX10_drawn_30 (by decide) ?_
      exact zret_i zc hw dX10_drawn_33
    · have hw := hw.2 hc
      refine lv_iload_n hx hb dX10_drawn_24 rfl (lv_at hl 4 rfl) ?_
      refine lv_bipush (v := (60 : Int32)) hx hb dX10_drawn_25 (by decide) ?_
      refine lv_icmp_le (tgt := 34) hx hb dX10_drawn_27 (by decide) (fun hc => ?_) (fun hc => ?_)
      · have hw := hw.1 hc
        refine lv_aload_n hx hb dX10_drawn_34 rfl (lv_at hl 1 rfl) ?_
        refine wxg_10_30_0 zc hK hM dX10_drawn_35 ?_
        refine lv_aload hx hb dX10_drawn_38 (lv_at hl 0 rfl) ?_
        refine lv_iload_n hx hb dX10_drawn_40 rfl (lv_at hl 3 rfl) ?_
        refine lv_iload_n hx hb dX10_drawn_41 rfl (lv_at hl 4 rfl) ?_
        exact hw.elim
      · have hw := hw.2 hc
        refine lv_sipush (v := (-1000 : Int32)) hx hb dX10_drawn_30 (by decide) ?_
        exact zret_i zc hw dX10_drawn_33
set_option maxRecDepth 20000 in
theorem c_wx_X10_drawn (l : Launch) {E : zE} {qx : Nat} {ta_tape : Nat → Int32} {tf_length : Int32} {tf_fault : Int32} {tf_place : Int32} {ta_counts : Nat → Int32} {tl0f_huts : Int32} {tl0f_singers : Int32} {tl0f_villages : Int32} {tl0f_dams : Int32} {tl0f_echoes : Int32} {tl0f_deep : Int32} {tl0f_slide : Int32} {tl0a_heights : Nat → Int32} {tl0a_ladders : Nat → Int32} {tl0a_minutes : Nat → Int32} {tl0a_echoFrom : Nat → Int32} {tl0a_echoTo : Nat → Int32} {tl0a_homes : Nat → Int32} {tl0a_talls : Nat → Int32} {tl0a_known : Nat → Int32} {tl1f_huts : Int32} {tl1f_singers : Int32} {tl1f_villages : Int32} {tl1f_dams : Int32} {tl1f_echoes : Int32} {tl1f_deep : Int32} {tl1f_slide : Int32} {tl1a_heights : Nat → Int32} {tl1a_ladders : Nat → Int32} {tl1a_minutes : Nat → Int32} {tl1a_echoFrom : Nat → Int32} {tl1a_echoTo : Nat → Int32} {tl1a_homes : Nat → Int32} {tl1a_talls : Nat → Int32} {tl1a_known : Nat → Int32} {tv0f_deeds : Int32} {tv0a_kinds : Nat → Int32} {tv0a_firsts : Nat → Int32} {tv0a_seconds : Nat → Int32} {tv1f_deeds : Int32} {tv1a_kinds : Nat → Int32} {tv1a_firsts : Nat → Int32} {tv1a_seconds : Nat → Int32} {ts0f_facts : Int32} {ts0a_heard : Nat → Int32} {ts0a_huts : Nat → Int32} {ts0a_minutes : Nat → Int32} {ts1f_facts : Int32} {ts1a_heard : Nat → Int32} {ts1a_huts : Nat → Int32} {ts1a_minutes : Nat → Int32} {tc0f_voices : Int32} {tc0f_step : Int32} {tc0a_parts : Nat → Int32} {tc0a_heights : Nat → Int32} {tc1f_voices : Int32} {tc1f_step : Int32} {tc1a_parts : Nat → Int32} {tc1a_heights : Nat → Int32} {m_images : Nat → Option Nat} {rlf_huts : Int32} {rlf_singers : Int32} {rlf_villages : Int32} {rlf_dams : Int32} {rlf_echoes : Int32} {rlf_deep : Int32} {rlf_slide : Int32} {rla_heights : Nat → Int32} {rla_ladders : Nat → Int32} {rla_minutes : Nat → Int32} {rla_echoFrom : Nat → Int32} {rla_echoTo : Nat → Int32} {rla_homes : Nat → Int32} {rla_talls : Nat → Int32} {rla_known : Nat → Int32} {rvf_deeds : Int32} {rva_kinds : Nat → Int32} {rva_firsts : Nat → Int32} {rva_seconds : Nat → Int32} {rsf_facts : Int32} {rsa_heard : Nat → Int32} {rsa_huts : Nat → Int32} {rsa_minutes : Nat → Int32} {rcf_voices : Int32} {rcf_step : Int32} {rca_parts : Nat → Int32} {rca_heights : Nat → Int32} {rf_fault : Int32} {rf_faultPlace : Int32} {ra_numbers : Nat → Int32} {ra_tape : Nat → Int32} {rf_length : Int32} {rf_behind : Int32} {rf_kind : Int32} {rf_first : Int32} {rf_value : Int32} {rf_hutsToldOf : Int32} {rf_singersToldOf : Int32} {nf_minute : Int32} {nf_avalanches : Int32} {nf_begun : Int32} {nf_climbed : Int32} {nf_seed : Int32} {na_huts : Nat → Int32} {na_known : Nat → Int32} {na_levels : Nat → Int32} {na_snow : Nat → Int32} {na_open : Nat → Int32} {pa_heard : Nat → Int32} {pa_walked : Nat → Int32} {pa_total : Nat → Int32} {pa_longest : Nat → Int32} {pa_next : Nat → Int32} {pa_cover : Nat → Int32} {pa_now : Nat → Int32} {pa_then : Nat → Int32} {ko_stands : Option Nat} {ka_gaps : Nat → Int32} {ka_behind : Nat → Int32} {ba_less : Nat → Int32} {ba_full : Nat → Int32} {x1 : Int32} {x2 : Int32} {x3 : Int32} {x4 : Int32} {post : Int32 → Prop} (hw : q_wx_X10_drawn_0 ta_counts tl0f_singers tl1f_singers x1 x2 x3 x4 post) : Met l yX10_drawn (Cond.code yX10_drawn cX10_drawn 6 (some .int) :: zb) rm_wx_X10_drawn (va_Pc [.ref qx, .int x1, .int x2, .int x3, .int x4] (fun U => wxW E qx ta_tape tf_length tf_fault tf_place ta_counts tl0f_huts tl0f_singers tl0f_villages tl0f_dams tl0f_echoes tl0f_deep tl0f_slide tl0a_heights tl0a_ladders tl0a_minutes tl0a_echoFrom tl0a_echoTo tl0a_homes tl0a_talls tl0a_known tl1f_huts tl1f_singers tl1f_villages tl1f_dams tl1f_echoes tl1f_deep tl1f_slide tl1a_heights tl1a_ladders tl1a_minutes tl1a_echoFrom tl1a_echoTo tl1a_homes tl1a_talls tl1a_known tv0f_deeds tv0a_kinds tv0a_firsts tv0a_seconds tv1f_deeds tv1a_kinds tv1a_firsts tv1a_seconds ts0f_facts ts0a_heard ts0a_huts ts0a_minutes ts1f_facts ts1a_heard ts1a_huts ts1a_minutes tc0f_voices tc0f_step tc0a_parts tc0a_heights tc1f_voices tc1f_step tc1a_parts tc1a_heights m_images rlf_huts rlf_singers rlf_villages rlf_dams rlf_echoes rlf_deep rlf_slide rla_heights rla_ladders rla_minutes rla_echoFrom rla_echoTo rla_homes rla_talls rla_known rvf_deeds rva_kinds rva_firsts rva_seconds rsf_facts rsa_heard rsa_huts rsa_minutes rcf_voices rcf_step rca_parts rca_heights rf_fault rf_faultPlace ra_numbers ra_tape rf_length rf_behind rf_kind rf_first rf_value rf_hutsToldOf rf_singersToldOf nf_minute nf_avalanches nf_begun nf_climbed nf_seed na_huts na_known na_levels na_snow na_open pa_heard pa_walked pa_total pa_longest pa_next pa_cover pa_now pa_then ko_stands ka_gaps ka_behind ba_less ba_full U.heap ∧ zK E U)) (vp_Si post) 0 0 (fun _ => False) := by
  refine Met.ofW (cc := cX10_drawn) (maxL := 6) (ret := (some .int)) (by decide) rfl ?_
  intro p e s m args below meth c s₁ B hml hv
  obtain ⟨rfl, hM, hK⟩ := hv
  have zc := zc_of B hml
  have hl := lv_entry ([.ref qx, .int x1, .int x2, .int x3, .int x4]) (n := 6) (Nat.le_of_ble_eq_true rfl)
  rw [lg_entry_eq]
  generalize (lg_sl ([.ref qx, .int x1, .int x2, .int x3, .int x4]) ++ List.replicate (6 - (lg_sl ([.ref qx, .int x1, .int x2, .int x3, .int x4])).length) Slot.unset).toArray = ls at hl ⊢
  have hl : lv_has ls 6 [(0, .ref qx), (1, .int x1), (2, .int x2), (3, .int x3), (4, .int x4)] := hl
  exact t_wx_X10_drawn_0 zc hK hM (lv_sub hl [0, 1, 2, 3, 4] rfl) hw
-- wx_X10_psalm
abbrev rm_wx_X10_psalm : Room := { frames := 1, cells := 0, slots := 0, locals := 21 }
def q_wx_X10_psalm_0 (ta_counts : Nat → Int32) (x1 : Int32) (x2 : Int32) (x3 : Int32) (x4 : Int32) (post : Int32 → Prop) : Prop :=
  q_wx_X10_landAt_0 ta_counts x1 (fun r_1 => (r_1 = 0 → (post (-2 : Int32))) ∧ (r_1 = 1 → False) ∧ (¬ r_1 = 0 → ¬ r_1 = 1 → False))
set_option maxRecDepth 20000 in
theorem t_wx_X10_psalm_0 {p : Program} {l : Launch} {e : Env} {s : State} {m : MethodId} {args : Array Value} {below : List Frame} {meth : Method} {c : Code} {E : zE} {qx : Nat} {ta_tape : Nat → Int32} {tf_length : Int32} {tf_fault : Int32} {tf_place : Int32} {ta_counts : Nat → Int32} {tl0f_huts : Int32} {tl0f_singers : Int32} {tl0f_villages : Int32} {tl0f_dams : Int32} {tl0f_echoes : Int32} {tl0f_deep : Int32} {tl0f_slide : Int32} {tl0a_heights : Nat → Int32} {tl0a_ladders : Nat → Int32} {tl0a_minutes : Nat → Int32} {tl0a_echoFrom : Nat → Int32} {tl0a_echoTo : Nat → Int32} {tl0a_homes : Nat → Int32} {tl0a_talls : Nat → Int32} {tl0a_known : Nat → Int32} {tl1f_huts : Int32} {tl1f_singers : Int32} {tl1f_villages : Int32} {tl1f_dams : Int32} {tl1f_echoes : Int32} {tl1f_deep : Int32} {tl1f_slide : Int32} {tl1a_heights : Nat → Int32} {tl1a_ladders : Nat → Int32} {tl1a_minutes : Nat → Int32} {tl1a_echoFrom : Nat → Int32} {tl1a_echoTo : Nat → Int32} {tl1a_homes : Nat → Int32} {tl1a_talls : Nat → Int32} {tl1a_known : Nat → Int32} {tv0f_deeds : Int32} {tv0a_kinds : Nat → Int32} {tv0a_firsts : Nat → Int32} {tv0a_seconds : Nat → Int32} {tv1f_deeds : Int32} {tv1a_kinds : Nat → Int32} {tv1a_firsts : Nat → Int32} {tv1a_seconds : Nat → Int32} {ts0f_facts : Int32} {ts0a_heard : Nat → Int32} {ts0a_huts : Nat → Int32} {ts0a_minutes : Nat → Int32} {ts1f_facts : Int32} {ts1a_heard : Nat → Int32} {ts1a_huts : Nat → Int32} {ts1a_minutes : Nat → Int32} {tc0f_voices : Int32} {tc0f_step : Int32} {tc0a_parts : Nat → Int32} {tc0a_heights : Nat → Int32} {tc1f_voices : Int32} {tc1f_step : Int32} {tc1a_parts : Nat → Int32} {tc1a_heights : Nat → Int32} {m_images : Nat → Option Nat} {rlf_huts : Int32} {rlf_singers : Int32} {rlf_villages : Int32} {rlf_dams : Int32} {rlf_echoes : Int32} {rlf_deep : Int32} {rlf_slide : Int32} {rla_heights : Nat → Int32} {rla_ladders : Nat → Int32} {rla_minutes : Nat → Int32} {rla_echoFrom : Nat → Int32} {rla_echoTo : Nat → Int32} {rla_homes : Nat → Int32} {rla_talls : Nat → Int32} {rla_known : Nat → Int32} {rvf_deeds : Int32} {rva_kinds : Nat → Int32} {rva_firsts : Nat → Int32} {rva_seconds : Nat → Int32} {rsf_facts : Int32} {rsa_heard : Nat → Int32} {rsa_huts : Nat → Int32} {rsa_minutes : Nat → Int32} {rcf_voices : Int32} {rcf_step : Int32} {rca_parts : Nat → Int32} {rca_heights : Nat → Int32} {rf_fault : Int32} {rf_faultPlace : Int32} {ra_numbers : Nat → Int32} {ra_tape : Nat → Int32} {rf_length : Int32} {rf_behind : Int32} {rf_kind : Int32} {rf_first : Int32} {rf_value : Int32} {rf_hutsToldOf : Int32} {rf_singersToldOf : Int32} {nf_minute : Int32} {nf_avalanches : Int32} {nf_begun : Int32} {nf_climbed : Int32} {nf_seed : Int32} {na_huts : Nat → Int32} {na_known : Nat → Int32} {na_levels : Nat → Int32} {na_snow : Nat → Int32} {na_open : Nat → Int32} {pa_heard : Nat → Int32} {pa_walked : Nat → Int32} {pa_total : Nat → Int32} {pa_longest : Nat → Int32} {pa_next : Nat → Int32} {pa_cover : Nat → Int32} {pa_now : Nat → Int32} {pa_then : Nat → Int32} {ko_stands : Option Nat} {ka_gaps : Nat → Int32} {ka_behind : Nat → Int32} {ba_less : Nat → Int32} {ba_full : Nat → Int32} {post : Int32 → Prop} {x1 : Int32} {x2 : Int32} {x3 : Int32} {x4 : Int32} {ls : Array Slot}
    (zc : zC p s m args meth c cX10_psalm 7 RX10 (some .int))
    (hK : zK E s)
    (hM : wxW E qx ta_tape tf_length tf_fault tf_place ta_counts tl0f_huts tl0f_singers tl0f_villages tl0f_dams tl0f_echoes tl0f_deep tl0f_slide tl0a_heights tl0a_ladders tl0a_minutes tl0a_echoFrom tl0a_echoTo tl0a_homes tl0a_talls tl0a_known tl1f_huts tl1f_singers tl1f_villages tl1f_dams tl1f_echoes tl1f_deep tl1f_slide tl1a_heights tl1a_ladders tl1a_minutes tl1a_echoFrom tl1a_echoTo tl1a_homes tl1a_talls tl1a_known tv0f_deeds tv0a_kinds tv0a_firsts tv0a_seconds tv1f_deeds tv1a_kinds tv1a_firsts tv1a_seconds ts0f_facts ts0a_heard ts0a_huts ts0a_minutes ts1f_facts ts1a_heard ts1a_huts ts1a_minutes tc0f_voices tc0f_step tc0a_parts tc0a_heights tc1f_voices tc1f_step tc1a_parts tc1a_heights m_images rlf_huts rlf_singers rlf_villages rlf_dams rlf_echoes rlf_deep rlf_slide rla_heights rla_ladders rla_minutes rla_echoFrom rla_echoTo rla_homes rla_talls rla_known rvf_deeds rva_kinds rva_firsts rva_seconds rsf_facts rsa_heard rsa_huts rsa_minutes rcf_voices rcf_step rca_parts rca_heights rf_fault rf_faultPlace ra_numbers ra_tape rf_length rf_behind rf_kind rf_first rf_value rf_hutsToldOf rf_singersToldOf nf_minute nf_avalanches nf_begun nf_climbed nf_seed na_huts na_known na_levels na_snow na_open pa_heard pa_walked pa_total pa_longest pa_next pa_cover pa_now pa_then ko_stands ka_gaps ka_behind ba_less ba_full s.heap)
    (hl : lv_has ls 7 [(0, .ref qx), (1, .int x1), (2, .int x2), (3, .int x3), (4, .int x4)])
    (hw : q_wx_X10_psalm_0 ta_counts x1 x2 x3 x4 post) :
    W p l e rm_wx_X10_psalm s m args below meth c s.heap [] 0 0 (MQ below (vp_Si post) args s 0 0 (fun _ => False)) (F0 m 0 ls []) := by
  have hx := zc.1
  have hb := zc.2.1
  refine lv_aload_n hx hb dX10_psalm_0 rfl (lv_at hl 0 rfl) ?_
  refine lv_iload_n hx hb dX10_psalm_1 rfl (lv_at hl 1 rfl) ?_
  refine zV_r [.int x1] [] zc ky_X10_landAt kz_X10_landAt km_10_89 (c_wx_X10_landAt l hw) (wxPreV0 hK hM) rfl rfl hl.1 (Nat.le_of_ble_eq_true rfl) ⟨rfl, rfl⟩ ⟨Nat.le_of_ble_eq_true rfl, Nat.le_of_ble_eq_true rfl⟩ ⟨Nat.zero_le _, Nat.zero_le _⟩ dX10_psalm_2 (fun r_1 hw => ?_)
  by_cases hc0 : r_1 = 0
  · have hw := hw.1 hc0
    refine W.eq (g2 := F0 m 5 ls (.null :: [])) (by simp [hc0]) ?_
    refine lv_astoreN (lv' := [(5, .null), (0, .ref qx), (1, .int x1), (2, .int x2), (3, .int x3), (4, .int x4)]) hx hb dX10_psalm_5 hl (by decide) rfl (fun ls hl => ?_)
    refine lv_aloadN hx hb dX10_psalm_7 (lv_at hl 0 rfl) ?_
    refine lv_ifnullN (tgt := 42) hx hb dX10_psalm_9 (by decide) ?_
    refine lv_bipush (v := (-2 : Int32)) hx hb dX10_psalm_42 (by decide) ?_
    exact zret_i zc hw dX10_psalm_44
  by_cases hc1 : r_1 = 1
  · have hw := hw.2.1 hc1
    refine W.eq (g2 := F0 m 5 ls (.ref (qx + 14) :: [])) (by simp [hc0, hc1]) ?_
    refine lv_astore (lv' := [(5, .ref (qx + 14)), (0, .ref qx), (1, .int x1), (2, .int x2), (3, .int x3), (4, .int x4)]) hx hb dX10_psalm_5 hl (by decide) rfl (fun ls hl => ?_)
    refine lv_aload hx hb dX10_psalm_7 (lv_at hl 0 rfl) ?_
    refine lv_ifnull hx hb dX10_psalm_9 ?_
    refine lv_aload hx hb dX10_psalm_12 (lv_at hl 0 rfl) ?_
    refine lv_iload_n hx hb dX10_psalm_14 rfl (lv_at hl 3 rfl) ?_
    exact hw.elim
  have hw := hw.2.2 hc0 hc1
  refine W.eq (g2 := F0 m 5 ls (.ref (qx + 5) :: [])) (by simp [hc0, hc1]) ?_
  refine lv_astore (lv' := [(5, .ref (qx + 5)), (0, .ref qx), (1, .int x1), (2, .int x2), (3, .int x3), (4, .int x4)]) hx hb dX10_psalm_5 hl (by decide) rfl (fun ls hl => ?_)
  refine lv_aload hx hb dX10_psalm_7 (lv_at hl 0 rfl) ?_
  refine lv_ifnull hx hb dX10_psalm_9 ?_
  refine lv_aload hx hb dX10_psalm_12 (lv_at hl 0 rfl) ?_
  refine lv_iload_n hx hb dX10_psalm_14 rfl (lv_at hl 3 rfl) ?_
  exact hw.elim
set_option maxRecDepth 20000 in
theorem c_wx_X10_psalm (l : Launch) {E : zE} {qx : Nat} {ta_tape : Nat → Int32} {tf_length : Int32} {tf_fault : Int32} {tf_place : Int32} {ta_counts : Nat → Int32} {tl0f_huts : Int32} {tl0f_singers : Int32} {tl0f_villages : Int32} {tl0f_dams : Int32} {tl0f_echoes : Int32} {tl0f_deep : Int32} {tl0f_slide : Int32} {tl0a_heights : Nat → Int32} {tl0a_ladders : Nat → Int32} {tl0a_minutes : Nat → Int32} {tl0a_echoFrom : Nat → Int32} {tl0a_echoTo : Nat → Int32} {tl0a_homes : Nat → Int32} {tl0a_talls : Nat → Int32} {tl0a_known : Nat → Int32} {tl1f_huts : Int32} {tl1f_singers : Int32} {tl1f_villages : Int32} {tl1f_dams : Int32} {tl1f_echoes : Int32} {tl1f_deep : Int32} {tl1f_slide : Int32} {tl1a_heights : Nat → Int32} {tl1a_ladders : Nat → Int32} {tl1a_minutes : Nat → Int32} {tl1a_echoFrom : Nat → Int32} {tl1a_echoTo : Nat → Int32} {tl1a_homes : Nat → Int32} {tl1a_talls : Nat → Int32} {tl1a_known : Nat → Int32} {tv0f_deeds : Int32} {tv0a_kinds : Nat → Int32} {tv0a_firsts : Nat → Int32} {tv0a_seconds : Nat → Int32} {tv1f_deeds : Int32} {tv1a_kinds : Nat → Int32} {tv1a_firsts : Nat → Int32} {tv1a_seconds : Nat → Int32} {ts0f_facts : Int32} {ts0a_heard : Nat → Int32} {ts0a_huts : Nat → Int32} {ts0a_minutes : Nat → Int32} {ts1f_facts : Int32} {ts1a_heard : Nat → Int32} {ts1a_huts : Nat → Int32} {ts1a_minutes : Nat → Int32} {tc0f_voices : Int32} {tc0f_step : Int32} {tc0a_parts : Nat → Int32} {tc0a_heights : Nat → Int32} {tc1f_voices : Int32} {tc1f_step : Int32} {tc1a_parts : Nat → Int32} {tc1a_heights : Nat → Int32} {m_images : Nat → Option Nat} {rlf_huts : Int32} {rlf_singers : Int32} {rlf_villages : Int32} {rlf_dams : Int32} {rlf_echoes : Int32} {rlf_deep : Int32} {rlf_slide : Int32} {rla_heights : Nat → Int32} {rla_ladders : Nat → Int32} {rla_minutes : Nat → Int32} {rla_echoFrom : Nat → Int32} {rla_echoTo : Nat → Int32} {rla_homes : Nat → Int32} {rla_talls : Nat → Int32} {rla_known : Nat → Int32} {rvf_deeds : Int32} {rva_kinds : Nat → Int32} {rva_firsts : Nat → Int32} {rva_seconds : Nat → Int32} {rsf_facts : Int32} {rsa_heard : Nat → Int32} {rsa_huts : Nat → Int32} {rsa_minutes : Nat → Int32} {rcf_voices : Int32} {rcf_step : Int32} {rca_parts : Nat → Int32} {rca_heights : Nat → Int32} {rf_fault : Int32} {rf_faultPlace : Int32} {ra_numbers : Nat → Int32} {ra_tape : Nat → Int32} {rf_length : Int32} {rf_behind : Int32} {rf_kind : Int32} {rf_first : Int32} {rf_value : Int32} {rf_hutsToldOf : Int32} {rf_singersToldOf : Int32} {nf_minute : Int32} {nf_avalanches : Int32} {nf_begun : Int32} {nf_climbed : Int32} {nf_seed : Int32} {na_huts : Nat → Int32} {na_known : Nat → Int32} {na_levels : Nat → Int32} {na_snow : Nat → Int32} {na_open : Nat → Int32} {pa_heard : Nat → Int32} {pa_walked : Nat → Int32} {pa_total : Nat → Int32} {pa_longest : Nat → Int32} {pa_next : Nat → Int32} {pa_cover : Nat → Int32} {pa_now : Nat → Int32} {pa_then : Nat → Int32} {ko_stands : Option Nat} {ka_gaps : Nat → Int32} {ka_behind : Nat → Int32} {ba_less : Nat → Int32} {ba_full : Nat → Int32} {x1 : Int32} {x2 : Int32} {x3 : Int32} {x4 : Int32} {post : Int32 → Prop} (hw : q_wx_X10_psalm_0 ta_counts x1 x2 x3 x4 post) : Met l yX10_psalm (Cond.code yX10_psalm cX10_psalm 7 (some .int) :: zb) rm_wx_X10_psalm (va_Pc [.ref qx, .int x1, .int x2, .int x3, .int x4] (fun U => wxW E qx ta_tape tf_length tf_fault tf_place ta_counts tl0f_huts tl0f_singers tl0f_villages tl0f_dams tl0f_echoes tl0f_deep tl0f_slide tl0a_heights tl0a_ladders tl0a_minutes tl0a_echoFrom tl0a_echoTo tl0a_homes tl0a_talls tl0a_known tl1f_huts tl1f_singers tl1f_villages tl1f_dams tl1f_echoes tl1f_deep tl1f_slide tl1a_heights tl1a_ladders tl1a_minutes tl1a_echoFrom tl1a_echoTo tl1a_homes tl1a_talls tl1a_known tv0f_deeds tv0a_kinds tv0a_firsts tv0a_seconds tv1f_deeds tv1a_kinds tv1a_firsts tv1a_seconds ts0f_facts ts0a_heard ts0a_huts ts0a_minutes ts1f_facts ts1a_heard ts1a_huts ts1a_minutes tc0f_voices tc0f_step tc0a_parts tc0a_heights tc1f_voices tc1f_step tc1a_parts tc1a_heights m_images rlf_huts rlf_singers rlf_villages rlf_dams rlf_echoes rlf_deep rlf_slide rla_heights rla_ladders rla_minutes rla_echoFrom rla_echoTo rla_homes rla_talls rla_known rvf_deeds rva_kinds rva_firsts rva_seconds rsf_facts rsa_heard rsa_huts rsa_minutes rcf_voices rcf_step rca_parts rca_heights rf_fault rf_faultPlace ra_numbers ra_tape rf_length rf_behind rf_kind rf_first rf_value rf_hutsToldOf rf_singersToldOf nf_minute nf_avalanches nf_begun nf_climbed nf_seed na_huts na_known na_levels na_snow na_open pa_heard pa_walked pa_total pa_longest pa_next pa_cover pa_now pa_then ko_stands ka_gaps ka_behind ba_less ba_full U.heap ∧ zK E U)) (vp_Si post) 0 0 (fun _ => False) := by
  refine Met.ofW (cc := cX10_psalm) (maxL := 7) (ret := (some .int)) (by decide) rfl ?_
  intro p e s m args below meth c s₁ B hml hv
  obtain ⟨rfl, hM, hK⟩ := hv
  have zc := zc_of B hml
  have hl := lv_entry ([.ref qx, .int x1, .int x2, .int x3, .int x4]) (n := 7) (Nat.le_of_ble_eq_true rfl)
  rw [lg_entry_eq]
  generalize (lg_sl ([.ref qx, .int x1, .int x2, .int x3, .int x4]) ++ List.replicate (7 - (lg_sl ([.ref qx, .int x1, .int x2, .int x3, .int x4])).length) Slot.unset).toArray = ls at hl ⊢
  have hl : lv_has ls 7 [(0, .ref qx), (1, .int x1), (2, .int x2), (3, .int x3), (4, .int x4)] := hl
  exact t_wx_X10_psalm_0 zc hK hM (lv_sub hl [0, 1, 2, 3, 4] rfl) hw
-- wx_X10_meet
abbrev rm_wx_X10_meet : Room := { frames := 1, cells := 0, slots := 0, locals := 21 }
def q_wx_X10_meet_0 (ta_counts : Nat → Int32) (x1 : Int32) (x2 : Int32) (x3 : Int32) (x4 : Int32) (post : Int32 → Prop) : Prop :=
  q_wx_X10_landAt_0 ta_counts x1 (fun r_1 => (r_1 = 0 → (post (-1 : Int32))) ∧ (r_1 = 1 → False) ∧ (¬ r_1 = 0 → ¬ r_1 = 1 → False))
set_option maxRecDepth 20000 in
theorem t_wx_X10_meet_0 {p : Program} {l : Launch} {e : Env} {s : State} {m : MethodId} {args : Array Value} {below : List Frame} {meth : Method} {c : Code} {E : zE} {qx : Nat} {ta_tape : Nat → Int32} {tf_length : Int32} {tf_fault : Int32} {tf_place : Int32} {ta_counts : Nat → Int32} {tl0f_huts : Int32} {tl0f_singers : Int32} {tl0f_villages : Int32} {tl0f_dams : Int32} {tl0f_echoes : Int32} {tl0f_deep : Int32} {tl0f_slide : Int32} {tl0a_heights : Nat → Int32} {tl0a_ladders : Nat → Int32} {tl0a_minutes : Nat → Int32} {tl0a_echoFrom : Nat → Int32} {tl0a_echoTo : Nat → Int32} {tl0a_homes : Nat → Int32} {tl0a_talls : Nat → Int32} {tl0a_known : Nat → Int32} {tl1f_huts : Int32} {tl1f_singers : Int32} {tl1f_villages : Int32} {tl1f_dams : Int32} {tl1f_echoes : Int32} {tl1f_deep : Int32} {tl1f_slide : Int32} {tl1a_heights : Nat → Int32} {tl1a_ladders : Nat → Int32} {tl1a_minutes : Nat → Int32} {tl1a_echoFrom : Nat → Int32} {tl1a_echoTo : Nat → Int32} {tl1a_homes : Nat → Int32} {tl1a_talls : Nat → Int32} {tl1a_known : Nat → Int32} {tv0f_deeds : Int32} {tv0a_kinds : Nat → Int32} {tv0a_firsts : Nat → Int32} {tv0a_seconds : Nat → Int32} {tv1f_deeds : Int32} {tv1a_kinds : Nat → Int32} {tv1a_firsts : Nat → Int32} {tv1a_seconds : Nat → Int32} {ts0f_facts : Int32} {ts0a_heard : Nat → Int32} {ts0a_huts : Nat → Int32} {ts0a_minutes : Nat → Int32} {ts1f_facts : Int32} {ts1a_heard : Nat → Int32} {ts1a_huts : Nat → Int32} {ts1a_minutes : Nat → Int32} {tc0f_voices : Int32} {tc0f_step : Int32} {tc0a_parts : Nat → Int32} {tc0a_heights : Nat → Int32} {tc1f_voices : Int32} {tc1f_step : Int32} {tc1a_parts : Nat → Int32} {tc1a_heights : Nat → Int32} {m_images : Nat → Option Nat} {rlf_huts : Int32} {rlf_singers : Int32} {rlf_villages : Int32} {rlf_dams : Int32} {rlf_echoes : Int32} {rlf_deep : Int32} {rlf_slide : Int32} {rla_heights : Nat → Int32} {rla_ladders : Nat → Int32} {rla_minutes : Nat → Int32} {rla_echoFrom : Nat → Int32} {rla_echoTo : Nat → Int32} {rla_homes : Nat → Int32} {rla_talls : Nat → Int32} {rla_known : Nat → Int32} {rvf_deeds : Int32} {rva_kinds : Nat → Int32} {rva_firsts : Nat → Int32} {rva_seconds : Nat → Int32} {rsf_facts : Int32} {rsa_heard : Nat → Int32} {rsa_huts : Nat → Int32} {rsa_minutes : Nat → Int32} {rcf_voices : Int32} {rcf_step : Int32} {rca_parts : Nat → Int32} {rca_heights : Nat → Int32} {rf_fault : Int32} {rf_faultPlace : Int32} {ra_numbers : Nat → Int32} {ra_tape : Nat → Int32} {rf_length : Int32} {rf_behind : Int32} {rf_kind : Int32} {rf_first : Int32} {rf_value : Int32} {rf_hutsToldOf : Int32} {rf_singersToldOf : Int32} {nf_minute : Int32} {nf_avalanches : Int32} {nf_begun : Int32} {nf_climbed : Int32} {nf_seed : Int32} {na_huts : Nat → Int32} {na_known : Nat → Int32} {na_levels : Nat → Int32} {na_snow : Nat → Int32} {na_open : Nat → Int32} {pa_heard : Nat → Int32} {pa_walked : Nat → Int32} {pa_total : Nat → Int32} {pa_longest : Nat → Int32} {pa_next : Nat → Int32} {pa_cover : Nat → Int32} {pa_now : Nat → Int32} {pa_then : Nat → Int32} {ko_stands : Option Nat} {ka_gaps : Nat → Int32} {ka_behind : Nat → Int32} {ba_less : Nat → Int32} {ba_full : Nat → Int32} {post : Int32 → Prop} {x1 : Int32} {x2 : Int32} {x3 : Int32} {x4 : Int32} {ls : Array Slot}
    (zc : zC p s m args meth c cX10_meet 6 RX10 (some .int))
    (hK : zK E s)
    (hM : wxW E qx ta_tape tf_length tf_fault tf_place ta_counts tl0f_huts tl0f_singers tl0f_villages tl0f_dams tl0f_echoes tl0f_deep tl0f_slide tl0a_heights tl0a_ladders tl0a_minutes tl0a_echoFrom tl0a_echoTo tl0a_homes tl0a_talls tl0a_known tl1f_huts tl1f_singers tl1f_villages tl1f_dams tl1f_echoes tl1f_deep tl1f_slide tl1a_heights tl1a_ladders tl1a_minutes tl1a_echoFrom tl1a_echoTo tl1a_homes tl1a_talls tl1a_known tv0f_deeds tv0a_kinds tv0a_firsts tv0a_seconds tv1f_deeds tv1a_kinds tv1a_firsts tv1a_seconds ts0f_facts ts0a_heard ts0a_huts ts0a_minutes ts1f_facts ts1a_heard ts1a_huts ts1a_minutes tc0f_voices tc0f_step tc0a_parts tc0a_heights tc1f_voices tc1f_step tc1a_parts tc1a_heights m_images rlf_huts rlf_singers rlf_villages rlf_dams rlf_echoes rlf_deep rlf_slide rla_heights rla_ladders rla_minutes rla_echoFrom rla_echoTo rla_homes rla_talls rla_known rvf_deeds rva_kinds rva_firsts rva_seconds rsf_facts rsa_heard rsa_huts rsa_minutes rcf_voices rcf_step rca_parts rca_heights rf_fault rf_faultPlace ra_numbers ra_tape rf_length rf_behind rf_kind rf_first rf_value rf_hutsToldOf rf_singersToldOf nf_minute nf_avalanches nf_begun nf_climbed nf_seed na_huts na_known na_levels na_snow na_open pa_heard pa_walked pa_total pa_longest pa_next pa_cover pa_now pa_then ko_stands ka_gaps ka_behind ba_less ba_full s.heap)
    (hl : lv_has ls 6 [(0, .ref qx), (1, .int x1), (2, .int x2), (3, .int x3), (4, .int x4)])
    (hw : q_wx_X10_meet_0 ta_counts x1 x2 x3 x4 post) :
    W p l e rm_wx_X10_meet s m args below meth c s.heap [] 0 0 (MQ below (vp_Si post) args s 0 0 (fun _ => False)) (F0 m 0 ls []) := by
  have hx := zc.1
  have hb := zc.2.1
  refine lv_aload_n hx hb dX10_meet_0 rfl (lv_at hl 0 rfl) ?_
  refine lv_iload_n hx hb dX10_meet_1 rfl (lv_at hl 1 rfl) ?_
  refine zV_r [.int x1] [] zc ky_X10_landAt kz_X10_landAt km_10_89 (c_wx_X10_landAt l hw) (wxPreV0 hK hM) rfl rfl hl.1 (Nat.le_of_ble_eq_true rfl) ⟨rfl, rfl⟩ ⟨Nat.le_of_ble_eq_true rfl, Nat.le_of_ble_eq_true rfl⟩ ⟨Nat.zero_le _, Nat.zero_le _⟩ dX10_meet_2 (fun r_1 hw => ?_)
  by_cases hc0 : r_1 = 0
  · have hw := hw.1 hc0
    refine W.eq (g2 := F0 m 5 ls (.null :: [])) (by simp [hc0]) ?_
    refine lv_astoreN (lv' := [(5, .null), (0, .ref qx), (1, .int x1), (2, .int x2), (3, .int x3), (4, .int x4)]) hx hb dX10_meet_5 hl (by decide) rfl (fun ls hl => ?_)
    refine lv_aloadN hx hb dX10_meet_7 (lv_at hl 0 rfl) ?_
    refine lv_ifnullN (tgt := 35) hx hb dX10_meet_9 (by decide) ?_
    refine lv_iconst (v := (-1 : Int32)) hx hb dX10_meet_35 (by decide) ?_
    exact zret_i zc hw dX10_meet_36
  by_cases hc1 : r_1 = 1
  · have hw := hw.2.1 hc1
    refine W.eq (g2 := F0 m 5 ls (.ref (qx + 14) :: [])) (by simp [hc0, hc1]) ?_
    refine lv_astore (lv' := [(5, .ref (qx + 14)), (0, .ref qx), (1, .int x1), (2, .int x2), (3, .int x3), (4, .int x4)]) hx hb dX10_meet_5 hl (by decide) rfl (fun ls hl => ?_)
    refine lv_aload hx hb dX10_meet_7 (lv_at hl 0 rfl) ?_
    refine lv_ifnull hx hb dX10_meet_9 ?_
    refine lv_aload hx hb dX10_meet_12 (lv_at hl 0 rfl) ?_
    refine lv_iload_n hx hb dX10_meet_14 rfl (lv_at hl 3 rfl) ?_
    exact hw.elim
  have hw := hw.2.2 hc0 hc1
  refine W.eq (g2 := F0 m 5 ls (.ref (qx + 5) :: [])) (by simp [hc0, hc1]) ?_
  refine lv_astore (lv' := [(5, .ref (qx + 5)), (0, .ref qx), (1, .int x1), (2, .int x2), (3, .int x3), (4, .int x4)]) hx hb dX10_meet_5 hl (by decide) rfl (fun ls hl => ?_)
  refine lv_aload hx hb dX10_meet_7 (lv_at hl 0 rfl) ?_
  refine lv_ifnull hx hb dX10_meet_9 ?_
  refine lv_aload hx hb dX10_meet_12 (lv_at hl 0 rfl) ?_
  refine lv_iload_n hx hb dX10_meet_14 rfl (lv_at hl 3 rfl) ?_
  exact hw.elim
set_option maxRecDepth 20000 in
theorem c_wx_X10_meet (l : Launch) {E : zE} {qx : Nat} {ta_tape : Nat → Int32} {tf_length : Int32} {tf_fault : Int32} {tf_place : Int32} {ta_counts : Nat → Int32} {tl0f_huts : Int32} {tl0f_singers : Int32} {tl0f_villages : Int32} {tl0f_dams : Int32} {tl0f_echoes : Int32} {tl0f_deep : Int32} {tl0f_slide : Int32} {tl0a_heights : Nat → Int32} {tl0a_ladders : Nat → Int32} {tl0a_minutes : Nat → Int32} {tl0a_echoFrom : Nat → Int32} {tl0a_echoTo : Nat → Int32} {tl0a_homes : Nat → Int32} {tl0a_talls : Nat → Int32} {tl0a_known : Nat → Int32} {tl1f_huts : Int32} {tl1f_singers : Int32} {tl1f_villages : Int32} {tl1f_dams : Int32} {tl1f_echoes : Int32} {tl1f_deep : Int32} {tl1f_slide : Int32} {tl1a_heights : Nat → Int32} {tl1a_ladders : Nat → Int32} {tl1a_minutes : Nat → Int32} {tl1a_echoFrom : Nat → Int32} {tl1a_echoTo : Nat → Int32} {tl1a_homes : Nat → Int32} {tl1a_talls : Nat → Int32} {tl1a_known : Nat → Int32} {tv0f_deeds : Int32} {tv0a_kinds : Nat → Int32} {tv0a_firsts : Nat → Int32} {tv0a_seconds : Nat → Int32} {tv1f_deeds : Int32} {tv1a_kinds : Nat → Int32} {tv1a_firsts : Nat → Int32} {tv1a_seconds : Nat → Int32} {ts0f_facts : Int32} {ts0a_heard : Nat → Int32} {ts0a_huts : Nat → Int32} {ts0a_minutes : Nat → Int32} {ts1f_facts : Int32} {ts1a_heard : Nat → Int32} {ts1a_huts : Nat → Int32} {ts1a_minutes : Nat → Int32} {tc0f_voices : Int32} {tc0f_step : Int32} {tc0a_parts : Nat → Int32} {tc0a_heights : Nat → Int32} {tc1f_voices : Int32} {tc1f_step : Int32} {tc1a_parts : Nat → Int32} {tc1a_heights : Nat → Int32} {m_images : Nat → Option Nat} {rlf_huts : Int32} {rlf_singers : Int32} {rlf_villages : Int32} {rlf_dams : Int32} {rlf_echoes : Int32} {rlf_deep : Int32} {rlf_slide : Int32} {rla_heights : Nat → Int32} {rla_ladders : Nat → Int32} {rla_minutes : Nat → Int32} {rla_echoFrom : Nat → Int32} {rla_echoTo : Nat → Int32} {rla_homes : Nat → Int32} {rla_talls : Nat → Int32} {rla_known : Nat → Int32} {rvf_deeds : Int32} {rva_kinds : Nat → Int32} {rva_firsts : Nat → Int32} {rva_seconds : Nat → Int32} {rsf_facts : Int32} {rsa_heard : Nat → Int32} {rsa_huts : Nat → Int32} {rsa_minutes : Nat → Int32} {rcf_voices : Int32} {rcf_step : Int32} {rca_parts : Nat → Int32} {rca_heights : Nat → Int32} {rf_fault : Int32} {rf_faultPlace : Int32} {ra_numbers : Nat → Int32} {ra_tape : Nat → Int32} {rf_length : Int32} {rf_behind : Int32} {rf_kind : Int32} {rf_first : Int32} {rf_value : Int32} {rf_hutsToldOf : Int32} {rf_singersToldOf : Int32} {nf_minute : Int32} {nf_avalanches : Int32} {nf_begun : Int32} {nf_climbed : Int32} {nf_seed : Int32} {na_huts : Nat → Int32} {na_known : Nat → Int32} {na_levels : Nat → Int32} {na_snow : Nat → Int32} {na_open : Nat → Int32} {pa_heard : Nat → Int32} {pa_walked : Nat → Int32} {pa_total : Nat → Int32} {pa_longest : Nat → Int32} {pa_next : Nat → Int32} {pa_cover : Nat → Int32} {pa_now : Nat → Int32} {pa_then : Nat → Int32} {ko_stands : Option Nat} {ka_gaps : Nat → Int32} {ka_behind : Nat → Int32} {ba_less : Nat → Int32} {ba_full : Nat → Int32} {x1 : Int32} {x2 : Int32} {x3 : Int32} {x4 : Int32} {post : Int32 → Prop} (hw : q_wx_X10_meet_0 ta_counts x1 x2 x3 x4 post) : Met l yX10_meet (Cond.code yX10_meet cX10_meet 6 (some .int) :: zb) rm_wx_X10_meet (va_Pc [.ref qx, .int x1, .int x2, .int x3, .int x4] (fun U => wxW E qx ta_tape tf_length tf_fault tf_place ta_counts tl0f_huts tl0f_singers tl0f_villages tl0f_dams tl0f_echoes tl0f_deep tl0f_slide tl0a_heights tl0a_ladders tl0a_minutes tl0a_echoFrom tl0a_echoTo tl0a_homes tl0a_talls tl0a_known tl1f_huts tl1f_singers tl1f_villages tl1f_dams tl1f_echoes tl1f_deep tl1f_slide tl1a_heights tl1a_ladders tl1a_minutes tl1a_echoFrom tl1a_echoTo tl1a_homes tl1a_talls tl1a_known tv0f_deeds tv0a_kinds tv0a_firsts tv0a_seconds tv1f_deeds tv1a_kinds tv1a_firsts tv1a_seconds ts0f_facts ts0a_heard ts0a_huts ts0a_minutes ts1f_facts ts1a_heard ts1a_huts ts1a_minutes tc0f_voices tc0f_step tc0a_parts tc0a_heights tc1f_voices tc1f_step tc1a_parts tc1a_heights m_images rlf_huts rlf_singers rlf_villages rlf_dams rlf_echoes rlf_deep rlf_slide rla_heights rla_ladders rla_minutes rla_echoFrom rla_echoTo rla_homes rla_talls rla_known rvf_deeds rva_kinds rva_firsts rva_seconds rsf_facts rsa_heard rsa_huts rsa_minutes rcf_voices rcf_step rca_parts rca_heights rf_fault rf_faultPlace ra_numbers ra_tape rf_length rf_behind rf_kind rf_first rf_value rf_hutsToldOf rf_singersToldOf nf_minute nf_avalanches nf_begun nf_climbed nf_seed na_huts na_known na_levels na_snow na_open pa_heard pa_walked pa_total pa_longest pa_next pa_cover pa_now pa_then ko_stands ka_gaps ka_behind ba_less ba_full U.heap ∧ zK E U)) (vp_Si post) 0 0 (fun _ => False) := by
  refine Met.ofW (cc := cX10_meet) (maxL := 6) (ret := (some .int)) (by decide) rfl ?_
  intro p e s m args below meth c s₁ B hml hv
  obtain ⟨rfl, hM, hK⟩ := hv
  have zc := zc_of B hml
  have hl := lv_entry ([.ref qx, .int x1, .int x2, .int x3, .int x4]) (n := 6) (Nat.le_of_ble_eq_true rfl)
  rw [lg_entry_eq]
  generalize (lg_sl ([.ref qx, .int x1, .int x2, .int x3, .int x4]) ++ List.replicate (6 - (lg_sl ([.ref qx, .int x1, .int x2, .int x3, .int x4])).length) Slot.unset).toArray = ls at hl ⊢
  have hl : lv_has ls 6 [(0, .ref qx), (1, .int x1), (2, .int x2), (3, .int x3), (4, .int x4)] := hl
  exact t_wx_X10_meet_0 zc hK hM (lv_sub hl [0, 1, 2, 3, 4] rfl) hw
-- wx_X10_carry
abbrev rm_wx_X10_carry : Room := { frames := 1, cells := 0, slots := 0, locals := 21 }
def q_wx_X10_carry_0 (ta_counts : Nat → Int32) (x1 : Int32) (x2 : Int32) (x3 : Int32) (post : Int32 → Prop) : Prop :=
  q_wx_X10_landAt_0 ta_counts x1 (fun r_1 => (r_1 = 0 → (post (-1 : Int32))) ∧ (r_1 = 1 → False) ∧ (¬ r_1 = 0 → ¬ r_1 = 1 → False))
set_option maxRecDepth 20000 in
theorem t_wx_X10_carry_0 {p : Program} {l : Launch} {e : Env} {s : State} {m : MethodId} {args : Array Value} {below : List Frame} {meth : Method} {c : Code} {E : zE} {qx : Nat} {ta_tape : Nat → Int32} {tf_length : Int32} {tf_fault : Int32} {tf_place : Int32} {ta_counts : Nat → Int32} {tl0f_huts : Int32} {tl0f_singers : Int32} {tl0f_villages : Int32} {tl0f_dams : Int32} {tl0f_echoes : Int32} {tl0f_deep : Int32} {tl0f_slide : Int32} {tl0a_heights : Nat → Int32} {tl0a_ladders : Nat → Int32} {tl0a_minutes : Nat → Int32} {tl0a_echoFrom : Nat → Int32} {tl0a_echoTo : Nat → Int32} {tl0a_homes : Nat → Int32} {tl0a_talls : Nat → Int32} {tl0a_known : Nat → Int32} {tl1f_huts : Int32} {tl1f_singers : Int32} {tl1f_villages : Int32} {tl1f_dams : Int32} {tl1f_echoes : Int32} {tl1f_deep : Int32} {tl1f_slide : Int32} {tl1a_heights : Nat → Int32} {tl1a_ladders : Nat → Int32} {tl1a_minutes : Nat → Int32} {tl1a_echoFrom : Nat → Int32} {tl1a_echoTo : Nat → Int32} {tl1a_homes : Nat → Int32} {tl1a_talls : Nat → Int32} {tl1a_known : Nat → Int32} {tv0f_deeds : Int32} {tv0a_kinds : Nat → Int32} {tv0a_firsts : Nat → Int32} {tv0a_seconds : Nat → Int32} {tv1f_deeds : Int32} {tv1a_kinds : Nat → Int32} {tv1a_firsts : Nat → Int32} {tv1a_seconds : Nat → Int32} {ts0f_facts : Int32} {ts0a_heard : Nat → Int32} {ts0a_huts : Nat → Int32} {ts0a_minutes : Nat → Int32} {ts1f_facts : Int32} {ts1a_heard : Nat → Int32} {ts1a_huts : Nat → Int32} {ts1a_minutes : Nat → Int32} {tc0f_voices : Int32} {tc0f_step : Int32} {tc0a_parts : Nat → Int32} {tc0a_heights : Nat → Int32} {tc1f_voices : Int32} {tc1f_step : Int32} {tc1a_parts : Nat → Int32} {tc1a_heights : Nat → Int32} {m_images : Nat → Option Nat} {rlf_huts : Int32} {rlf_singers : Int32} {rlf_villages : Int32} {rlf_dams : Int32} {rlf_echoes : Int32} {rlf_deep : Int32} {rlf_slide : Int32} {rla_heights : Nat → Int32} {rla_ladders : Nat → Int32} {rla_minutes : Nat → Int32} {rla_echoFrom : Nat → Int32} {rla_echoTo : Nat → Int32} {rla_homes : Nat → Int32} {rla_talls : Nat → Int32} {rla_known : Nat → Int32} {rvf_deeds : Int32} {rva_kinds : Nat → Int32} {rva_firsts : Nat → Int32} {rva_seconds : Nat → Int32} {rsf_facts : Int32} {rsa_heard : Nat → Int32} {rsa_huts : Nat → Int32} {rsa_minutes : Nat → Int32} {rcf_voices : Int32} {rcf_step : Int32} {rca_parts : Nat → Int32} {rca_heights : Nat → Int32} {rf_fault : Int32} {rf_faultPlace : Int32} {ra_numbers : Nat → Int32} {ra_tape : Nat → Int32} {rf_length : Int32} {rf_behind : Int32} {rf_kind : Int32} {rf_first : Int32} {rf_value : Int32} {rf_hutsToldOf : Int32} {rf_singersToldOf : Int32} {nf_minute : Int32} {nf_avalanches : Int32} {nf_begun : Int32} {nf_climbed : Int32} {nf_seed : Int32} {na_huts : Nat → Int32} {na_known : Nat → Int32} {na_levels : Nat → Int32} {na_snow : Nat → Int32} {na_open : Nat → Int32} {pa_heard : Nat → Int32} {pa_walked : Nat → Int32} {pa_total : Nat → Int32} {pa_longest : Nat → Int32} {pa_next : Nat → Int32} {pa_cover : Nat → Int32} {pa_now : Nat → Int32} {pa_then : Nat → Int32} {ko_stands : Option Nat} {ka_gaps : Nat → Int32} {ka_behind : Nat → Int32} {ba_less : Nat → Int32} {ba_full : Nat → Int32} {post : Int32 → Prop} {x1 : Int32} {x2 : Int32} {x3 : Int32} {ls : Array Slot}
    (zc : zC p s m args meth c cX10_carry 5 RX10 (some .int))
    (hK : zK E s)
    (hM : wxW E qx ta_tape tf_length tf_fault tf_place ta_counts tl0f_huts tl0f_singers tl0f_villages tl0f_dams tl0f_echoes tl0f_deep tl0f_slide tl0a_heights tl0a_ladders tl0a_minutes tl0a_echoFrom tl0a_echoTo tl0a_homes tl0a_talls tl0a_known tl1f_huts tl1f_singers tl1f_villages tl1f_dams tl1f_echoes tl1f_deep tl1f_slide tl1a_heights tl1a_ladders tl1a_minutes tl1a_echoFrom tl1a_echoTo tl1a_homes tl1a_talls tl1a_known tv0f_deeds tv0a_kinds tv0a_firsts tv0a_seconds tv1f_deeds tv1a_kinds tv1a_firsts tv1a_seconds ts0f_facts ts0a_heard ts0a_huts ts0a_minutes ts1f_facts ts1a_heard ts1a_huts ts1a_minutes tc0f_voices tc0f_step tc0a_parts tc0a_heights tc1f_voices tc1f_step tc1a_parts tc1a_heights m_images rlf_huts rlf_singers rlf_villages rlf_dams rlf_echoes rlf_deep rlf_slide rla_heights rla_ladders rla_minutes rla_echoFrom rla_echoTo rla_homes rla_talls rla_known rvf_deeds rva_kinds rva_firsts rva_seconds rsf_facts rsa_heard rsa_huts rsa_minutes rcf_voices rcf_step rca_parts rca_heights rf_fault rf_faultPlace ra_numbers ra_tape rf_length rf_behind rf_kind rf_first rf_value rf_hutsToldOf rf_singersToldOf nf_minute nf_avalanches nf_begun nf_climbed nf_seed na_huts na_known na_levels na_snow na_open pa_heard pa_walked pa_total pa_longest pa_next pa_cover pa_now pa_then ko_stands ka_gaps ka_behind ba_less ba_full s.heap)
    (hl : lv_has ls 5 [(0, .ref qx), (1, .int x1), (2, .int x2), (3, .int x3)])
    (hw : q_wx_X10_carry_0 ta_counts x1 x2 x3 post) :
    W p l e rm_wx_X10_carry s m args below meth c s.heap [] 0 0 (MQ below (vp_Si post) args s 0 0 (fun _ => False)) (F0 m 0 ls []) := by
  have hx := zc.1
  have hb := zc.2.1
  refine lv_aload_n hx hb dX10_carry_0 rfl (lv_at hl 0 rfl) ?_
  refine lv_iload_n hx hb dX10_carry_1 rfl (lv_at hl 1 rfl) ?_
  refine zV_r [.int x1] [] zc ky_X10_landAt kz_X10_landAt km_10_89 (c_wx_X10_landAt l hw) (wxPreV0 hK hM) rfl rfl hl.1 (Nat.le_of_ble_eq_true rfl) ⟨rfl, rfl⟩ ⟨Nat.le_of_ble_eq_true rfl, Nat.le_of_ble_eq_true rfl⟩ ⟨Nat.zero_le _, Nat.zero_le _⟩ dX10_carry_2 (fun r_1 hw => ?_)
  by_cases hc0 : r_1 = 0
  · have hw := hw.1 hc0
    refine W.eq (g2 := F0 m 5 ls (.null :: [])) (by simp [hc0]) ?_
    refine lv_astoreN (lv' := [(4, .null), (0, .ref qx), (1, .int x1), (2, .int x2), (3, .int x3)]) hx hb dX10_carry_5 hl (by decide) rfl (fun ls hl => ?_)
    refine lv_aloadN hx hb dX10_carry_7 (lv_at hl 0 rfl) ?_
    refine lv_ifnullN (tgt := 21) hx hb dX10_carry_9 (by decide) ?_
    refine lv_iconst (v := (-1 : Int32)) hx hb dX10_carry_21 (by decide) ?_
    exact zret_i zc hw dX10_carry_22
  by_cases hc1 : r_1 = 1
  · have hw := hw.2.1 hc1
    refine W.eq (g2 := F0 m 5 ls (.ref (qx + 14) :: [])) (by simp [hc0, hc1]) ?_
    refine lv_astore (lv' := [(4, .ref (qx + 14)), (0, .ref qx), (1, .int x1), (2, .int x2), (3, .int x3)]) hx hb dX10_carry_5 hl (by decide) rfl (fun ls hl => ?_)
    refine lv_aload hx hb dX10_carry_7 (lv_at hl 0 rfl) ?_
    refine lv_ifnull hx hb dX10_carry_9 ?_
    refine lv_aload hx hb dX10_carry_12 (lv_at hl 0 rfl) ?_
    refine lv_iload_n hx hb dX10_carry_14 rfl (lv_at hl 3 rfl) ?_
    exact hw.elim
  have hw := hw.2.2 hc0 hc1
  refine W.eq (g2 := F0 m 5 ls (.ref (qx + 5) :: [])) (by simp [hc0, hc1]) ?_
  refine lv_astore (lv' := [(4, .ref (qx + 5)), (0, .ref qx), (1, .int x1), (2, .int x2), (3, .int x3)]) hx hb dX10_carry_5 hl (by decide) rfl (fun ls hl => ?_)
  refine lv_aload hx hb dX10_carry_7 (lv_at hl 0 rfl) ?_
  refine lv_ifnull hx hb dX10_carry_9 ?_
  refine lv_aload hx hb dX10_carry_12 (lv_at hl 0 rfl) ?_
  refine lv_iload_n hx hb dX10_carry_14 rfl (lv_at hl 3 rfl) ?_
  exact hw.elim
set_option maxRecDepth 20000 in
theorem c_wx_X10_carry (l : Launch) {E : zE} {qx : Nat} {ta_tape : Nat → Int32} {tf_length : Int32} {tf_fault : Int32} {tf_place : Int32} {ta_counts : Nat → Int32} {tl0f_huts : Int32} {tl0f_singers : Int32} {tl0f_villages : Int32} {tl0f_dams : Int32} {tl0f_echoes : Int32} {tl0f_deep : Int32} {tl0f_slide : Int32} {tl0a_heights : Nat → Int32} {tl0a_ladders : Nat → Int32} {tl0a_minutes : Nat → Int32} {tl0a_echoFrom : Nat → Int32} {tl0a_echoTo : Nat → Int32} {tl0a_homes : Nat → Int32} {tl0a_talls : Nat → Int32} {tl0a_known : Nat → Int32} {tl1f_huts : Int32} {tl1f_singers : Int32} {tl1f_villages : Int32} {tl1f_dams : Int32} {tl1f_echoes : Int32} {tl1f_deep : Int32} {tl1f_slide : Int32} {tl1a_heights : Nat → Int32} {tl1a_ladders : Nat → Int32} {tl1a_minutes : Nat → Int32} {tl1a_echoFrom : Nat → Int32} {tl1a_echoTo : Nat → Int32} {tl1a_homes : Nat → Int32} {tl1a_talls : Nat → Int32} {tl1a_known : Nat → Int32} {tv0f_deeds : Int32} {tv0a_kinds : Nat → Int32} {tv0a_firsts : Nat → Int32} {tv0a_seconds : Nat → Int32} {tv1f_deeds : Int32} {tv1a_kinds : Nat → Int32} {tv1a_firsts : Nat → Int32} {tv1a_seconds : Nat → Int32} {ts0f_facts : Int32} {ts0a_heard : Nat → Int32} {ts0a_huts : Nat → Int32} {ts0a_minutes : Nat → Int32} {ts1f_facts : Int32} {ts1a_heard : Nat → Int32} {ts1a_huts : Nat → Int32} {ts1a_minutes : Nat → Int32} {tc0f_voices : Int32} {tc0f_step : Int32} {tc0a_parts : Nat → Int32} {tc0a_heights : Nat → Int32} {tc1f_voices : Int32} {tc1f_step : Int32} {tc1a_parts : Nat → Int32} {tc1a_heights : Nat → Int32} {m_images : Nat → Option Nat} {rlf_huts : Int32} {rlf_singers : Int32} {rlf_villages : Int32} {rlf_dams : Int32} {rlf_echoes : Int32} {rlf_deep : Int32} {rlf_slide : Int32} {rla_heights : Nat → Int32} {rla_ladders : Nat → Int32} {rla_minutes : Nat → Int32} {rla_echoFrom : Nat → Int32} {rla_echoTo : Nat → Int32} {rla_homes : Nat → Int32} {rla_talls : Nat → Int32} {rla_known : Nat → Int32} {rvf_deeds : Int32} {rva_kinds : Nat → Int32} {rva_firsts : Nat → Int32} {rva_seconds : Nat → Int32} {rsf_facts : Int32} {rsa_heard : Nat → Int32} {rsa_huts : Nat → Int32} {rsa_minutes : Nat → Int32} {rcf_voices : Int32} {rcf_step : Int32} {rca_parts : Nat → Int32} {rca_heights : Nat → Int32} {rf_fault : Int32} {rf_faultPlace : Int32} {ra_numbers : Nat → Int32} {ra_tape : Nat → Int32} {rf_length : Int32} {rf_behind : Int32} {rf_kind : Int32} {rf_first : Int32} {rf_value : Int32} {rf_hutsToldOf : Int32} {rf_singersToldOf : Int32} {nf_minute : Int32} {nf_avalanches : Int32} {nf_begun : Int32} {nf_climbed : Int32} {nf_seed : Int32} {na_huts : Nat → Int32} {na_known : Nat → Int32} {na_levels : Nat → Int32} {na_snow : Nat → Int32} {na_open : Nat → Int32} {pa_heard : Nat → Int32} {pa_walked : Nat → Int32} {pa_total : Nat → Int32} {pa_longest : Nat → Int32} {pa_next : Nat → Int32} {pa_cover : Nat → Int32} {pa_now : Nat → Int32} {pa_then : Nat → Int32} {ko_stands : Option Nat} {ka_gaps : Nat → Int32} {ka_behind : Nat → Int32} {ba_less : Nat → Int32} {ba_full : Nat → Int32} {x1 : Int32} {x2 : Int32} {x3 : Int32} {post : Int32 → Prop} (hw : q_wx_X10_carry_0 ta_counts x1 x2 x3 post) : Met l yX10_carry (Cond.code yX10_carry cX10_carry 5 (some .int) :: zb) rm_wx_X10_carry (va_Pc [.ref qx, .int x1, .int x2, .int x3] (fun U => wxW E qx ta_tape tf_length tf_fault tf_place ta_counts tl0f_huts tl0f_singers tl0f_villages tl0f_dams tl0f_echoes tl0f_deep tl0f_slide tl0a_heights tl0a_ladders tl0a_minutes tl0a_echoFrom tl0a_echoTo tl0a_homes tl0a_talls tl0a_known tl1f_huts tl1f_singers tl1f_villages tl1f_dams tl1f_echoes tl1f_deep tl1f_slide tl1a_heights tl1a_ladders tl1a_minutes tl1a_echoFrom tl1a_echoTo tl1a_homes tl1a_talls tl1a_known tv0f_deeds tv0a_kinds tv0a_firsts tv0a_seconds tv1f_deeds tv1a_kinds tv1a_firsts tv1a_seconds ts0f_facts ts0a_heard ts0a_huts ts0a_minutes ts1f_facts ts1a_heard ts1a_huts ts1a_minutes tc0f_voices tc0f_step tc0a_parts tc0a_heights tc1f_voices tc1f_step tc1a_parts tc1a_heights m_images rlf_huts rlf_singers rlf_villages rlf_dams rlf_echoes rlf_deep rlf_slide rla_heights rla_ladders rla_minutes rla_echoFrom rla_echoTo rla_homes rla_talls rla_known rvf_deeds rva_kinds rva_firsts rva_seconds rsf_facts rsa_heard rsa_huts rsa_minutes rcf_voices rcf_step rca_parts rca_heights rf_fault rf_faultPlace ra_numbers ra_tape rf_length rf_behind rf_kind rf_first rf_value rf_hutsToldOf rf_singersToldOf nf_minute nf_avalanches nf_begun nf_climbed nf_seed na_huts na_known na_levels na_snow na_open pa_heard pa_walked pa_total pa_longest pa_next pa_cover pa_now pa_then ko_stands ka_gaps ka_behind ba_less ba_full U.heap ∧ zK E U)) (vp_Si post) 0 0 (fun _ => False) := by
  refine Met.ofW (cc := cX10_carry) (maxL := 5) (ret := (some .int)) (by decide) rfl ?_
  intro p e s m args below meth c s₁ B hml hv
  obtain ⟨rfl, hM, hK⟩ := hv
  have zc := zc_of B hml
  have hl := lv_entry ([.ref qx, .int x1, .int x2, .int x3]) (n := 5) (Nat.le_of_ble_eq_true rfl)
  rw [lg_entry_eq]
  generalize (lg_sl ([.ref qx, .int x1, .int x2, .int x3]) ++ List.replicate (5 - (lg_sl ([.ref qx, .int x1, .int x2, .int x3])).length) Slot.unset).toArray = ls at hl ⊢
  have hl : lv_has ls 5 [(0, .ref qx), (1, .int x1), (2, .int x2), (3, .int x3)] := hl
  exact t_wx_X10_carry_0 zc hK hM (lv_sub hl [0, 1, 2, 3] rfl) hw
-- wx_X10_join
abbrev rm_wx_X10_join : Room := { frames := 1, cells := 0, slots := 0, locals := 21 }
def q_wx_X10_join_0 (ta_counts : Nat → Int32) (x1 : Int32) (x2 : Int32) (x3 : Int32) (x4 : Int32) (post : Int32 → Prop) : Prop :=
  q_wx_X10_landAt_0 ta_counts x1 (fun r_1 => (r_1 = 0 → (post (-1 : Int32))) ∧ (r_1 = 1 → False) ∧ (¬ r_1 = 0 → ¬ r_1 = 1 → False))
set_option maxRecDepth 20000 in
theorem t_wx_X10_join_0 {p : Program} {l : Launch} {e : Env} {s : State} {m : MethodId} {args : Array Value} {below : List Frame} {meth : Method} {c : Code} {E : zE} {qx : Nat} {ta_tape : Nat → Int32} {tf_length : Int32} {tf_fault : Int32} {tf_place : Int32} {ta_counts : Nat → Int32} {tl0f_huts : Int32} {tl0f_singers : Int32} {tl0f_villages : Int32} {tl0f_dams : Int32} {tl0f_echoes : Int32} {tl0f_deep : Int32} {tl0f_slide : Int32} {tl0a_heights : Nat → Int32} {tl0a_ladders : Nat → Int32} {tl0a_minutes : Nat → Int32} {tl0a_echoFrom : Nat → Int32} {tl0a_echoTo : Nat → Int32} {tl0a_homes : Nat → Int32} {tl0a_talls : Nat → Int32} {tl0a_known : Nat → Int32} {tl1f_huts : Int32} {tl1f_singers : Int32} {tl1f_villages : Int32} {tl1f_dams : Int32} {tl1f_echoes : Int32} {tl1f_deep : Int32} {tl1f_slide : Int32} {tl1a_heights : Nat → Int32} {tl1a_ladders : Nat → Int32} {tl1a_minutes : Nat → Int32} {tl1a_echoFrom : Nat → Int32} {tl1a_echoTo : Nat → Int32} {tl1a_homes : Nat → Int32} {tl1a_talls : Nat → Int32} {tl1a_known : Nat → Int32} {tv0f_deeds : Int32} {tv0a_kinds : Nat → Int32} {tv0a_firsts : Nat → Int32} {tv0a_seconds : Nat → Int32} {tv1f_deeds : Int32} {tv1a_kinds : Nat → Int32} {tv1a_firsts : Nat → Int32} {tv1a_seconds : Nat → Int32} {ts0f_facts : Int32} {ts0a_heard : Nat → Int32} {ts0a_huts : Nat → Int32} {ts0a_minutes : Nat → Int32} {ts1f_facts : Int32} {ts1a_heard : Nat → Int32} {ts1a_huts : Nat → Int32} {ts1a_minutes : Nat → Int32} {tc0f_voices : Int32} {tc0f_step : Int32} {tc0a_parts : Nat → Int32} {tc0a_heights : Nat → Int32} {tc1f_voices : Int32} {tc1f_step : Int32} {tc1a_parts : Nat → Int32} {tc1a_heights : Nat → Int32} {m_images : Nat → Option Nat} {rlf_huts : Int32} {rlf_singers : Int32} {rlf_villages : Int32} {rlf_dams : Int32} {rlf_echoes : Int32} {rlf_deep : Int32} {rlf_slide : Int32} {rla_heights : Nat → Int32} {rla_ladders : Nat → Int32} {rla_minutes : Nat → Int32} {rla_echoFrom : Nat → Int32} {rla_echoTo : Nat → Int32} {rla_homes : Nat → Int32} {rla_talls : Nat → Int32} {rla_known : Nat → Int32} {rvf_deeds : Int32} {rva_kinds : Nat → Int32} {rva_firsts : Nat → Int32} {rva_seconds : Nat → Int32} {rsf_facts : Int32} {rsa_heard : Nat → Int32} {rsa_huts : Nat → Int32} {rsa_minutes : Nat → Int32} {rcf_voices : Int32} {rcf_step : Int32} {rca_parts : Nat → Int32} {rca_heights : Nat → Int32} {rf_fault : Int32} {rf_faultPlace : Int32} {ra_numbers : Nat → Int32} {ra_tape : Nat → Int32} {rf_length : Int32} {rf_behind : Int32} {rf_kind : Int32} {rf_first : Int32} {rf_value : Int32} {rf_hutsToldOf : Int32} {rf_singersToldOf : Int32} {nf_minute : Int32} {nf_avalanches : Int32} {nf_begun : Int32} {nf_climbed : Int32} {nf_seed : Int32} {na_huts : Nat → Int32} {na_known : Nat → Int32} {na_levels : Nat → Int32} {na_snow : Nat → Int32} {na_open : Nat → Int32} {pa_heard : Nat → Int32} {pa_walked : Nat → Int32} {pa_total : Nat → Int32} {pa_longest : Nat → Int32} {pa_next : Nat → Int32} {pa_cover : Nat → Int32} {pa_now : Nat → Int32} {pa_then : Nat → Int32} {ko_stands : Option Nat} {ka_gaps : Nat → Int32} {ka_behind : Nat → Int32} {ba_less : Nat → Int32} {ba_full : Nat → Int32} {post : Int32 → Prop} {x1 : Int32} {x2 : Int32} {x3 : Int32} {x4 : Int32} {ls : Array Slot}
    (zc : zC p s m args meth c cX10_join 6 RX10 (some .int))
    (hK : zK E s)
    (hM : wxW E qx ta_tape tf_length tf_fault tf_place ta_counts tl0f_huts tl0f_singers tl0f_villages tl0f_dams tl0f_echoes tl0f_deep tl0f_slide tl0a_heights tl0a_ladders tl0a_minutes tl0a_echoFrom tl0a_echoTo tl0a_homes tl0a_talls tl0a_known tl1f_huts tl1f_singers tl1f_villages tl1f_dams tl1f_echoes tl1f_deep tl1f_slide tl1a_heights tl1a_ladders tl1a_minutes tl1a_echoFrom tl1a_echoTo tl1a_homes tl1a_talls tl1a_known tv0f_deeds tv0a_kinds tv0a_firsts tv0a_seconds tv1f_deeds tv1a_kinds tv1a_firsts tv1a_seconds ts0f_facts ts0a_heard ts0a_huts ts0a_minutes ts1f_facts ts1a_heard ts1a_huts ts1a_minutes tc0f_voices tc0f_step tc0a_parts tc0a_heights tc1f_voices tc1f_step tc1a_parts tc1a_heights m_images rlf_huts rlf_singers rlf_villages rlf_dams rlf_echoes rlf_deep rlf_slide rla_heights rla_ladders rla_minutes rla_echoFrom rla_echoTo rla_homes rla_talls rla_known rvf_deeds rva_kinds rva_firsts rva_seconds rsf_facts rsa_heard rsa_huts rsa_minutes rcf_voices rcf_step rca_parts rca_heights rf_fault rf_faultPlace ra_numbers ra_tape rf_length rf_behind rf_kind rf_first rf_value rf_hutsToldOf rf_singersToldOf nf_minute nf_avalanches nf_begun nf_climbed nf_seed na_huts na_known na_levels na_snow na_open pa_heard pa_walked pa_total pa_longest pa_next pa_cover pa_now pa_then ko_stands ka_gaps ka_behind ba_less ba_full s.heap)
    (hl : lv_has ls 6 [(0, .ref qx), (1, .int x1), (2, .int x2), (3, .int x3), (4, .int x4)])
    (hw : q_wx_X10_join_0 ta_counts x1 x2 x3 x4 post) :
    W p l e rm_wx_X10_join s m args below meth c s.heap [] 0 0 (MQ below (vp_Si post) args s 0 0 (fun _ => False)) (F0 m 0 ls []) := by
  have hx := zc.1
  have hb := zc.2.1
  refine lv_aload_n hx hb dX10_join_0 rfl (lv_at hl 0 rfl) ?_
  refine lv_iload_n hx hb dX10_join_1 rfl (lv_at hl 1 rfl) ?_
  refine zV_r [.int x1] [] zc ky_X10_landAt kz_X10_landAt km_10_89 (c_wx_X10_landAt l hw) (wxPreV0 hK hM) rfl rfl hl.1 (Nat.le_of_ble_eq_true rfl) ⟨rfl, rfl⟩ ⟨Nat.le_of_ble_eq_true rfl, Nat.le_of_ble_eq_true rfl⟩ ⟨Nat.zero_le _, Nat.zero_le _⟩ dX10_join_2 (fun r_1 hw => ?_)
  by_cases hc0 : r_1 = 0
  · have hw := hw.1 hc0
    refine W.eq (g2 := F0 m 5 ls (.null :: [])) (by simp [hc0]) ?_
    refine lv_astoreN (lv' := [(5, .null), (0, .ref qx), (1, .int x1), (2, .int x2), (3, .int x3), (4, .int x4)]) hx hb dX10_join_5 hl (by decide) rfl (fun ls hl => ?_)
    refine lv_aloadN hx hb dX10_join_7 (lv_at hl 0 rfl) ?_
    refine lv_ifnullN (tgt := 30) hx hb dX10_join_9 (by decide) ?_
    refine lv_iconst (v := (-1 : Int32)) hx hb dX10_join_30 (by decide) ?_
    exact zret_i zc hw dX10_join_31
  by_cases hc1 : r_1 = 1
  · have hw := hw.2.1 hc1
    refine W.eq (g2 := F0 m 5 ls (.ref (qx + 14) :: [])) (by simp [hc0, hc1]) ?_
    refine lv_astore (lv' := [(5, .ref (qx + 14)), (0, .ref qx), (1, .int x1), (2, .int x2), (3, .int x3), (4, .int x4)]) hx hb dX10_join_5 hl (by decide) rfl (fun ls hl => ?_)
    refine lv_aload hx hb dX10_join_7 (lv_at hl 0 rfl) ?_
    refine lv_ifnull hx hb dX10_join_9 ?_
    refine lv_aload hx hb dX10_join_12 (lv_at hl 0 rfl) ?_
    refine lv_iload_n hx hb dX10_join_14 rfl (lv_at hl 3 rfl) ?_
    exact hw.elim
  have hw := hw.2.2 hc0 hc1
  refine W.eq (g2 := F0 m 5 ls (.ref (qx + 5) :: [])) (by simp [hc0, hc1]) ?_
  refine lv_astore (lv' := [(5, .ref (qx + 5)), (0, .ref qx), (1, .int x1), (2, .int x2), (3, .int x3), (4, .int x4)]) hx hb dX10_join_5 hl (by decide) rfl (fun ls hl => ?_)
  refine lv_aload hx hb dX10_join_7 (lv_at hl 0 rfl) ?_
  refine lv_ifnull hx hb dX10_join_9 ?_
  refine lv_aload hx hb dX10_join_12 (lv_at hl 0 rfl) ?_
  refine lv_iload_n hx hb dX10_join_14 rfl (lv_at hl 3 rfl) ?_
  exact hw.elim
set_option maxRecDepth 20000 in
theorem c_wx_X10_join (l : Launch) {E : zE} {qx : Nat} {ta_tape : Nat → Int32} {tf_length : Int32} {tf_fault : Int32} {tf_place : Int32} {ta_counts : Nat → Int32} {tl0f_huts : Int32} {tl0f_singers : Int32} {tl0f_villages : Int32} {tl0f_dams : Int32} {tl0f_echoes : Int32} {tl0f_deep : Int32} {tl0f_slide : Int32} {tl0a_heights : Nat → Int32} {tl0a_ladders : Nat → Int32} {tl0a_minutes : Nat → Int32} {tl0a_echoFrom : Nat → Int32} {tl0a_echoTo : Nat → Int32} {tl0a_homes : Nat → Int32} {tl0a_talls : Nat → Int32} {tl0a_known : Nat → Int32} {tl1f_huts : Int32} {tl1f_singers : Int32} {tl1f_villages : Int32} {tl1f_dams : Int32} {tl1f_echoes : Int32} {tl1f_deep : Int32} {tl1f_slide : Int32} {tl1a_heights : Nat → Int32} {tl1a_ladders : Nat → Int32} {tl1a_minutes : Nat → Int32} {tl1a_echoFrom : Nat → Int32} {tl1a_echoTo : Nat → Int32} {tl1a_homes : Nat → Int32} {tl1a_talls : Nat → Int32} {tl1a_known : Nat → Int32} {tv0f_deeds : Int32} {tv0a_kinds : Nat → Int32} {tv0a_firsts : Nat → Int32} {tv0a_seconds : Nat → Int32} {tv1f_deeds : Int32} {tv1a_kinds : Nat → Int32} {tv1a_firsts : Nat → Int32} {tv1a_seconds : Nat → Int32} {ts0f_facts : Int32} {ts0a_heard : Nat → Int32} {ts0a_huts : Nat → Int32} {ts0a_minutes : Nat → Int32} {ts1f_facts : Int32} {ts1a_heard : Nat → Int32} {ts1a_huts : Nat → Int32} {ts1a_minutes : Nat → Int32} {tc0f_voices : Int32} {tc0f_step : Int32} {tc0a_parts : Nat → Int32} {tc0a_heights : Nat → Int32} {tc1f_voices : Int32} {tc1f_step : Int32} {tc1a_parts : Nat → Int32} {tc1a_heights : Nat → Int32} {m_images : Nat → Option Nat} {rlf_huts : Int32} {rlf_singers : Int32} {rlf_villages : Int32} {rlf_dams : Int32} {rlf_echoes : Int32} {rlf_deep : Int32} {rlf_slide : Int32} {rla_heights : Nat → Int32} {rla_ladders : Nat → Int32} {rla_minutes : Nat → Int32} {rla_echoFrom : Nat → Int32} {rla_echoTo : Nat → Int32} {rla_homes : Nat → Int32} {rla_talls : Nat → Int32} {rla_known : Nat → Int32} {rvf_deeds : Int32} {rva_kinds : Nat → Int32} {rva_firsts : Nat → Int32} {rva_seconds : Nat → Int32} {rsf_facts : Int32} {rsa_heard : Nat → Int32} {rsa_huts : Nat → Int32} {rsa_minutes : Nat → Int32} {rcf_voices : Int32} {rcf_step : Int32} {rca_parts : Nat → Int32} {rca_heights : Nat → Int32} {rf_fault : Int32} {rf_faultPlace : Int32} {ra_numbers : Nat → Int32} {ra_tape : Nat → Int32} {rf_length : Int32} {rf_behind : Int32} {rf_kind : Int32} {rf_first : Int32} {rf_value : Int32} {rf_hutsToldOf : Int32} {rf_singersToldOf : Int32} {nf_minute : Int32} {nf_avalanches : Int32} {nf_begun : Int32} {nf_climbed : Int32} {nf_seed : Int32} {na_huts : Nat → Int32} {na_known : Nat → Int32} {na_levels : Nat → Int32} {na_snow : Nat → Int32} {na_open : Nat → Int32} {pa_heard : Nat → Int32} {pa_walked : Nat → Int32} {pa_total : Nat → Int32} {pa_longest : Nat → Int32} {pa_next : Nat → Int32} {pa_cover : Nat → Int32} {pa_now : Nat → Int32} {pa_then : Nat → Int32} {ko_stands : Option Nat} {ka_gaps : Nat → Int32} {ka_behind : Nat → Int32} {ba_less : Nat → Int32} {ba_full : Nat → Int32} {x1 : Int32} {x2 : Int32} {x3 : Int32} {x4 : Int32} {post : Int32 → Prop} (hw : q_wx_X10_join_0 ta_counts x1 x2 x3 x4 post) : Met l yX10_join (Cond.code yX10_join cX10_join 6 (some .int) :: zb) rm_wx_X10_join (va_Pc [.ref qx, .int x1, .int x2, .int x3, .int x4] (fun U => wxW E qx ta_tape tf_length tf_fault tf_place ta_counts tl0f_huts tl0f_singers tl0f_villages tl0f_dams tl0f_echoes tl0f_deep tl0f_slide tl0a_heights tl0a_ladders tl0a_minutes tl0a_echoFrom tl0a_echoTo tl0a_homes tl0a_talls tl0a_known tl1f_huts tl1f_singers tl1f_villages tl1f_dams tl1f_echoes tl1f_deep tl1f_slide tl1a_heights tl1a_ladders tl1a_minutes tl1a_echoFrom tl1a_echoTo tl1a_homes tl1a_talls tl1a_known tv0f_deeds tv0a_kinds tv0a_firsts tv0a_seconds tv1f_deeds tv1a_kinds tv1a_firsts tv1a_seconds ts0f_facts ts0a_heard ts0a_huts ts0a_minutes ts1f_facts ts1a_heard ts1a_huts ts1a_minutes tc0f_voices tc0f_step tc0a_parts tc0a_heights tc1f_voices tc1f_step tc1a_parts tc1a_heights m_images rlf_huts rlf_singers rlf_villages rlf_dams rlf_echoes rlf_deep rlf_slide rla_heights rla_ladders rla_minutes rla_echoFrom rla_echoTo rla_homes rla_talls rla_known rvf_deeds rva_kinds rva_firsts rva_seconds rsf_facts rsa_heard rsa_huts rsa_minutes rcf_voices rcf_step rca_parts rca_heights rf_fault rf_faultPlace ra_numbers ra_tape rf_length rf_behind rf_kind rf_first rf_value rf_hutsToldOf rf_singersToldOf nf_minute nf_avalanches nf_begun nf_climbed nf_seed na_huts na_known na_levels na_snow na_open pa_heard pa_walked pa_total pa_longest pa_next pa_cover pa_now pa_then ko_stands ka_gaps ka_behind ba_less ba_full U.heap ∧ zK E U)) (vp_Si post) 0 0 (fun _ => False) := by
  refine Met.ofW (cc := cX10_join) (maxL := 6) (ret := (some .int)) (by decide) rfl ?_
  intro p e s m args below meth c s₁ B hml hv
  obtain ⟨rfl, hM, hK⟩ := hv
  have zc := zc_of B hml
  have hl := lv_entry ([.ref qx, .int x1, .int x2, .int x3, .int x4]) (n := 6) (Nat.le_of_ble_eq_true rfl)
  rw [lg_entry_eq]
  generalize (lg_sl ([.ref qx, .int x1, .int x2, .int x3, .int x4]) ++ List.replicate (6 - (lg_sl ([.ref qx, .int x1, .int x2, .int x3, .int x4])).length) Slot.unset).toArray = ls at hl ⊢
  have hl : lv_has ls 6 [(0, .ref qx), (1, .int x1), (2, .int x2), (3, .int x3), (4, .int x4)] := hl
  exact t_wx_X10_join_0 zc hK hM (lv_sub hl [0, 1, 2, 3, 4] rfl) hw
