section
-- wx_X9_put
set_option maxRecDepth 20000 in
theorem s_wx_X9_put_3 {ta_tape : Nat → Int32} {tf_length : Int32} {x1 : Int32} {x2 : Int32} {post : (Nat → Int32) → (Int32) → Prop} (k_ta_tape : ∀ j, iv (-128) 127 (ta_tape j)) (k_tf_length : iv 0 600 tf_length) (hx2 : iv (-8) 24 x2) (hpost : ∀ (ta_tape : Nat → Int32) (tf_length : Int32), (∀ j, iv (-128) 127 (ta_tape j)) → (iv 0 600 tf_length) → post ta_tape tf_length) : q_wx_X9_put_3 ta_tape tf_length x1 x2 post := by
  intro P hP
  have loop : ∀ (n : Nat) (x2 : Int32) (ta_tape : Nat → Int32) (tf_length : Int32), (x2.toInt - (-8) < (n : Int)) → (iv (-8) 24 x2) → (∀ j, iv (-128) 127 (ta_tape j)) → (iv 0 600 tf_length) → P x2 ta_tape tf_length := by
    intro n
    induction n with
    | zero => intro x2 ta_tape tf_length hm hx2 k_ta_tape k_tf_length; exact (ms0_dn hm hx2).elim
    | succ n ih =>
      intro x2 ta_tape tf_length hm hx2 k_ta_tape k_tf_length
      apply hP
      refine ⟨fun c1 => ?_, fun c1 => ?_⟩
      · skip
        exact hpost _ _ k_ta_tape k_tf_length
      · skip
        refine ⟨fun c2 => ?_, fun c2 => ?_⟩
        · skip
          exact hpost _ _ k_ta_tape (iv_w (iv_leb (l := 600) (h := 600) (r_le c2) (iv_lit (l := 600) (h := 600) (by decide)) k_tf_length (by decide)) (by decide))
        · skip
          intro w3 ew3
          have hw3 := iv_eq ew3 (iv_i2b _)
          refine ⟨iv_in (iv_lta (l := 0) (h := 599) (r_nle c2) k_tf_length (iv_lit (l := 600) (h := 600) (by decide)) (by decide)) (by decide), ?_⟩
          intro a4 ea4
          have k_a4 := iv_updB ea4 k_ta_tape
          intro w5 ew5
          have hw5 := iv_eq ew5 (iv_add (l := 1) (h := 600) (iv_lta (l := 0) (h := 599) (r_nle c2) k_tf_length (iv_lit (l := 600) (h := 600) (by decide)) (by decide)) (iv_lit (l := 1) (h := 1) (by decide)) (by decide))
          intro w6 ew6
          have hw6 := iv_eq ew6 (iv_add (l := (-8)) (h := 16) (iv_leb (l := 0) (h := 24) (r_nlt c1) (iv_lit (l := 0) (h := 0) (by decide)) hx2 (by decide)) (iv_lit (l := (-8)) (h := (-8)) (by decide)) (by decide))
          exact ih _ _ _ (ms_dn hm (dec_lt ew6 (iv_leb (l := 0) (h := 24) (r_nlt c1) (iv_lit (l := 0) (h := 0) (by decide)) hx2 (by decide)) (by decide))) (iv_w hw6 (by decide)) k_a4 (iv_w hw5 (by decide))
  exact loop _ _ _ _ (ms_init_dn _ _) hx2 k_ta_tape k_tf_length
set_option maxRecDepth 20000 in
theorem s_wx_X9_put_0 {ta_tape : Nat → Int32} {tf_length : Int32} {x1 : Int32} {post : (Nat → Int32) → (Int32) → Prop} (k_ta_tape : ∀ j, iv (-128) 127 (ta_tape j)) (k_tf_length : iv 0 600 tf_length) (hpost : ∀ (ta_tape : Nat → Int32) (tf_length : Int32), (∀ j, iv (-128) 127 (ta_tape j)) → (iv 0 600 tf_length) → post ta_tape tf_length) : q_wx_X9_put_0 ta_tape tf_length x1 post := by
  exact s_wx_X9_put_3 k_ta_tape k_tf_length (iv_w (iv_lit (l := 24) (h := 24) (by decide)) (by decide)) hpost
-- wx_X10_feed
set_option maxRecDepth 20000 in
theorem s_wx_X10_feed_0 {ta_tape : Nat → Int32} {tf_length : Int32} {x1 : Int32} {x2 : Int32} {x3 : Int32} {x4 : Int32} {x5 : Int32} {post : Int32 → (Nat → Int32) → (Int32) → Prop} (k_ta_tape : ∀ j, iv (-128) 127 (ta_tape j)) (k_tf_length : iv 0 600 tf_length) (hpost : ∀ (r : Int32) (ta_tape : Nat → Int32) (tf_length : Int32), iv (-1) 600 r → (∀ j, iv (-128) 127 (ta_tape j)) → (iv 0 600 tf_length) → post r ta_tape tf_length) : q_wx_X10_feed_0 ta_tape tf_length x1 x2 x3 x4 x5 post := by
  refine ⟨fun c1 => ?_, fun c1 => ?_⟩
  · skip
    refine s_wx_X9_put_0 k_ta_tape k_tf_length (fun o2 o3 k_o2 k_o3 => ?_)
    refine s_wx_X9_put_0 k_o2 k_o3 (fun o4 o5 k_o4 k_o5 => ?_)
    refine s_wx_X9_put_0 k_o4 k_o5 (fun o6 o7 k_o6 k_o7 => ?_)
    refine s_wx_X9_put_0 k_o6 k_o7 (fun o8 o9 k_o8 k_o9 => ?_)
    refine s_wx_X9_put_0 k_o8 k_o9 (fun o10 o11 k_o10 k_o11 => ?_)
    exact hpost _ _ _ (iv_w k_o11 (by decide)) k_o10 k_o11
  · skip
    exact hpost _ _ _ (iv_w (iv_lit (l := (-1)) (h := (-1)) (by decide)) (by decide)) k_ta_tape k_tf_length
-- wx_X10_end
set_option maxRecDepth 20000 in
theorem s_wx_X10_end_0 {tf_length : Int32} {x1 : Int32} {post : Int32 → (Int32) → Prop} (k_tf_length : iv 0 600 tf_length) (hpost : ∀ (r : Int32) (tf_length : Int32), iv (-1) 600 r → (iv 0 600 tf_length) → post r tf_length) : q_wx_X10_end_0 tf_length x1 post := by
  refine ⟨fun c1 => ?_, fun c1 => ?_⟩
  · skip
    exact hpost _ _ (iv_w (iv_lit (l := (-1)) (h := (-1)) (by decide)) (by decide)) k_tf_length
  · skip
    refine ⟨fun c2 => ?_, fun c2 => ?_⟩
    · skip
      exact hpost _ _ (iv_w (iv_lea (l := 0) (h := 600) (r_le c2) (iv_leb (l := 0) (h := 2147483647) (r_nlt c1) (iv_lit (l := 0) (h := 0) (by decide)) (iv_top x1) (by decide)) k_tf_length (by decide)) (by decide)) (iv_lea (l := 0) (h := 600) (r_le c2) (iv_leb (l := 0) (h := 2147483647) (r_nlt c1) (iv_lit (l := 0) (h := 0) (by decide)) (iv_top x1) (by decide)) k_tf_length (by decide))
    · skip
      exact hpost _ _ (iv_w (iv_lit (l := (-1)) (h := (-1)) (by decide)) (by decide)) k_tf_length
-- wx_X10_keep
set_option maxRecDepth 20000 in
theorem s_wx_X10_keep_99 {ta_counts : Nat → Int32} {tl0f_huts : Int32} {tl0f_singers : Int32} {tl0f_villages : Int32} {tl0f_dams : Int32} {tl0f_echoes : Int32} {tl0f_deep : Int32} {tl0f_slide : Int32} {tl0a_heights : Nat → Int32} {tl0a_ladders : Nat → Int32} {tl0a_minutes : Nat → Int32} {tl0a_echoFrom : Nat → Int32} {tl0a_echoTo : Nat → Int32} {tl0a_homes : Nat → Int32} {tl0a_talls : Nat → Int32} {tl0a_known : Nat → Int32} {tl1f_huts : Int32} {tl1f_singers : Int32} {tl1f_villages : Int32} {tl1f_dams : Int32} {tl1f_echoes : Int32} {tl1f_deep : Int32} {tl1f_slide : Int32} {tl1a_heights : Nat → Int32} {tl1a_ladders : Nat → Int32} {tl1a_minutes : Nat → Int32} {tl1a_echoFrom : Nat → Int32} {tl1a_echoTo : Nat → Int32} {tl1a_homes : Nat → Int32} {tl1a_talls : Nat → Int32} {tl1a_known : Nat → Int32} {tv0f_deeds : Int32} {tv0a_kinds : Nat → Int32} {tv0a_firsts : Nat → Int32} {tv0a_seconds : Nat → Int32} {tv1f_deeds : Int32} {tv1a_kinds : Nat → Int32} {tv1a_firsts : Nat → Int32} {tv1a_seconds : Nat → Int32} {ts0f_facts : Int32} {ts0a_heard : Nat → Int32} {ts0a_huts : Nat → Int32} {ts0a_minutes : Nat → Int32} {ts1f_facts : Int32} {ts1a_heard : Nat → Int32} {ts1a_huts : Nat → Int32} {ts1a_minutes : Nat → Int32} {tc0f_voices : Int32} {tc0f_step : Int32} {tc0a_parts : Nat → Int32} {tc0a_heights : Nat → Int32} {tc1f_voices : Int32} {tc1f_step : Int32} {tc1a_parts : Nat → Int32} {tc1a_heights : Nat → Int32} {rlf_huts : Int32} {rlf_singers : Int32} {rlf_villages : Int32} {rlf_dams : Int32} {rlf_echoes : Int32} {rlf_deep : Int32} {rlf_slide : Int32} {rla_heights : Nat → Int32} {rla_ladders : Nat → Int32} {rla_minutes : Nat → Int32} {rla_echoFrom : Nat → Int32} {rla_echoTo : Nat → Int32} {rla_homes : Nat → Int32} {rla_talls : Nat → Int32} {rla_known : Nat → Int32} {rvf_deeds : Int32} {rva_kinds : Nat → Int32} {rva_firsts : Nat → Int32} {rva_seconds : Nat → Int32} {rsf_facts : Int32} {rsa_heard : Nat → Int32} {rsa_huts : Nat → Int32} {rsa_minutes : Nat → Int32} {rcf_voices : Int32} {rcf_step : Int32} {rca_parts : Nat → Int32} {rca_heights : Nat → Int32} {x1 : Int32} {x2 : Int32} {post : (Nat → Int32) → (Int32) → (Int32) → (Int32) → (Int32) → (Int32) → (Int32) → (Int32) → (Nat → Int32) → (Nat → Int32) → (Nat → Int32) → (Nat → Int32) → (Nat → Int32) → (Nat → Int32) → (Nat → Int32) → (Nat → Int32) → (Int32) → (Int32) → (Int32) → (Int32) → (Int32) → (Int32) → (Int32) → (Nat → Int32) → (Nat → Int32) → (Nat → Int32) → (Nat → Int32) → (Nat → Int32) → (Nat → Int32) → (Nat → Int32) → (Nat → Int32) → (Int32) → (Nat → Int32) → (Nat → Int32) → (Nat → Int32) → (Int32) → (Nat → Int32) → (Nat → Int32) → (Nat → Int32) → (Int32) → (Nat → Int32) → (Nat → Int32) → (Nat → Int32) → (Int32) → (Nat → Int32) → (Nat → Int32) → (Nat → Int32) → (Int32) → (Int32) → (Nat → Int32) → (Nat → Int32) → (Int32) → (Int32) → (Nat → Int32) → (Nat → Int32) → Prop} (k_ta_counts : ∀ j, iv 0 2 (ta_counts j)) (k_tl0f_huts : iv 0 9 tl0f_huts) (k_tl0f_singers : iv 0 6 tl0f_singers) (k_tl0f_villages : iv 0 511 tl0f_villages) (k_tl0f_dams : iv 0 511 tl0f_dams) (k_tl0f_echoes : iv 0 4 tl0f_echoes) (k_tl0f_deep : iv 1 9 tl0f_deep) (k_tl0f_slide : iv 0 10 tl0f_slide) (k_tl0a_heights : ∀ j, iv 0 99 (tl0a_heights j)) (k_tl0a_ladders : ∀ j, iv 0 9 (tl0a_ladders j)) (k_tl0a_minutes : ∀ j, iv 0 9 (tl0a_minutes j)) (k_tl0a_echoFrom : ∀ j, iv 0 8 (tl0a_echoFrom j)) (k_tl0a_echoTo : ∀ j, iv 0 8 (tl0a_echoTo j)) (k_tl0a_homes : ∀ j, iv 0 8 (tl0a_homes j)) (k_tl0a_talls : ∀ j, iv 0 9 (tl0a_talls j)) (k_tl0a_known : ∀ j, iv 0 31 (tl0a_known j)) (k_tl1f_huts : iv 0 9 tl1f_huts) (k_tl1f_singers : iv 0 6 tl1f_singers) (k_tl1f_villages : iv 0 511 tl1f_villages) (k_tl1f_dams : iv 0 511 tl1f_dams) (k_tl1f_echoes : iv 0 4 tl1f_echoes) (k_tl1f_deep : iv 1 9 tl1f_deep) (k_tl1f_slide : iv 0 10 tl1f_slide) (k_tl1a_heights : ∀ j, iv 0 99 (tl1a_heights j)) (k_tl1a_ladders : ∀ j, iv 0 9 (tl1a_ladders j)) (k_tl1a_minutes : ∀ j, iv 0 9 (tl1a_minutes j)) (k_tl1a_echoFrom : ∀ j, iv 0 8 (tl1a_echoFrom j)) (k_tl1a_echoTo : ∀ j, iv 0 8 (tl1a_echoTo j)) (k_tl1a_homes : ∀ j, iv 0 8 (tl1a_homes j)) (k_tl1a_talls : ∀ j, iv 0 9 (tl1a_talls j)) (k_tl1a_known : ∀ j, iv 0 31 (tl1a_known j)) (k_tv0f_deeds : iv 0 40 tv0f_deeds) (k_tv0a_kinds : ∀ j, iv 0 5 (tv0a_kinds j)) (k_tv0a_firsts : ∀ j, iv 0 5 (tv0a_firsts j)) (k_tv0a_seconds : ∀ j, iv (-1) 8 (tv0a_seconds j)) (k_tv1f_deeds : iv 0 40 tv1f_deeds) (k_tv1a_kinds : ∀ j, iv 0 5 (tv1a_kinds j)) (k_tv1a_firsts : ∀ j, iv 0 5 (tv1a_firsts j)) (k_tv1a_seconds : ∀ j, iv (-1) 8 (tv1a_seconds j)) (k_ts0f_facts : iv 0 10 ts0f_facts) (k_ts0a_heard : ∀ j, iv 0 1 (ts0a_heard j)) (k_ts0a_huts : ∀ j, iv 0 8 (ts0a_huts j)) (k_ts0a_minutes : ∀ j, iv 0 60 (ts0a_minutes j)) (k_ts1f_facts : iv 0 10 ts1f_facts) (k_ts1a_heard : ∀ j, iv 0 1 (ts1a_heard j)) (k_ts1a_huts : ∀ j, iv 0 8 (ts1a_huts j)) (k_ts1a_minutes : ∀ j, iv 0 60 (ts1a_minutes j)) (k_tc0f_voices : iv 0 9 tc0f_voices) (k_tc0f_step : iv 0 9 tc0f_step) (k_tc0a_parts : ∀ j, iv 0 3 (tc0a_parts j)) (k_tc0a_heights : ∀ j, iv 0 9 (tc0a_heights j)) (k_tc1f_voices : iv 0 9 tc1f_voices) (k_tc1f_step : iv 0 9 tc1f_step) (k_tc1a_parts : ∀ j, iv 0 3 (tc1a_parts j)) (k_tc1a_heights : ∀ j, iv 0 9 (tc1a_heights j)) (k_rlf_huts : iv 0 9 rlf_huts) (k_rlf_singers : iv 0 6 rlf_singers) (k_rlf_villages : iv 0 511 rlf_villages) (k_rlf_dams : iv 0 511 rlf_dams) (k_rlf_echoes : iv 0 4 rlf_echoes) (k_rlf_deep : iv 1 9 rlf_deep) (k_rlf_slide : iv 0 10 rlf_slide) (k_rla_heights : ∀ j, iv 0 99 (rla_heights j)) (k_rla_ladders : ∀ j, iv 0 9 (rla_ladders j)) (k_rla_minutes : ∀ j, iv 0 9 (rla_minutes j)) (k_rla_echoFrom : ∀ j, iv 0 8 (rla_echoFrom j)) (k_rla_echoTo : ∀ j, iv 0 8 (rla_echoTo j)) (k_rla_homes : ∀ j, iv 0 8 (rla_homes j)) (k_rla_talls : ∀ j, iv 0 9 (rla_talls j)) (k_rla_known : ∀ j, iv 0 31 (rla_known j)) (k_rvf_deeds : iv 0 40 rvf_deeds) (k_rva_kinds : ∀ j, iv 0 5 (rva_kinds j)) (k_rva_firsts : ∀ j, iv 0 5 (rva_firsts j)) (k_rva_seconds : ∀ j, iv (-1) 8 (rva_seconds j)) (k_rsf_facts : iv 0 10 rsf_facts) (k_rsa_heard : ∀ j, iv 0 1 (rsa_heard j)) (k_rsa_huts : ∀ j, iv 0 8 (rsa_huts j)) (k_rsa_minutes : ∀ j, iv 0 60 (rsa_minutes j)) (k_rcf_voices : iv 0 9 rcf_voices) (k_rcf_step : iv 0 9 rcf_step) (k_rca_parts : ∀ j, iv 0 3 (rca_parts j)) (k_rca_heights : ∀ j, iv 0 9 (rca_heights j)) (hx1 : iv 0 3 x1) (hx2 : iv 0 1 x2) (hpost : ∀ (ta_counts : Nat → Int32) (tl0f_huts : Int32) (tl0f_singers : Int32) (tl0f_villages : Int32) (tl0f_dams : Int32) (tl0f_echoes : Int32) (tl0f_deep : Int32) (tl0f_slide : Int32) (tl0a_heights : Nat → Int32) (tl0a_ladders : Nat → Int32) (tl0a_minutes : Nat → Int32) (tl0a_echoFrom : Nat → Int32) (tl0a_echoTo : Nat → Int32) (tl0a_homes : Nat → Int32) (tl0a_talls : Nat → Int32) (tl0a_known : Nat → Int32) (tl1f_huts : Int32) (tl1f_singers : Int32) (tl1f_villages : Int32) (tl1f_dams : Int32) (tl1f_echoes : Int32) (tl1f_deep : Int32) (tl1f_slide : Int32) (tl1a_heights : Nat → Int32) (tl1a_ladders : Nat → Int32) (tl1a_minutes : Nat → Int32) (tl1a_echoFrom : Nat → Int32) (tl1a_echoTo : Nat → Int32) (tl1a_homes : Nat → Int32) (tl1a_talls : Nat → Int32) (tl1a_known : Nat → Int32) (tv0f_deeds : Int32) (tv0a_kinds : Nat → Int32) (tv0a_firsts : Nat → Int32) (tv0a_seconds : Nat → Int32) (tv1f_deeds : Int32) (tv1a_kinds : Nat → Int32) (tv1a_firsts : Nat → Int32) (tv1a_seconds : Nat → Int32) (ts0f_facts : Int32) (ts0a_heard : Nat → Int32) (ts0a_huts : Nat → Int32) (ts0a_minutes : Nat → Int32) (ts1f_facts : Int32) (ts1a_heard : Nat → Int32) (ts1a_huts : Nat → Int32) (ts1a_minutes : Nat → Int32) (tc0f_voices : Int32) (tc0f_step : Int32) (tc0a_parts : Nat → Int32) (tc0a_heights : Nat → Int32) (tc1f_voices : Int32) (tc1f_step : Int32) (tc1a_parts : Nat → Int32) (tc1a_heights : Nat → Int32), (∀ j, iv 0 2 (ta_counts j)) → (iv 0 9 tl0f_huts) → (iv 0 6 tl0f_singers) → (iv 0 511 tl0f_villages) → (iv 0 511 tl0f_dams) → (iv 0 4 tl0f_echoes) → (iv 1 9 tl0f_deep) → (iv 0 10 tl0f_slide) → (∀ j, iv 0 99 (tl0a_heights j)) → (∀ j, iv 0 9 (tl0a_ladders j)) → (∀ j, iv 0 9 (tl0a_minutes j)) → (∀ j, iv 0 8 (tl0a_echoFrom j)) → (∀ j, iv 0 8 (tl0a_echoTo j)) → (∀ j, iv 0 8 (tl0a_homes j)) → (∀ j, iv 0 9 (tl0a_talls j)) → (∀ j, iv 0 31 (tl0a_known j)) → (iv 0 9 tl1f_huts) → (iv 0 6 tl1f_singers) → (iv 0 511 tl1f_villages) → (iv 0 511 tl1f_dams) → (iv 0 4 tl1f_echoes) → (iv 1 9 tl1f_deep) → (iv 0 10 tl1f_slide) → (∀ j, iv 0 99 (tl1a_heights j)) → (∀ j, iv 0 9 (tl1a_ladders j)) → (∀ j, iv 0 9 (tl1a_minutes j)) → (∀ j, iv 0 8 (tl1a_echoFrom j)) → (∀ j, iv 0 8 (tl1a_echoTo j)) → (∀ j, iv 0 8 (tl1a_homes j)) → (∀ j, iv 0 9 (tl1a_talls j)) → (∀ j, iv 0 31 (tl1a_known j)) → (iv 0 40 tv0f_deeds) → (∀ j, iv 0 5 (tv0a_kinds j)) → (∀ j, iv 0 5 (tv0a_firsts j)) → (∀ j, iv (-1) 8 (tv0a_seconds j)) → (iv 0 40 tv1f_deeds) → (∀ j, iv 0 5 (tv1a_kinds j)) → (∀ j, iv 0 5 (tv1a_firsts j)) → (∀ j, iv (-1) 8 (tv1a_seconds j)) → (iv 0 10 ts0f_facts) → (∀ j, iv 0 1 (ts0a_heard j)) → (∀ j, iv 0 8 (ts0a_huts j)) → (∀ j, iv 0 60 (ts0a_minutes j)) → (iv 0 10 ts1f_facts) → (∀ j, iv 0 1 (ts1a_heard j)) → (∀ j, iv 0 8 (ts1a_huts j)) → (∀ j, iv 0 60 (ts1a_minutes j)) → (iv 0 9 tc0f_voices) → (iv 0 9 tc0f_step) → (∀ j, iv 0 3 (tc0a_parts j)) → (∀ j, iv 0 9 (tc0a_heights j)) → (iv 0 9 tc1f_voices) → (iv 0 9 tc1f_step) → (∀ j, iv 0 3 (tc1a_parts j)) → (∀ j, iv 0 9 (tc1a_heights j)) → post ta_counts tl0f_huts tl0f_singers tl0f_villages tl0f_dams tl0f_echoes tl0f_deep tl0f_slide tl0a_heights tl0a_ladders tl0a_minutes tl0a_echoFrom tl0a_echoTo tl0a_homes tl0a_talls tl0a_known tl1f_huts tl1f_singers tl1f_villages tl1f_dams tl1f_echoes tl1f_deep tl1f_slide tl1a_heights tl1a_ladders tl1a_minutes tl1a_echoFrom tl1a_echoTo tl1a_homes tl1a_talls tl1a_known tv0f_deeds tv0a_kinds tv0a_firsts tv0a_seconds tv1f_deeds tv1a_kinds tv1a_firsts tv1a_seconds ts0f_facts ts0a_heard ts0a_huts ts0a_minutes ts1f_facts ts1a_heard ts1a_huts ts1a_minutes tc0f_voices tc0f_step tc0a_parts tc0a_heights tc1f_voices tc1f_step tc1a_parts tc1a_heights) : q_wx_X10_keep_99 ta_counts tl0f_huts tl0f_singers tl0f_villages tl0f_dams tl0f_echoes tl0f_deep tl0f_slide tl0a_heights tl0a_ladders tl0a_minutes tl0a_echoFrom tl0a_echoTo tl0a_homes tl0a_talls tl0a_known tl1f_huts tl1f_singers tl1f_villages tl1f_dams tl1f_echoes tl1f_deep tl1f_slide tl1a_heights tl1a_ladders tl1a_minutes tl1a_echoFrom tl1a_echoTo tl1a_homes tl1a_talls tl1a_known tv0f_deeds tv0a_kinds tv0a_firsts tv0a_seconds tv1f_deeds tv1a_kinds tv1a_firsts tv1a_seconds ts0f_facts ts0a_heard ts0a_huts ts0a_minutes ts1f_facts ts1a_heard ts1a_huts ts1a_minutes tc0f_voices tc0f_step tc0a_parts tc0a_heights tc1f_voices tc1f_step tc1a_parts tc1a_heights rlf_huts rlf_singers rlf_villages rlf_dams rlf_echoes rlf_deep rlf_slide rla_heights rla_ladders rla_minutes rla_echoFrom rla_echoTo rla_homes rla_talls rla_known rvf_deeds rva_kinds rva_firsts rva_seconds rsf_facts rsa_heard rsa_huts rsa_minutes rcf_voices rcf_step rca_parts rca_heights x1 x2 post := by
  refine ⟨iv_in hx1 (by decide), ?_⟩
  intro w1 ew1
  have hw1 := iv_eq ew1 (iv_max (l := 1) (h := 2) (k_ta_counts _) (iv_add (l := 1) (h := 2) hx2 (iv_lit (l := 1) (h := 1) (by decide)) (by decide)) (by decide))
  refine ⟨iv_in hx1 (by decide), ?_⟩
  intro a2 ea2
  have k_a2 := iv_upd ea2 k_ta_counts (iv_w hw1 (by decide))
  exact hpost _ _ _ _ _ _ _ _ _ _ _ _ _ _ _ _ _ _ _ _ _ _ _ _ _ _ _ _ _ _ _ _ _ _ _ _ _ _ _ _ _ _ _ _ _ _ _ _ _ _ _ _ _ _ _ k_a2 k_tl0f_huts k_tl0f_singers k_tl0f_villages k_tl0f_dams k_tl0f_echoes k_tl0f_deep k_tl0f_slide k_tl0a_heights k_tl0a_ladders k_tl0a_minutes k_tl0a_echoFrom k_tl0a_echoTo k_tl0a_homes k_tl0a_talls k_tl0a_known k_tl1f_huts k_tl1f_singers k_tl1f_villages k_tl1f_dams k_tl1f_echoes k_tl1f_deep k_tl1f_slide k_tl1a_heights k_tl1a_ladders k_tl1a_minutes k_tl1a_echoFrom k_tl1a_echoTo k_tl1a_homes k_tl1a_talls k_tl1a_known k_tv0f_deeds k_tv0a_kinds k_tv0a_firsts k_tv0a_seconds k_tv1f_deeds k_tv1a_kinds k_tv1a_firsts k_tv1a_seconds k_ts0f_facts k_ts0a_heard k_ts0a_huts k_ts0a_minutes k_ts1f_facts k_ts1a_heard k_ts1a_huts k_ts1a_minutes k_tc0f_voices k_tc0f_step k_tc0a_parts k_tc0a_heights k_tc1f_voices k_tc1f_step k_tc1a_parts k_tc1a_heights
set_option maxRecDepth 20000 in
theorem s_wx_X10_keep_0 {ta_counts : Nat → Int32} {tl0f_huts : Int32} {tl0f_singers : Int32} {tl0f_villages : Int32} {tl0f_dams : Int32} {tl0f_echoes : Int32} {tl0f_deep : Int32} {tl0f_slide : Int32} {tl0a_heights : Nat → Int32} {tl0a_ladders : Nat → Int32} {tl0a_minutes : Nat → Int32} {tl0a_echoFrom : Nat → Int32} {tl0a_echoTo : Nat → Int32} {tl0a_homes : Nat → Int32} {tl0a_talls : Nat → Int32} {tl0a_known : Nat → Int32} {tl1f_huts : Int32} {tl1f_singers : Int32} {tl1f_villages : Int32} {tl1f_dams : Int32} {tl1f_echoes : Int32} {tl1f_deep : Int32} {tl1f_slide : Int32} {tl1a_heights : Nat → Int32} {tl1a_ladders : Nat → Int32} {tl1a_minutes : Nat → Int32} {tl1a_echoFrom : Nat → Int32} {tl1a_echoTo : Nat → Int32} {tl1a_homes : Nat → Int32} {tl1a_talls : Nat → Int32} {tl1a_known : Nat → Int32} {tv0f_deeds : Int32} {tv0a_kinds : Nat → Int32} {tv0a_firsts : Nat → Int32} {tv0a_seconds : Nat → Int32} {tv1f_deeds : Int32} {tv1a_kinds : Nat → Int32} {tv1a_firsts : Nat → Int32} {tv1a_seconds : Nat → Int32} {ts0f_facts : Int32} {ts0a_heard : Nat → Int32} {ts0a_huts : Nat → Int32} {ts0a_minutes : Nat → Int32} {ts1f_facts : Int32} {ts1a_heard : Nat → Int32} {ts1a_huts : Nat → Int32} {ts1a_minutes : Nat → Int32} {tc0f_voices : Int32} {tc0f_step : Int32} {tc0a_parts : Nat → Int32} {tc0a_heights : Nat → Int32} {tc1f_voices : Int32} {tc1f_step : Int32} {tc1a_parts : Nat → Int32} {tc1a_heights : Nat → Int32} {rlf_huts : Int32} {rlf_singers : Int32} {rlf_villages : Int32} {rlf_dams : Int32} {rlf_echoes : Int32} {rlf_deep : Int32} {rlf_slide : Int32} {rla_heights : Nat → Int32} {rla_ladders : Nat → Int32} {rla_minutes : Nat → Int32} {rla_echoFrom : Nat → Int32} {rla_echoTo : Nat → Int32} {rla_homes : Nat → Int32} {rla_talls : Nat → Int32} {rla_known : Nat → Int32} {rvf_deeds : Int32} {rva_kinds : Nat → Int32} {rva_firsts : Nat → Int32} {rva_seconds : Nat → Int32} {rsf_facts : Int32} {rsa_heard : Nat → Int32} {rsa_huts : Nat → Int32} {rsa_minutes : Nat → Int32} {rcf_voices : Int32} {rcf_step : Int32} {rca_parts : Nat → Int32} {rca_heights : Nat → Int32} {x1 : Int32} {x2 : Int32} {post : (Nat → Int32) → (Int32) → (Int32) → (Int32) → (Int32) → (Int32) → (Int32) → (Int32) → (Nat → Int32) → (Nat → Int32) → (Nat → Int32) → (Nat → Int32) → (Nat → Int32) → (Nat → Int32) → (Nat → Int32) → (Nat → Int32) → (Int32) → (Int32) → (Int32) → (Int32) → (Int32) → (Int32) → (Int32) → (Nat → Int32) → (Nat → Int32) → (Nat → Int32) → (Nat → Int32) → (Nat → Int32) → (Nat → Int32) → (Nat → Int32) → (Nat → Int32) → (Int32) → (Nat → Int32) → (Nat → Int32) → (Nat → Int32) → (Int32) → (Nat → Int32) → (Nat → Int32) → (Nat → Int32) → (Int32) → (Nat → Int32) → (Nat → Int32) → (Nat → Int32) → (Int32) → (Nat → Int32) → (Nat → Int32) → (Nat → Int32) → (Int32) → (Int32) → (Nat → Int32) → (Nat → Int32) → (Int32) → (Int32) → (Nat → Int32) → (Nat → Int32) → Prop} (k_ta_counts : ∀ j, iv 0 2 (ta_counts j)) (k_tl0f_huts : iv 0 9 tl0f_huts) (k_tl0f_singers : iv 0 6 tl0f_singers) (k_tl0f_villages : iv 0 511 tl0f_villages) (k_tl0f_dams : iv 0 511 tl0f_dams) (k_tl0f_echoes : iv 0 4 tl0f_echoes) (k_tl0f_deep : iv 1 9 tl0f_deep) (k_tl0f_slide : iv 0 10 tl0f_slide) (k_tl0a_heights : ∀ j, iv 0 99 (tl0a_heights j)) (k_tl0a_ladders : ∀ j, iv 0 9 (tl0a_ladders j)) (k_tl0a_minutes : ∀ j, iv 0 9 (tl0a_minutes j)) (k_tl0a_echoFrom : ∀ j, iv 0 8 (tl0a_echoFrom j)) (k_tl0a_echoTo : ∀ j, iv 0 8 (tl0a_echoTo j)) (k_tl0a_homes : ∀ j, iv 0 8 (tl0a_homes j)) (k_tl0a_talls : ∀ j, iv 0 9 (tl0a_talls j)) (k_tl0a_known : ∀ j, iv 0 31 (tl0a_known j)) (k_tl1f_huts : iv 0 9 tl1f_huts) (k_tl1f_singers : iv 0 6 tl1f_singers) (k_tl1f_villages : iv 0 511 tl1f_villages) (k_tl1f_dams : iv 0 511 tl1f_dams) (k_tl1f_echoes : iv 0 4 tl1f_echoes) (k_tl1f_deep : iv 1 9 tl1f_deep) (k_tl1f_slide : iv 0 10 tl1f_slide) (k_tl1a_heights : ∀ j, iv 0 99 (tl1a_heights j)) (k_tl1a_ladders : ∀ j, iv 0 9 (tl1a_ladders j)) (k_tl1a_minutes : ∀ j, iv 0 9 (tl1a_minutes j)) (k_tl1a_echoFrom : ∀ j, iv 0 8 (tl1a_echoFrom j)) (k_tl1a_echoTo : ∀ j, iv 0 8 (tl1a_echoTo j)) (k_tl1a_homes : ∀ j, iv 0 8 (tl1a_homes j)) (k_tl1a_talls : ∀ j, iv 0 9 (tl1a_talls j)) (k_tl1a_known : ∀ j, iv 0 31 (tl1a_known j)) (k_tv0f_deeds : iv 0 40 tv0f_deeds) (k_tv0a_kinds : ∀ j, iv 0 5 (tv0a_kinds j)) (k_tv0a_firsts : ∀ j, iv 0 5 (tv0a_firsts j)) (k_tv0a_seconds : ∀ j, iv (-1) 8 (tv0a_seconds j)) (k_tv1f_deeds : iv 0 40 tv1f_deeds) (k_tv1a_kinds : ∀ j, iv 0 5 (tv1a_kinds j)) (k_tv1a_firsts : ∀ j, iv 0 5 (tv1a_firsts j)) (k_tv1a_seconds : ∀ j, iv (-1) 8 (tv1a_seconds j)) (k_ts0f_facts : iv 0 10 ts0f_facts) (k_ts0a_heard : ∀ j, iv 0 1 (ts0a_heard j)) (k_ts0a_huts : ∀ j, iv 0 8 (ts0a_huts j)) (k_ts0a_minutes : ∀ j, iv 0 60 (ts0a_minutes j)) (k_ts1f_facts : iv 0 10 ts1f_facts) (k_ts1a_heard : ∀ j, iv 0 1 (ts1a_heard j)) (k_ts1a_huts : ∀ j, iv 0 8 (ts1a_huts j)) (k_ts1a_minutes : ∀ j, iv 0 60 (ts1a_minutes j)) (k_tc0f_voices : iv 0 9 tc0f_voices) (k_tc0f_step : iv 0 9 tc0f_step) (k_tc0a_parts : ∀ j, iv 0 3 (tc0a_parts j)) (k_tc0a_heights : ∀ j, iv 0 9 (tc0a_heights j)) (k_tc1f_voices : iv 0 9 tc1f_voices) (k_tc1f_step : iv 0 9 tc1f_step) (k_tc1a_parts : ∀ j, iv 0 3 (tc1a_parts j)) (k_tc1a_heights : ∀ j, iv 0 9 (tc1a_heights j)) (k_rlf_huts : iv 0 9 rlf_huts) (k_rlf_singers : iv 0 6 rlf_singers) (k_rlf_villages : iv 0 511 rlf_villages) (k_rlf_dams : iv 0 511 rlf_dams) (k_rlf_echoes : iv 0 4 rlf_echoes) (k_rlf_deep : iv 1 9 rlf_deep) (k_rlf_slide : iv 0 10 rlf_slide) (k_rla_heights : ∀ j, iv 0 99 (rla_heights j)) (k_rla_ladders : ∀ j, iv 0 9 (rla_ladders j)) (k_rla_minutes : ∀ j, iv 0 9 (rla_minutes j)) (k_rla_echoFrom : ∀ j, iv 0 8 (rla_echoFrom j)) (k_rla_echoTo : ∀ j, iv 0 8 (rla_echoTo j)) (k_rla_homes : ∀ j, iv 0 8 (rla_homes j)) (k_rla_talls : ∀ j, iv 0 9 (rla_talls j)) (k_rla_known : ∀ j, iv 0 31 (rla_known j)) (k_rvf_deeds : iv 0 40 rvf_deeds) (k_rva_kinds : ∀ j, iv 0 5 (rva_kinds j)) (k_rva_firsts : ∀ j, iv 0 5 (rva_firsts j)) (k_rva_seconds : ∀ j, iv (-1) 8 (rva_seconds j)) (k_rsf_facts : iv 0 10 rsf_facts) (k_rsa_heard : ∀ j, iv 0 1 (rsa_heard j)) (k_rsa_huts : ∀ j, iv 0 8 (rsa_huts j)) (k_rsa_minutes : ∀ j, iv 0 60 (rsa_minutes j)) (k_rcf_voices : iv 0 9 rcf_voices) (k_rcf_step : iv 0 9 rcf_step) (k_rca_parts : ∀ j, iv 0 3 (rca_parts j)) (k_rca_heights : ∀ j, iv 0 9 (rca_heights j)) (hx1 : iv 0 3 x1) (hx2 : iv 0 1 x2) (hpost : ∀ (ta_counts : Nat → Int32) (tl0f_huts : Int32) (tl0f_singers : Int32) (tl0f_villages : Int32) (tl0f_dams : Int32) (tl0f_echoes : Int32) (tl0f_deep : Int32) (tl0f_slide : Int32) (tl0a_heights : Nat → Int32) (tl0a_ladders : Nat → Int32) (tl0a_minutes : Nat → Int32) (tl0a_echoFrom : Nat → Int32) (tl0a_echoTo : Nat → Int32) (tl0a_homes : Nat → Int32) (tl0a_talls : Nat → Int32) (tl0a_known : Nat → Int32) (tl1f_huts : Int32) (tl1f_singers : Int32) (tl1f_villages : Int32) (tl1f_dams : Int32) (tl1f_echoes : Int32) (tl1f_deep : Int32) (tl1f_slide : Int32) (tl1a_heights : Nat → Int32) (tl1a_ladders : Nat → Int32) (tl1a_minutes : Nat → Int32) (tl1a_echoFrom : Nat → Int32) (tl1a_echoTo : Nat → Int32) (tl1a_homes : Nat → Int32) (tl1a_talls : Nat → Int32) (tl1a_known : Nat → Int32) (tv0f_deeds : Int32) (tv0a_kinds : Nat → Int32) (tv0a_firsts : Nat → Int32) (tv0a_seconds : Nat → Int32) (tv1f_deeds : Int32) (tv1a_kinds : Nat → Int32) (tv1a_firsts : Nat → Int32) (tv1a_seconds : Nat → Int32) (ts0f_facts : Int32) (ts0a_heard : Nat → Int32) (ts0a_huts : Nat → Int32) (ts0a_minutes : Nat → Int32) (ts1f_facts : Int32) (ts1a_heard : Nat → Int32) (ts1a_huts : Nat → Int32) (ts1a_minutes : Nat → Int32) (tc0f_voices : Int32) (tc0f_step : Int32) (tc0a_parts : Nat → Int32) (tc0a_heights : Nat → Int32) (tc1f_voices : Int32) (tc1f_step : Int32) (tc1a_parts : Nat → Int32) (tc1a_heights : Nat → Int32), (∀ j, iv 0 2 (ta_counts j)) → (iv 0 9 tl0f_huts) → (iv 0 6 tl0f_singers) → (iv 0 511 tl0f_villages) → (iv 0 511 tl0f_dams) → (iv 0 4 tl0f_echoes) → (iv 1 9 tl0f_deep) → (iv 0 10 tl0f_slide) → (∀ j, iv 0 99 (tl0a_heights j)) → (∀ j, iv 0 9 (tl0a_ladders j)) → (∀ j, iv 0 9 (tl0a_minutes j)) → (∀ j, iv 0 8 (tl0a_echoFrom j)) → (∀ j, iv 0 8 (tl0a_echoTo j)) → (∀ j, iv 0 8 (tl0a_homes j)) → (∀ j, iv 0 9 (tl0a_talls j)) → (∀ j, iv 0 31 (tl0a_known j)) → (iv 0 9 tl1f_huts) → (iv 0 6 tl1f_singers) → (iv 0 511 tl1f_villages) → (iv 0 511 tl1f_dams) → (iv 0 4 tl1f_echoes) → (iv 1 9 tl1f_deep) → (iv 0 10 tl1f_slide) → (∀ j, iv 0 99 (tl1a_heights j)) → (∀ j, iv 0 9 (tl1a_ladders j)) → (∀ j, iv 0 9 (tl1a_minutes j)) → (∀ j, iv 0 8 (tl1a_echoFrom j)) → (∀ j, iv 0 8 (tl1a_echoTo j)) → (∀ j, iv 0 8 (tl1a_homes j)) → (∀ j, iv 0 9 (tl1a_talls j)) → (∀ j, iv 0 31 (tl1a_known j)) → (iv 0 40 tv0f_deeds) → (∀ j, iv 0 5 (tv0a_kinds j)) → (∀ j, iv 0 5 (tv0a_firsts j)) → (∀ j, iv (-1) 8 (tv0a_seconds j)) → (iv 0 40 tv1f_deeds) → (∀ j, iv 0 5 (tv1a_kinds j)) → (∀ j, iv 0 5 (tv1a_firsts j)) → (∀ j, iv (-1) 8 (tv1a_seconds j)) → (iv 0 10 ts0f_facts) → (∀ j, iv 0 1 (ts0a_heard j)) → (∀ j, iv 0 8 (ts0a_huts j)) → (∀ j, iv 0 60 (ts0a_minutes j)) → (iv 0 10 ts1f_facts) → (∀ j, iv 0 1 (ts1a_heard j)) → (∀ j, iv 0 8 (ts1a_huts j)) → (∀ j, iv 0 60 (ts1a_minutes j)) → (iv 0 9 tc0f_voices) → (iv 0 9 tc0f_step) → (∀ j, iv 0 3 (tc0a_parts j)) → (∀ j, iv 0 9 (tc0a_heights j)) → (iv 0 9 tc1f_voices) → (iv 0 9 tc1f_step) → (∀ j, iv 0 3 (tc1a_parts j)) → (∀ j, iv 0 9 (tc1a_heights j)) → post ta_counts tl0f_huts tl0f_singers tl0f_villages tl0f_dams tl0f_echoes tl0f_deep tl0f_slide tl0a_heights tl0a_ladders tl0a_minutes tl0a_echoFrom tl0a_echoTo tl0a_homes tl0a_talls tl0a_known tl1f_huts tl1f_singers tl1f_villages tl1f_dams tl1f_echoes tl1f_deep tl1f_slide tl1a_heights tl1a_ladders tl1a_minutes tl1a_echoFrom tl1a_echoTo tl1a_homes tl1a_talls tl1a_known tv0f_deeds tv0a_kinds tv0a_firsts tv0a_seconds tv1f_deeds tv1a_kinds tv1a_firsts tv1a_seconds ts0f_facts ts0a_heard ts0a_huts ts0a_minutes ts1f_facts ts1a_heard ts1a_huts ts1a_minutes tc0f_voices tc0f_step tc0a_parts tc0a_heights tc1f_voices tc1f_step tc1a_parts tc1a_heights) : q_wx_X10_keep_0 ta_counts tl0f_huts tl0f_singers tl0f_villages tl0f_dams tl0f_echoes tl0f_deep tl0f_slide tl0a_heights tl0a_ladders tl0a_minutes tl0a_echoFrom tl0a_echoTo tl0a_homes tl0a_talls tl0a_known tl1f_huts tl1f_singers tl1f_villages tl1f_dams tl1f_echoes tl1f_deep tl1f_slide tl1a_heights tl1a_ladders tl1a_minutes tl1a_echoFrom tl1a_echoTo tl1a_homes tl1a_talls tl1a_known tv0f_deeds tv0a_kinds tv0a_firsts tv0a_seconds tv1f_deeds tv1a_kinds tv1a_firsts tv1a_seconds ts0f_facts ts0a_heard ts0a_huts ts0a_minutes ts1f_facts ts1a_heard ts1a_huts ts1a_minutes tc0f_voices tc0f_step tc0a_parts tc0a_heights tc1f_voices tc1f_step tc1a_parts tc1a_heights rlf_huts rlf_singers rlf_villages rlf_dams rlf_echoes rlf_deep rlf_slide rla_heights rla_ladders rla_minutes rla_echoFrom rla_echoTo rla_homes rla_talls rla_known rvf_deeds rva_kinds rva_firsts rva_seconds rsf_facts rsa_heard rsa_huts rsa_minutes rcf_voices rcf_step rca_parts rca_heights x1 x2 post := by
  refine ⟨fun c1 => ?_, fun c1 => ?_⟩
  · skip
    refine ⟨fun c2 => ?_, fun c2 => ?_⟩
    · skip
      refine ⟨fun c3 => ?_, fun c3 => ?_⟩
      · skip
        refine ⟨iv_in hx2 (by decide), fun hc => ?_, fun hc => ?_⟩
        · skip
          refine ⟨iv_nn k_rcf_voices (by decide), ?_⟩
          refine ⟨iv_len (iv_lit (l := 0) (h := 0) (by decide)) k_rcf_voices (by decide), ?_⟩
          refine ⟨iv_len (iv_lit (l := 0) (h := 0) (by decide)) k_rcf_voices (by decide), ?_⟩
          intro a4 ea4
          have k_a4 := iv_cpy ea4 k_rca_parts k_tc0a_parts
          refine ⟨iv_nn k_rcf_voices (by decide), ?_⟩
          refine ⟨iv_len (iv_lit (l := 0) (h := 0) (by decide)) k_rcf_voices (by decide), ?_⟩
          refine ⟨iv_len (iv_lit (l := 0) (h := 0) (by decide)) k_rcf_voices (by decide), ?_⟩
          intro a5 ea5
          have k_a5 := iv_cpy ea5 k_rca_heights k_tc0a_heights
          exact s_wx_X10_keep_99 k_ta_counts k_tl0f_huts k_tl0f_singers k_tl0f_villages k_tl0f_dams k_tl0f_echoes k_tl0f_deep k_tl0f_slide k_tl0a_heights k_tl0a_ladders k_tl0a_minutes k_tl0a_echoFrom k_tl0a_echoTo k_tl0a_homes k_tl0a_talls k_tl0a_known k_tl1f_huts k_tl1f_singers k_tl1f_villages k_tl1f_dams k_tl1f_echoes k_tl1f_deep k_tl1f_slide k_tl1a_heights k_tl1a_ladders k_tl1a_minutes k_tl1a_echoFrom k_tl1a_echoTo k_tl1a_homes k_tl1a_talls k_tl1a_known k_tv0f_deeds k_tv0a_kinds k_tv0a_firsts k_tv0a_seconds k_tv1f_deeds k_tv1a_kinds k_tv1a_firsts k_tv1a_seconds k_ts0f_facts k_ts0a_heard k_ts0a_huts k_ts0a_minutes k_ts1f_facts k_ts1a_heard k_ts1a_huts k_ts1a_minutes k_rcf_voices k_rcf_step k_a4 k_a5 k_tc1f_voices k_tc1f_step k_tc1a_parts k_tc1a_heights k_rlf_huts k_rlf_singers k_rlf_villages k_rlf_dams k_rlf_echoes k_rlf_deep k_rlf_slide k_rla_heights k_rla_ladders k_rla_minutes k_rla_echoFrom k_rla_echoTo k_rla_homes k_rla_talls k_rla_known k_rvf_deeds k_rva_kinds k_rva_firsts k_rva_seconds k_rsf_facts k_rsa_heard k_rsa_huts k_rsa_minutes k_rcf_voices k_rcf_step k_rca_parts k_rca_heights (iv_w (iv_ne (l := 3) (h := 3) c3 (iv_ne (l := 2) (h := 3) c2 (iv_ne (l := 1) (h := 3) c1 hx1 (iv_lit (l := 0) (h := 0) (by decide)) (by decide)) (iv_lit (l := 1) (h := 1) (by decide)) (by decide)) (iv_lit (l := 2) (h := 2) (by decide)) (by decide)) (by decide)) (iv_w (iv_lit (l := 0) (h := 0) (by decide)) (by decide)) hpost
        · skip
          refine ⟨iv_nn k_rcf_voices (by decide), ?_⟩
          refine ⟨iv_len (iv_lit (l := 0) (h := 0) (by decide)) k_rcf_voices (by decide), ?_⟩
          refine ⟨iv_len (iv_lit (l := 0) (h := 0) (by decide)) k_rcf_voices (by decide), ?_⟩
          intro a6 ea6
          have k_a6 := iv_cpy ea6 k_rca_parts k_tc1a_parts
          refine ⟨iv_nn k_rcf_voices (by decide), ?_⟩
          refine ⟨iv_len (iv_lit (l := 0) (h := 0) (by decide)) k_rcf_voices (by decide), ?_⟩
          refine ⟨iv_len (iv_lit (l := 0) (h := 0) (by decide)) k_rcf_voices (by decide), ?_⟩
          intro a7 ea7
          have k_a7 := iv_cpy ea7 k_rca_heights k_tc1a_heights
          exact s_wx_X10_keep_99 k_ta_counts k_tl0f_huts k_tl0f_singers k_tl0f_villages k_tl0f_dams k_tl0f_echoes k_tl0f_deep k_tl0f_slide k_tl0a_heights k_tl0a_ladders k_tl0a_minutes k_tl0a_echoFrom k_tl0a_echoTo k_tl0a_homes k_tl0a_talls k_tl0a_known k_tl1f_huts k_tl1f_singers k_tl1f_villages k_tl1f_dams k_tl1f_echoes k_tl1f_deep k_tl1f_slide k_tl1a_heights k_tl1a_ladders k_tl1a_minutes k_tl1a_echoFrom k_tl1a_echoTo k_tl1a_homes k_tl1a_talls k_tl1a_known k_tv0f_deeds k_tv0a_kinds k_tv0a_firsts k_tv0a_seconds k_tv1f_deeds k_tv1a_kinds k_tv1a_firsts k_tv1a_seconds k_ts0f_facts k_ts0a_heard k_ts0a_huts k_ts0a_minutes k_ts1f_facts k_ts1a_heard k_ts1a_huts k_ts1a_minutes k_tc0f_voices k_tc0f_step k_tc0a_parts k_tc0a_heights k_rcf_voices k_rcf_step k_a6 k_a7 k_rlf_huts k_rlf_singers k_rlf_villages k_rlf_dams k_rlf_echoes k_rlf_deep k_rlf_slide k_rla_heights k_rla_ladders k_rla_minutes k_rla_echoFrom k_rla_echoTo k_rla_homes k_rla_talls k_rla_known k_rvf_deeds k_rva_kinds k_rva_firsts k_rva_seconds k_rsf_facts k_rsa_heard k_rsa_huts k_rsa_minutes k_rcf_voices k_rcf_step k_rca_parts k_rca_heights (iv_w (iv_ne (l := 3) (h := 3) c3 (iv_ne (l := 2) (h := 3) c2 (iv_ne (l := 1) (h := 3) c1 hx1 (iv_lit (l := 0) (h := 0) (by decide)) (by decide)) (iv_lit (l := 1) (h := 1) (by decide)) (by decide)) (iv_lit (l := 2) (h := 2) (by decide)) (by decide)) (by decide)) (iv_w (iv_lit (l := 1) (h := 1) (by decide)) (by decide)) hpost
      · skip
        refine ⟨iv_in hx2 (by decide), fun hc => ?_, fun hc => ?_⟩
        · skip
          refine s_wss_X6_copyFrom_4_0 k_ts0f_facts k_ts0a_heard k_ts0a_huts k_ts0a_minutes k_rsf_facts k_rsa_heard k_rsa_huts k_rsa_minutes (fun o8 o9 o10 o11 k_o8 k_o9 k_o10 k_o11 => ?_)
          exact s_wx_X10_keep_99 k_ta_counts k_tl0f_huts k_tl0f_singers k_tl0f_villages k_tl0f_dams k_tl0f_echoes k_tl0f_deep k_tl0f_slide k_tl0a_heights k_tl0a_ladders k_tl0a_minutes k_tl0a_echoFrom k_tl0a_echoTo k_tl0a_homes k_tl0a_talls k_tl0a_known k_tl1f_huts k_tl1f_singers k_tl1f_villages k_tl1f_dams k_tl1f_echoes k_tl1f_deep k_tl1f_slide k_tl1a_heights k_tl1a_ladders k_tl1a_minutes k_tl1a_echoFrom k_tl1a_echoTo k_tl1a_homes k_tl1a_talls k_tl1a_known k_tv0f_deeds k_tv0a_kinds k_tv0a_firsts k_tv0a_seconds k_tv1f_deeds k_tv1a_kinds k_tv1a_firsts k_tv1a_seconds k_o8 k_o9 k_o10 k_o11 k_ts1f_facts k_ts1a_heard k_ts1a_huts k_ts1a_minutes k_tc0f_voices k_tc0f_step k_tc0a_parts k_tc0a_heights k_tc1f_voices k_tc1f_step k_tc1a_parts k_tc1a_heights k_rlf_huts k_rlf_singers k_rlf_villages k_rlf_dams k_rlf_echoes k_rlf_deep k_rlf_slide k_rla_heights k_rla_ladders k_rla_minutes k_rla_echoFrom k_rla_echoTo k_rla_homes k_rla_talls k_rla_known k_rvf_deeds k_rva_kinds k_rva_firsts k_rva_seconds k_rsf_facts k_rsa_heard k_rsa_huts k_rsa_minutes k_rcf_voices k_rcf_step k_rca_parts k_rca_heights (iv_w (iv_eqa (l := 2) (h := 2) c3 (iv_ne (l := 2) (h := 3) c2 (iv_ne (l := 1) (h := 3) c1 hx1 (iv_lit (l := 0) (h := 0) (by decide)) (by decide)) (iv_lit (l := 1) (h := 1) (by decide)) (by decide)) (iv_lit (l := 2) (h := 2) (by decide)) (by decide)) (by decide)) (iv_w (iv_lit (l := 0) (h := 0) (by decide)) (by decide)) hpost
        · skip
          refine s_wss_X6_copyFrom_4_0 k_ts1f_facts k_ts1a_heard k_ts1a_huts k_ts1a_minutes k_rsf_facts k_rsa_heard k_rsa_huts k_rsa_minutes (fun o12 o13 o14 o15 k_o12 k_o13 k_o14 k_o15 => ?_)
          exact s_wx_X10_keep_99 k_ta_counts k_tl0f_huts k_tl0f_singers k_tl0f_villages k_tl0f_dams k_tl0f_echoes k_tl0f_deep k_tl0f_slide k_tl0a_heights k_tl0a_ladders k_tl0a_minutes k_tl0a_echoFrom k_tl0a_echoTo k_tl0a_homes k_tl0a_talls k_tl0a_known k_tl1f_huts k_tl1f_singers k_tl1f_villages k_tl1f_dams k_tl1f_echoes k_tl1f_deep k_tl1f_slide k_tl1a_heights k_tl1a_ladders k_tl1a_minutes k_tl1a_echoFrom k_tl1a_echoTo k_tl1a_homes k_tl1a_talls k_tl1a_known k_tv0f_deeds k_tv0a_kinds k_tv0a_firsts k_tv0a_seconds k_tv1f_deeds k_tv1a_kinds k_tv1a_firsts k_tv1a_seconds k_ts0f_facts k_ts0a_heard k_ts0a_huts k_ts0a_minutes k_o12 k_o13 k_o14 k_o15 k_tc0f_voices k_tc0f_step k_tc0a_parts k_tc0a_heights k_tc1f_voices k_tc1f_step k_tc1a_parts k_tc1a_heights k_rlf_huts k_rlf_singers k_rlf_villages k_rlf_dams k_rlf_echoes k_rlf_deep k_rlf_slide k_rla_heights k_rla_ladders k_rla_minutes k_rla_echoFrom k_rla_echoTo k_rla_homes k_rla_talls k_rla_known k_rvf_deeds k_rva_kinds k_rva_firsts k_rva_seconds k_rsf_facts k_rsa_heard k_rsa_huts k_rsa_minutes k_rcf_voices k_rcf_step k_rca_parts k_rca_heights (iv_w (iv_eqa (l := 2) (h := 2) c3 (iv_ne (l := 2) (h := 3) c2 (iv_ne (l := 1) (h := 3) c1 hx1 (iv_lit (l := 0) (h := 0) (by decide)) (by decide)) (iv_lit (l := 1) (h := 1) (by decide)) (by decide)) (iv_lit (l := 2) (h := 2) (by decide)) (by decide)) (by decide)) (iv_w (iv_lit (l := 1) (h := 1) (by decide)) (by decide)) hpost
    · skip
      refine ⟨iv_in hx2 (by decide), fun hc => ?_, fun hc => ?_⟩
      · skip
        refine s_wvv_X1_copyFrom_4_0 k_tv0f_deeds k_tv0a_kinds k_tv0a_firsts k_tv0a_seconds k_rvf_deeds k_rva_kinds k_rva_firsts k_rva_seconds (fun o16 o17 o18 o19 k_o16 k_o17 k_o18 k_o19 => ?_)
        exact s_wx_X10_keep_99 k_ta_counts k_tl0f_huts k_tl0f_singers k_tl0f_villages k_tl0f_dams k_tl0f_echoes k_tl0f_deep k_tl0f_slide k_tl0a_heights k_tl0a_ladders k_tl0a_minutes k_tl0a_echoFrom k_tl0a_echoTo k_tl0a_homes k_tl0a_talls k_tl0a_known k_tl1f_huts k_tl1f_singers k_tl1f_villages k_tl1f_dams k_tl1f_echoes k_tl1f_deep k_tl1f_slide k_tl1a_heights k_tl1a_ladders k_tl1a_minutes k_tl1a_echoFrom k_tl1a_echoTo k_tl1a_homes k_tl1a_talls k_tl1a_known k_o16 k_o17 k_o18 k_o19 k_tv1f_deeds k_tv1a_kinds k_tv1a_firsts k_tv1a_seconds k_ts0f_facts k_ts0a_heard k_ts0a_huts k_ts0a_minutes k_ts1f_facts k_ts1a_heard k_ts1a_huts k_ts1a_minutes k_tc0f_voices k_tc0f_step k_tc0a_parts k_tc0a_heights k_tc1f_voices k_tc1f_step k_tc1a_parts k_tc1a_heights k_rlf_huts k_rlf_singers k_rlf_villages k_rlf_dams k_rlf_echoes k_rlf_deep k_rlf_slide k_rla_heights k_rla_ladders k_rla_minutes k_rla_echoFrom k_rla_echoTo k_rla_homes k_rla_talls k_rla_known k_rvf_deeds k_rva_kinds k_rva_firsts k_rva_seconds k_rsf_facts k_rsa_heard k_rsa_huts k_rsa_minutes k_rcf_voices k_rcf_step k_rca_parts k_rca_heights (iv_w (iv_eqa (l := 1) (h := 1) c2 (iv_ne (l := 1) (h := 3) c1 hx1 (iv_lit (l := 0) (h := 0) (by decide)) (by decide)) (iv_lit (l := 1) (h := 1) (by decide)) (by decide)) (by decide)) (iv_w (iv_lit (l := 0) (h := 0) (by decide)) (by decide)) hpost
      · skip
        refine s_wvv_X1_copyFrom_4_0 k_tv1f_deeds k_tv1a_kinds k_tv1a_firsts k_tv1a_seconds k_rvf_deeds k_rva_kinds k_rva_firsts k_rva_seconds (fun o20 o21 o22 o23 k_o20 k_o21 k_o22 k_o23 => ?_)
        exact s_wx_X10_keep_99 k_ta_counts k_tl0f_huts k_tl0f_singers k_tl0f_villages k_tl0f_dams k_tl0f_echoes k_tl0f_deep k_tl0f_slide k_tl0a_heights k_tl0a_ladders k_tl0a_minutes k_tl0a_echoFrom k_tl0a_echoTo k_tl0a_homes k_tl0a_talls k_tl0a_known k_tl1f_huts k_tl1f_singers k_tl1f_villages k_tl1f_dams k_tl1f_echoes k_tl1f_deep k_tl1f_slide k_tl1a_heights k_tl1a_ladders k_tl1a_minutes k_tl1a_echoFrom k_tl1a_echoTo k_tl1a_homes k_tl1a_talls k_tl1a_known k_tv0f_deeds k_tv0a_kinds k_tv0a_firsts k_tv0a_seconds k_o20 k_o21 k_o22 k_o23 k_ts0f_facts k_ts0a_heard k_ts0a_huts k_ts0a_minutes k_ts1f_facts k_ts1a_heard k_ts1a_huts k_ts1a_minutes k_tc0f_voices k_tc0f_step k_tc0a_parts k_tc0a_heights k_tc1f_voices k_tc1f_step k_tc1a_parts k_tc1a_heights k_rlf_huts k_rlf_singers k_rlf_villages k_rlf_dams k_rlf_echoes k_rlf_deep k_rlf_slide k_rla_heights k_rla_ladders k_rla_minutes k_rla_echoFrom k_rla_echoTo k_rla_homes k_rla_talls k_rla_known k_rvf_deeds k_rva_kinds k_rva_firsts k_rva_seconds k_rsf_facts k_rsa_heard k_rsa_huts k_rsa_minutes k_rcf_voices k_rcf_step k_rca_parts k_rca_heights (iv_w (iv_eqa (l := 1) (h := 1) c2 (iv_ne (l := 1) (h := 3) c1 hx1 (iv_lit (l := 0) (h := 0) (by decide)) (by decide)) (iv_lit (l := 1) (h := 1) (by decide)) (by decide)) (by decide)) (iv_w (iv_lit (l := 1) (h := 1) (by decide)) (by decide)) hpost
  · skip
    refine ⟨iv_in hx2 (by decide), fun hc => ?_, fun hc => ?_⟩
    · skip
      refine s_wll_X2_copyFrom_9_0 k_tl0f_huts k_tl0f_singers k_tl0f_villages k_tl0f_dams k_tl0f_echoes k_tl0f_deep k_tl0f_slide k_tl0a_heights k_tl0a_ladders k_tl0a_minutes k_tl0a_echoFrom k_tl0a_echoTo k_tl0a_homes k_tl0a_talls k_tl0a_known k_rlf_huts k_rlf_singers k_rlf_villages k_rlf_dams k_rlf_echoes k_rlf_deep k_rlf_slide k_rla_heights k_rla_ladders k_rla_minutes k_rla_echoFrom k_rla_echoTo k_rla_homes k_rla_talls k_rla_known (fun o24 o25 o26 o27 o28 o29 o30 o31 o32 o33 o34 o35 o36 o37 o38 k_o24 k_o25 k_o26 k_o27 k_o28 k_o29 k_o30 k_o31 k_o32 k_o33 k_o34 k_o35 k_o36 k_o37 k_o38 => ?_)
      exact s_wx_X10_keep_99 k_ta_counts k_o24 k_o25 k_o26 k_o27 k_o28 k_o29 k_o30 k_o31 k_o32 k_o33 k_o34 k_o35 k_o36 k_o37 k_o38 k_tl1f_huts k_tl1f_singers k_tl1f_villages k_tl1f_dams k_tl1f_echoes k_tl1f_deep k_tl1f_slide k_tl1a_heights k_tl1a_ladders k_tl1a_minutes k_tl1a_echoFrom k_tl1a_echoTo k_tl1a_homes k_tl1a_talls k_tl1a_known k_tv0f_deeds k_tv0a_kinds k_tv0a_firsts k_tv0a_seconds k_tv1f_deeds k_tv1a_kinds k_tv1a_firsts k_tv1a_seconds k_ts0f_facts k_ts0a_heard k_ts0a_huts k_ts0a_minutes k_ts1f_facts k_ts1a_heard k_ts1a_huts k_ts1a_minutes k_tc0f_voices k_tc0f_step k_tc0a_parts k_tc0a_heights k_tc1f_voices k_tc1f_step k_tc1a_parts k_tc1a_heights k_rlf_huts k_rlf_singers k_rlf_villages k_rlf_dams k_rlf_echoes k_rlf_deep k_rlf_slide k_rla_heights k_rla_ladders k_rla_minutes k_rla_echoFrom k_rla_echoTo k_rla_homes k_rla_talls k_rla_known k_rvf_deeds k_rva_kinds k_rva_firsts k_rva_seconds k_rsf_facts k_rsa_heard k_rsa_huts k_rsa_minutes k_rcf_voices k_rcf_step k_rca_parts k_rca_heights (iv_w (iv_eqa (l := 0) (h := 0) c1 hx1 (iv_lit (l := 0) (h := 0) (by decide)) (by decide)) (by decide)) (iv_w (iv_lit (l := 0) (h := 0) (by decide)) (by decide)) hpost
    · skip
      refine s_wll_X2_copyFrom_9_0 k_tl1f_huts k_tl1f_singers k_tl1f_villages k_tl1f_dams k_tl1f_echoes k_tl1f_deep k_tl1f_slide k_tl1a_heights k_tl1a_ladders k_tl1a_minutes k_tl1a_echoFrom k_tl1a_echoTo k_tl1a_homes k_tl1a_talls k_tl1a_known k_rlf_huts k_rlf_singers k_rlf_villages k_rlf_dams k_rlf_echoes k_rlf_deep k_rlf_slide k_rla_heights k_rla_ladders k_rla_minutes k_rla_echoFrom k_rla_echoTo k_rla_homes k_rla_talls k_rla_known (fun o39 o40 o41 o42 o43 o44 o45 o46 o47 o48 o49 o50 o51 o52 o53 k_o39 k_o40 k_o41 k_o42 k_o43 k_o44 k_o45 k_o46 k_o47 k_o48 k_o49 k_o50 k_o51 k_o52 k_o53 => ?_)
      exact s_wx_X10_keep_99 k_ta_counts k_tl0f_huts k_tl0f_singers k_tl0f_villages k_tl0f_dams k_tl0f_echoes k_tl0f_deep k_tl0f_slide k_tl0a_heights k_tl0a_ladders k_tl0a_minutes k_tl0a_echoFrom k_tl0a_echoTo k_tl0a_homes k_tl0a_talls k_tl0a_known k_o39 k_o40 k_o41 k_o42 k_o43 k_o44 k_o45 k_o46 k_o47 k_o48 k_o49 k_o50 k_o51 k_o52 k_o53 k_tv0f_deeds k_tv0a_kinds k_tv0a_firsts k_tv0a_seconds k_tv1f_deeds k_tv1a_kinds k_tv1a_firsts k_tv1a_seconds k_ts0f_facts k_ts0a_heard k_ts0a_huts k_ts0a_minutes k_ts1f_facts k_ts1a_heard k_ts1a_huts k_ts1a_minutes k_tc0f_voices k_tc0f_step k_tc0a_parts k_tc0a_heights k_tc1f_voices k_tc1f_step k_tc1a_parts k_tc1a_heights k_rlf_huts k_rlf_singers k_rlf_villages k_rlf_dams k_rlf_echoes k_rlf_deep k_rlf_slide k_rla_heights k_rla_ladders k_rla_minutes k_rla_echoFrom k_rla_echoTo k_rla_homes k_rla_talls k_rla_known k_rvf_deeds k_rva_kinds k_rva_firsts k_rva_seconds k_rsf_facts k_rsa_heard k_rsa_huts k_rsa_minutes k_rcf_voices k_rcf_step k_rca_parts k_rca_heights (iv_w (iv_eqa (l := 0) (h := 0) c1 hx1 (iv_lit (l := 0) (h := 0) (by decide)) (by decide)) (by decide)) (iv_w (iv_lit (l := 1) (h := 1) (by decide)) (by decide)) hpost
-- wx_X10_text
set_option maxRecDepth 20000 in
theorem s_wx_X10_text_0 {ta_tape : Nat → Int32} {tf_length : Int32} {tf_fault : Int32} {tf_place : Int32} {ta_counts : Nat → Int32} {tl0f_huts : Int32} {tl0f_singers : Int32} {tl0f_villages : Int32} {tl0f_dams : Int32} {tl0f_echoes : Int32} {tl0f_deep : Int32} {tl0f_slide : Int32} {tl0a_heights : Nat → Int32} {tl0a_ladders : Nat → Int32} {tl0a_minutes : Nat → Int32} {tl0a_echoFrom : Nat → Int32} {tl0a_echoTo : Nat → Int32} {tl0a_homes : Nat → Int32} {tl0a_talls : Nat → Int32} {tl0a_known : Nat → Int32} {tl1f_huts : Int32} {tl1f_singers : Int32} {tl1f_villages : Int32} {tl1f_dams : Int32} {tl1f_echoes : Int32} {tl1f_deep : Int32} {tl1f_slide : Int32} {tl1a_heights : Nat → Int32} {tl1a_ladders : Nat → Int32} {tl1a_minutes : Nat → Int32} {tl1a_echoFrom : Nat → Int32} {tl1a_echoTo : Nat → Int32} {tl1a_homes : Nat → Int32} {tl1a_talls : Nat → Int32} {tl1a_known : Nat → Int32} {tv0f_deeds : Int32} {tv0a_kinds : Nat → Int32} {tv0a_firsts : Nat → Int32} {tv0a_seconds : Nat → Int32} {tv1f_deeds : Int32} {tv1a_kinds : Nat → Int32} {tv1a_firsts : Nat → Int32} {tv1a_seconds : Nat → Int32} {ts0f_facts : Int32} {ts0a_heard : Nat → Int32} {ts0a_huts : Nat → Int32} {ts0a_minutes : Nat → Int32} {ts1f_facts : Int32} {ts1a_heard : Nat → Int32} {ts1a_huts : Nat → Int32} {ts1a_minutes : Nat → Int32} {tc0f_voices : Int32} {tc0f_step : Int32} {tc0a_parts : Nat → Int32} {tc0a_heights : Nat → Int32} {tc1f_voices : Int32} {tc1f_step : Int32} {tc1a_parts : Nat → Int32} {tc1a_heights : Nat → Int32} {rlf_huts : Int32} {rlf_singers : Int32} {rlf_villages : Int32} {rlf_dams : Int32} {rlf_echoes : Int32} {rlf_deep : Int32} {rlf_slide : Int32} {rla_heights : Nat → Int32} {rla_ladders : Nat → Int32} {rla_minutes : Nat → Int32} {rla_echoFrom : Nat → Int32} {rla_echoTo : Nat → Int32} {rla_homes : Nat → Int32} {rla_talls : Nat → Int32} {rla_known : Nat → Int32} {rvf_deeds : Int32} {rva_kinds : Nat → Int32} {rva_firsts : Nat → Int32} {rva_seconds : Nat → Int32} {rsf_facts : Int32} {rsa_heard : Nat → Int32} {rsa_huts : Nat → Int32} {rsa_minutes : Nat → Int32} {rcf_voices : Int32} {rcf_step : Int32} {rca_parts : Nat → Int32} {rca_heights : Nat → Int32} {rf_fault : Int32} {rf_faultPlace : Int32} {ra_numbers : Nat → Int32} {ra_tape : Nat → Int32} {rf_length : Int32} {rf_behind : Int32} {rf_kind : Int32} {rf_first : Int32} {rf_value : Int32} {rf_hutsToldOf : Int32} {rf_singersToldOf : Int32} {x1 : Int32} {x2 : Int32} {post : Int32 → (Int32) → (Int32) → (Int32) → (Nat → Int32) → (Int32) → (Int32) → (Int32) → (Int32) → (Int32) → (Int32) → (Int32) → (Nat → Int32) → (Nat → Int32) → (Nat → Int32) → (Nat → Int32) → (Nat → Int32) → (Nat → Int32) → (Nat → Int32) → (Nat → Int32) → (Int32) → (Int32) → (Int32) → (Int32) → (Int32) → (Int32) → (Int32) → (Nat → Int32) → (Nat → Int32) → (Nat → Int32) → (Nat → Int32) → (Nat → Int32) → (Nat → Int32) → (Nat → Int32) → (Nat → Int32) → (Int32) → (Nat → Int32) → (Nat → Int32) → (Nat → Int32) → (Int32) → (Nat → Int32) → (Nat → Int32) → (Nat → Int32) → (Int32) → (Nat → Int32) → (Nat → Int32) → (Nat → Int32) → (Int32) → (Nat → Int32) → (Nat → Int32) → (Nat → Int32) → (Int32) → (Int32) → (Nat → Int32) → (Nat → Int32) → (Int32) → (Int32) → (Nat → Int32) → (Nat → Int32) → (Int32) → (Int32) → (Int32) → (Int32) → (Int32) → (Int32) → (Int32) → (Nat → Int32) → (Nat → Int32) → (Nat → Int32) → (Nat → Int32) → (Nat → Int32) → (Nat → Int32) → (Nat → Int32) → (Nat → Int32) → (Int32) → (Nat → Int32) → (Nat → Int32) → (Nat → Int32) → (Int32) → (Nat → Int32) → (Nat → Int32) → (Nat → Int32) → (Int32) → (Int32) → (Nat → Int32) → (Nat → Int32) → (Int32) → (Int32) → (Nat → Int32) → (Nat → Int32) → (Int32) → (Int32) → (Int32) → (Int32) → (Int32) → (Int32) → (Int32) → Prop} (k_ta_tape : ∀ j, iv (-128) 127 (ta_tape j)) (k_tf_length : iv 0 600 tf_length) (k_tf_fault : iv 0 4 tf_fault) (k_tf_place : iv (-1) 600 tf_place) (k_ta_counts : ∀ j, iv 0 2 (ta_counts j)) (k_tl0f_huts : iv 0 9 tl0f_huts) (k_tl0f_singers : iv 0 6 tl0f_singers) (k_tl0f_villages : iv 0 511 tl0f_villages) (k_tl0f_dams : iv 0 511 tl0f_dams) (k_tl0f_echoes : iv 0 4 tl0f_echoes) (k_tl0f_deep : iv 1 9 tl0f_deep) (k_tl0f_slide : iv 0 10 tl0f_slide) (k_tl0a_heights : ∀ j, iv 0 99 (tl0a_heights j)) (k_tl0a_ladders : ∀ j, iv 0 9 (tl0a_ladders j)) (k_tl0a_minutes : ∀ j, iv 0 9 (tl0a_minutes j)) (k_tl0a_echoFrom : ∀ j, iv 0 8 (tl0a_echoFrom j)) (k_tl0a_echoTo : ∀ j, iv 0 8 (tl0a_echoTo j)) (k_tl0a_homes : ∀ j, iv 0 8 (tl0a_homes j)) (k_tl0a_talls : ∀ j, iv 0 9 (tl0a_talls j)) (k_tl0a_known : ∀ j, iv 0 31 (tl0a_known j)) (k_tl1f_huts : iv 0 9 tl1f_huts) (k_tl1f_singers : iv 0 6 tl1f_singers) (k_tl1f_villages : iv 0 511 tl1f_villages) (k_tl1f_dams : iv 0 511 tl1f_dams) (k_tl1f_echoes : iv 0 4 tl1f_echoes) (k_tl1f_deep : iv 1 9 tl1f_deep) (k_tl1f_slide : iv 0 10 tl1f_slide) (k_tl1a_heights : ∀ j, iv 0 99 (tl1a_heights j)) (k_tl1a_ladders : ∀ j, iv 0 9 (tl1a_ladders j)) (k_tl1a_minutes : ∀ j, iv 0 9 (tl1a_minutes j)) (k_tl1a_echoFrom : ∀ j, iv 0 8 (tl1a_echoFrom j)) (k_tl1a_echoTo : ∀ j, iv 0 8 (tl1a_echoTo j)) (k_tl1a_homes : ∀ j, iv 0 8 (tl1a_homes j)) (k_tl1a_talls : ∀ j, iv 0 9 (tl1a_talls j)) (k_tl1a_known : ∀ j, iv 0 31 (tl1a_known j)) (k_tv0f_deeds : iv 0 40 tv0f_deeds) (k_tv0a_kinds : ∀ j, iv 0 5 (tv0a_kinds j)) (k_tv0a_firsts : ∀ j, iv 0 5 (tv0a_firsts j)) (k_tv0a_seconds : ∀ j, iv (-1) 8 (tv0a_seconds j)) (k_tv1f_deeds : iv 0 40 tv1f_deeds) (k_tv1a_kinds : ∀ j, iv 0 5 (tv1a_kinds j)) (k_tv1a_firsts : ∀ j, iv 0 5 (tv1a_firsts j)) (k_tv1a_seconds : ∀ j, iv (-1) 8 (tv1a_seconds j)) (k_ts0f_facts : iv 0 10 ts0f_facts) (k_ts0a_heard : ∀ j, iv 0 1 (ts0a_heard j)) (k_ts0a_huts : ∀ j, iv 0 8 (ts0a_huts j)) (k_ts0a_minutes : ∀ j, iv 0 60 (ts0a_minutes j)) (k_ts1f_facts : iv 0 10 ts1f_facts) (k_ts1a_heard : ∀ j, iv 0 1 (ts1a_heard j)) (k_ts1a_huts : ∀ j, iv 0 8 (ts1a_huts j)) (k_ts1a_minutes : ∀ j, iv 0 60 (ts1a_minutes j)) (k_tc0f_voices : iv 0 9 tc0f_voices) (k_tc0f_step : iv 0 9 tc0f_step) (k_tc0a_parts : ∀ j, iv 0 3 (tc0a_parts j)) (k_tc0a_heights : ∀ j, iv 0 9 (tc0a_heights j)) (k_tc1f_voices : iv 0 9 tc1f_voices) (k_tc1f_step : iv 0 9 tc1f_step) (k_tc1a_parts : ∀ j, iv 0 3 (tc1a_parts j)) (k_tc1a_heights : ∀ j, iv 0 9 (tc1a_heights j)) (k_rlf_huts : iv 0 9 rlf_huts) (k_rlf_singers : iv 0 6 rlf_singers) (k_rlf_villages : iv 0 511 rlf_villages) (k_rlf_dams : iv 0 511 rlf_dams) (k_rlf_echoes : iv 0 4 rlf_echoes) (k_rlf_deep : iv 1 9 rlf_deep) (k_rlf_slide : iv 0 10 rlf_slide) (k_rla_heights : ∀ j, iv 0 99 (rla_heights j)) (k_rla_ladders : ∀ j, iv 0 9 (rla_ladders j)) (k_rla_minutes : ∀ j, iv 0 9 (rla_minutes j)) (k_rla_echoFrom : ∀ j, iv 0 8 (rla_echoFrom j)) (k_rla_echoTo : ∀ j, iv 0 8 (rla_echoTo j)) (k_rla_homes : ∀ j, iv 0 8 (rla_homes j)) (k_rla_talls : ∀ j, iv 0 9 (rla_talls j)) (k_rla_known : ∀ j, iv 0 31 (rla_known j)) (k_rvf_deeds : iv 0 40 rvf_deeds) (k_rva_kinds : ∀ j, iv 0 5 (rva_kinds j)) (k_rva_firsts : ∀ j, iv 0 5 (rva_firsts j)) (k_rva_seconds : ∀ j, iv (-1) 8 (rva_seconds j)) (k_rsf_facts : iv 0 10 rsf_facts) (k_rsa_heard : ∀ j, iv 0 1 (rsa_heard j)) (k_rsa_huts : ∀ j, iv 0 8 (rsa_huts j)) (k_rsa_minutes : ∀ j, iv 0 60 (rsa_minutes j)) (k_rcf_voices : iv 0 9 rcf_voices) (k_rcf_step : iv 0 9 rcf_step) (k_rca_parts : ∀ j, iv 0 3 (rca_parts j)) (k_rca_heights : ∀ j, iv 0 9 (rca_heights j)) (k_rf_fault : iv 0 4 rf_fault) (k_rf_faultPlace : iv (-1) 600 rf_faultPlace) (k_ra_tape : ∀ j, iv (-128) 127 (ra_tape j)) (k_rf_length : iv 0 600 rf_length) (k_rf_behind : iv 0 600 rf_behind) (k_rf_kind : iv 0 4 rf_kind) (k_rf_first : iv 0 600 rf_first) (hpost : ∀ (r : Int32) (tf_length : Int32) (tf_fault : Int32) (tf_place : Int32) (ta_counts : Nat → Int32) (tl0f_huts : Int32) (tl0f_singers : Int32) (tl0f_villages : Int32) (tl0f_dams : Int32) (tl0f_echoes : Int32) (tl0f_deep : Int32) (tl0f_slide : Int32) (tl0a_heights : Nat → Int32) (tl0a_ladders : Nat → Int32) (tl0a_minutes : Nat → Int32) (tl0a_echoFrom : Nat → Int32) (tl0a_echoTo : Nat → Int32) (tl0a_homes : Nat → Int32) (tl0a_talls : Nat → Int32) (tl0a_known : Nat → Int32) (tl1f_huts : Int32) (tl1f_singers : Int32) (tl1f_villages : Int32) (tl1f_dams : Int32) (tl1f_echoes : Int32) (tl1f_deep : Int32) (tl1f_slide : Int32) (tl1a_heights : Nat → Int32) (tl1a_ladders : Nat → Int32) (tl1a_minutes : Nat → Int32) (tl1a_echoFrom : Nat → Int32) (tl1a_echoTo : Nat → Int32) (tl1a_homes : Nat → Int32) (tl1a_talls : Nat → Int32) (tl1a_known : Nat → Int32) (tv0f_deeds : Int32) (tv0a_kinds : Nat → Int32) (tv0a_firsts : Nat → Int32) (tv0a_seconds : Nat → Int32) (tv1f_deeds : Int32) (tv1a_kinds : Nat → Int32) (tv1a_firsts : Nat → Int32) (tv1a_seconds : Nat → Int32) (ts0f_facts : Int32) (ts0a_heard : Nat → Int32) (ts0a_huts : Nat → Int32) (ts0a_minutes : Nat → Int32) (ts1f_facts : Int32) (ts1a_heard : Nat → Int32) (ts1a_huts : Nat → Int32) (ts1a_minutes : Nat → Int32) (tc0f_voices : Int32) (tc0f_step : Int32) (tc0a_parts : Nat → Int32) (tc0a_heights : Nat → Int32) (tc1f_voices : Int32) (tc1f_step : Int32) (tc1a_parts : Nat → Int32) (tc1a_heights : Nat → Int32) (rlf_huts : Int32) (rlf_singers : Int32) (rlf_villages : Int32) (rlf_dams : Int32) (rlf_echoes : Int32) (rlf_deep : Int32) (rlf_slide : Int32) (rla_heights : Nat → Int32) (rla_ladders : Nat → Int32) (rla_minutes : Nat → Int32) (rla_echoFrom : Nat → Int32) (rla_echoTo : Nat → Int32) (rla_homes : Nat → Int32) (rla_talls : Nat → Int32) (rla_known : Nat → Int32) (rvf_deeds : Int32) (rva_kinds : Nat → Int32) (rva_firsts : Nat → Int32) (rva_seconds : Nat → Int32) (rsf_facts : Int32) (rsa_heard : Nat → Int32) (rsa_huts : Nat → Int32) (rsa_minutes : Nat → Int32) (rcf_voices : Int32) (rcf_step : Int32) (rca_parts : Nat → Int32) (rca_heights : Nat → Int32) (rf_fault : Int32) (rf_faultPlace : Int32) (ra_numbers : Nat → Int32) (ra_tape : Nat → Int32) (rf_length : Int32) (rf_behind : Int32) (rf_kind : Int32) (rf_first : Int32) (rf_value : Int32) (rf_hutsToldOf : Int32) (rf_singersToldOf : Int32), iv (-2) 1 r → (iv 0 0 tf_length) → (iv 0 4 tf_fault) → (iv (-1) 600 tf_place) → (∀ j, iv 0 2 (ta_counts j)) → (iv 0 9 tl0f_huts) → (iv 0 6 tl0f_singers) → (iv 0 511 tl0f_villages) → (iv 0 511 tl0f_dams) → (iv 0 4 tl0f_echoes) → (iv 1 9 tl0f_deep) → (iv 0 10 tl0f_slide) → (∀ j, iv 0 99 (tl0a_heights j)) → (∀ j, iv 0 9 (tl0a_ladders j)) → (∀ j, iv 0 9 (tl0a_minutes j)) → (∀ j, iv 0 8 (tl0a_echoFrom j)) → (∀ j, iv 0 8 (tl0a_echoTo j)) → (∀ j, iv 0 8 (tl0a_homes j)) → (∀ j, iv 0 9 (tl0a_talls j)) → (∀ j, iv 0 31 (tl0a_known j)) → (iv 0 9 tl1f_huts) → (iv 0 6 tl1f_singers) → (iv 0 511 tl1f_villages) → (iv 0 511 tl1f_dams) → (iv 0 4 tl1f_echoes) → (iv 1 9 tl1f_deep) → (iv 0 10 tl1f_slide) → (∀ j, iv 0 99 (tl1a_heights j)) → (∀ j, iv 0 9 (tl1a_ladders j)) → (∀ j, iv 0 9 (tl1a_minutes j)) → (∀ j, iv 0 8 (tl1a_echoFrom j)) → (∀ j, iv 0 8 (tl1a_echoTo j)) → (∀ j, iv 0 8 (tl1a_homes j)) → (∀ j, iv 0 9 (tl1a_talls j)) → (∀ j, iv 0 31 (tl1a_known j)) → (iv 0 40 tv0f_deeds) → (∀ j, iv 0 5 (tv0a_kinds j)) → (∀ j, iv 0 5 (tv0a_firsts j)) → (∀ j, iv (-1) 8 (tv0a_seconds j)) → (iv 0 40 tv1f_deeds) → (∀ j, iv 0 5 (tv1a_kinds j)) → (∀ j, iv 0 5 (tv1a_firsts j)) → (∀ j, iv (-1) 8 (tv1a_seconds j)) → (iv 0 10 ts0f_facts) → (∀ j, iv 0 1 (ts0a_heard j)) → (∀ j, iv 0 8 (ts0a_huts j)) → (∀ j, iv 0 60 (ts0a_minutes j)) → (iv 0 10 ts1f_facts) → (∀ j, iv 0 1 (ts1a_heard j)) → (∀ j, iv 0 8 (ts1a_huts j)) → (∀ j, iv 0 60 (ts1a_minutes j)) → (iv 0 9 tc0f_voices) → (iv 0 9 tc0f_step) → (∀ j, iv 0 3 (tc0a_parts j)) → (∀ j, iv 0 9 (tc0a_heights j)) → (iv 0 9 tc1f_voices) → (iv 0 9 tc1f_step) → (∀ j, iv 0 3 (tc1a_parts j)) → (∀ j, iv 0 9 (tc1a_heights j)) → (iv 0 9 rlf_huts) → (iv 0 6 rlf_singers) → (iv 0 511 rlf_villages) → (iv 0 511 rlf_dams) → (iv 0 4 rlf_echoes) → (iv 1 9 rlf_deep) → (iv 0 10 rlf_slide) → (∀ j, iv 0 99 (rla_heights j)) → (∀ j, iv 0 9 (rla_ladders j)) → (∀ j, iv 0 9 (rla_minutes j)) → (∀ j, iv 0 8 (rla_echoFrom j)) → (∀ j, iv 0 8 (rla_echoTo j)) → (∀ j, iv 0 8 (rla_homes j)) → (∀ j, iv 0 9 (rla_talls j)) → (∀ j, iv 0 31 (rla_known j)) → (iv 0 40 rvf_deeds) → (∀ j, iv 0 5 (rva_kinds j)) → (∀ j, iv 0 5 (rva_firsts j)) → (∀ j, iv (-1) 8 (rva_seconds j)) → (iv 0 10 rsf_facts) → (∀ j, iv 0 1 (rsa_heard j)) → (∀ j, iv 0 8 (rsa_huts j)) → (∀ j, iv 0 60 (rsa_minutes j)) → (iv 0 9 rcf_voices) → (iv 0 9 rcf_step) → (∀ j, iv 0 3 (rca_parts j)) → (∀ j, iv 0 9 (rca_heights j)) → (iv 0 4 rf_fault) → (iv (-1) 600 rf_faultPlace) → (∀ j, iv (-128) 127 (ra_tape j)) → (iv 0 600 rf_length) → (iv 0 600 rf_behind) → (iv 0 4 rf_kind) → (iv 0 600 rf_first) → post r tf_length tf_fault tf_place ta_counts tl0f_huts tl0f_singers tl0f_villages tl0f_dams tl0f_echoes tl0f_deep tl0f_slide tl0a_heights tl0a_ladders tl0a_minutes tl0a_echoFrom tl0a_echoTo tl0a_homes tl0a_talls tl0a_known tl1f_huts tl1f_singers tl1f_villages tl1f_dams tl1f_echoes tl1f_deep tl1f_slide tl1a_heights tl1a_ladders tl1a_minutes tl1a_echoFrom tl1a_echoTo tl1a_homes tl1a_talls tl1a_known tv0f_deeds tv0a_kinds tv0a_firsts tv0a_seconds tv1f_deeds tv1a_kinds tv1a_firsts tv1a_seconds ts0f_facts ts0a_heard ts0a_huts ts0a_minutes ts1f_facts ts1a_heard ts1a_huts ts1a_minutes tc0f_voices tc0f_step tc0a_parts tc0a_heights tc1f_voices tc1f_step tc1a_parts tc1a_heights rlf_huts rlf_singers rlf_villages rlf_dams rlf_echoes rlf_deep rlf_slide rla_heights rla_ladders rla_minutes rla_echoFrom rla_echoTo rla_homes rla_talls rla_known rvf_deeds rva_kinds rva_firsts rva_seconds rsf_facts rsa_heard rsa_huts rsa_minutes rcf_voices rcf_step rca_parts rca_heights rf_fault rf_faultPlace ra_numbers ra_tape rf_length rf_behind rf_kind rf_first rf_value rf_hutsToldOf rf_singersToldOf) : q_wx_X10_text_0 ta_tape tf_length tf_fault tf_place ta_counts tl0f_huts tl0f_singers tl0f_villages tl0f_dams tl0f_echoes tl0f_deep tl0f_slide tl0a_heights tl0a_ladders tl0a_minutes tl0a_echoFrom tl0a_echoTo tl0a_homes tl0a_talls tl0a_known tl1f_huts tl1f_singers tl1f_villages tl1f_dams tl1f_echoes tl1f_deep tl1f_slide tl1a_heights tl1a_ladders tl1a_minutes tl1a_echoFrom tl1a_echoTo tl1a_homes tl1a_talls tl1a_known tv0f_deeds tv0a_kinds tv0a_firsts tv0a_seconds tv1f_deeds tv1a_kinds tv1a_firsts tv1a_seconds ts0f_facts ts0a_heard ts0a_huts ts0a_minutes ts1f_facts ts1a_heard ts1a_huts ts1a_minutes tc0f_voices tc0f_step tc0a_parts tc0a_heights tc1f_voices tc1f_step tc1a_parts tc1a_heights rlf_huts rlf_singers rlf_villages rlf_dams rlf_echoes rlf_deep rlf_slide rla_heights rla_ladders rla_minutes rla_echoFrom rla_echoTo rla_homes rla_talls rla_known rvf_deeds rva_kinds rva_firsts rva_seconds rsf_facts rsa_heard rsa_huts rsa_minutes rcf_voices rcf_step rca_parts rca_heights rf_fault rf_faultPlace ra_numbers ra_tape rf_length rf_behind rf_kind rf_first rf_value rf_hutsToldOf rf_singersToldOf x1 x2 post := by
  refine ⟨fun c1 => ?_, fun c1 => ?_⟩
  · skip
    refine ⟨fun c2 => ?_, fun c2 => ?_⟩
    · skip
      exact (iv_emp (iv_ne (l := (-1)) (h := (-2)) c2 (iv_lit (l := (-2)) (h := (-2)) (by decide)) (iv_lit (l := (-2)) (h := (-2)) (by decide)) (by decide)) (by decide)).elim
    · skip
      exact hpost _ _ _ _ _ _ _ _ _ _ _ _ _ _ _ _ _ _ _ _ _ _ _ _ _ _ _ _ _ _ _ _ _ _ _ _ _ _ _ _ _ _ _ _ _ _ _ _ _ _ _ _ _ _ _ _ _ _ _ _ _ _ _ _ _ _ _ _ _ _ _ _ _ _ _ _ _ _ _ _ _ _ _ _ _ _ _ _ _ _ _ _ _ _ _ _ _ (iv_w (iv_lit (l := (-2)) (h := (-2)) (by decide)) (by decide)) (iv_lit (l := 0) (h := 0) (by decide)) (iv_w (iv_lit (l := 0) (h := 0) (by decide)) (by decide)) (iv_w (iv_lit (l := (-1)) (h := (-1)) (by decide)) (by decide)) k_ta_counts k_tl0f_huts k_tl0f_singers k_tl0f_villages k_tl0f_dams k_tl0f_echoes k_tl0f_deep k_tl0f_slide k_tl0a_heights k_tl0a_ladders k_tl0a_minutes k_tl0a_echoFrom k_tl0a_echoTo k_tl0a_homes k_tl0a_talls k_tl0a_known k_tl1f_huts k_tl1f_singers k_tl1f_villages k_tl1f_dams k_tl1f_echoes k_tl1f_deep k_tl1f_slide k_tl1a_heights k_tl1a_ladders k_tl1a_minutes k_tl1a_echoFrom k_tl1a_echoTo k_tl1a_homes k_tl1a_talls k_tl1a_known k_tv0f_deeds k_tv0a_kinds k_tv0a_firsts k_tv0a_seconds k_tv1f_deeds k_tv1a_kinds k_tv1a_firsts k_tv1a_seconds k_ts0f_facts k_ts0a_heard k_ts0a_huts k_ts0a_minutes k_ts1f_facts k_ts1a_heard k_ts1a_huts k_ts1a_minutes k_tc0f_voices k_tc0f_step k_tc0a_parts k_tc0a_heights k_tc1f_voices k_tc1f_step k_tc1a_parts k_tc1a_heights k_rlf_huts k_rlf_singers k_rlf_villages k_rlf_dams k_rlf_echoes k_rlf_deep k_rlf_slide k_rla_heights k_rla_ladders k_rla_minutes k_rla_echoFrom k_rla_echoTo k_rla_homes k_rla_talls k_rla_known k_rvf_deeds k_rva_kinds k_rva_firsts k_rva_seconds k_rsf_facts k_rsa_heard k_rsa_huts k_rsa_minutes k_rcf_voices k_rcf_step k_rca_parts k_rca_heights k_rf_fault k_rf_faultPlace k_ra_tape k_rf_length k_rf_behind k_rf_kind k_rf_first
  · skip
    refine ⟨fun c3 => ?_, fun c3 => ?_⟩
    · skip
      refine ⟨iv_in (iv_lta (l := 0) (h := 3) (r_lt c3) (iv_leb (l := 0) (h := 2147483647) (r_nlt c1) (iv_lit (l := 0) (h := 0) (by decide)) (iv_top x1) (by decide)) (iv_lit (l := 4) (h := 4) (by decide)) (by decide)) (by decide), ?_⟩
      intro w4 ew4
      have hw4 := iv_eq ew4 (k_ta_counts _)
      refine ⟨fun c5 => ?_, fun c5 => ?_⟩
      · skip
        refine ⟨fun c6 => ?_, fun c6 => ?_⟩
        · skip
          refine ⟨fun c7 => ?_, fun c7 => ?_⟩
          · skip
            exact (iv_emp (iv_ne (l := (-1)) (h := (-2)) c7 (iv_lit (l := (-2)) (h := (-2)) (by decide)) (iv_lit (l := (-2)) (h := (-2)) (by decide)) (by decide)) (by decide)).elim
          · skip
            exact hpost _ _ _ _ _ _ _ _ _ _ _ _ _ _ _ _ _ _ _ _ _ _ _ _ _ _ _ _ _ _ _ _ _ _ _ _ _ _ _ _ _ _ _ _ _ _ _ _ _ _ _ _ _ _ _ _ _ _ _ _ _ _ _ _ _ _ _ _ _ _ _ _ _ _ _ _ _ _ _ _ _ _ _ _ _ _ _ _ _ _ _ _ _ _ _ _ _ (iv_w (iv_lit (l := (-2)) (h := (-2)) (by decide)) (by decide)) (iv_lit (l := 0) (h := 0) (by decide)) (iv_w (iv_lit (l := 0) (h := 0) (by decide)) (by decide)) (iv_w (iv_lit (l := (-1)) (h := (-1)) (by decide)) (by decide)) k_ta_counts k_tl0f_huts k_tl0f_singers k_tl0f_villages k_tl0f_dams k_tl0f_echoes k_tl0f_deep k_tl0f_slide k_tl0a_heights k_tl0a_ladders k_tl0a_minutes k_tl0a_echoFrom k_tl0a_echoTo k_tl0a_homes k_tl0a_talls k_tl0a_known k_tl1f_huts k_tl1f_singers k_tl1f_villages k_tl1f_dams k_tl1f_echoes k_tl1f_deep k_tl1f_slide k_tl1a_heights k_tl1a_ladders k_tl1a_minutes k_tl1a_echoFrom k_tl1a_echoTo k_tl1a_homes k_tl1a_talls k_tl1a_known k_tv0f_deeds k_tv0a_kinds k_tv0a_firsts k_tv0a_seconds k_tv1f_deeds k_tv1a_kinds k_tv1a_firsts k_tv1a_seconds k_ts0f_facts k_ts0a_heard k_ts0a_huts k_ts0a_minutes k_ts1f_facts k_ts1a_heard k_ts1a_huts k_ts1a_minutes k_tc0f_voices k_tc0f_step k_tc0a_parts k_tc0a_heights k_tc1f_voices k_tc1f_step k_tc1a_parts k_tc1a_heights k_rlf_huts k_rlf_singers k_rlf_villages k_rlf_dams k_rlf_echoes k_rlf_deep k_rlf_slide k_rla_heights k_rla_ladders k_rla_minutes k_rla_echoFrom k_rla_echoTo k_rla_homes k_rla_talls k_rla_known k_rvf_deeds k_rva_kinds k_rva_firsts k_rva_seconds k_rsf_facts k_rsa_heard k_rsa_huts k_rsa_minutes k_rcf_voices k_rcf_step k_rca_parts k_rca_heights k_rf_fault k_rf_faultPlace k_ra_tape k_rf_length k_rf_behind k_rf_kind k_rf_first
        · skip
          refine ⟨fun c8 => ?_, fun c8 => ?_⟩
          · skip
            refine ⟨fun c9 => ?_, fun c9 => ?_⟩
            · skip
              exact (iv_emp (iv_ne (l := (-1)) (h := (-2)) c9 (iv_lit (l := (-2)) (h := (-2)) (by decide)) (iv_lit (l := (-2)) (h := (-2)) (by decide)) (by decide)) (by decide)).elim
            · skip
              exact hpost _ _ _ _ _ _ _ _ _ _ _ _ _ _ _ _ _ _ _ _ _ _ _ _ _ _ _ _ _ _ _ _ _ _ _ _ _ _ _ _ _ _ _ _ _ _ _ _ _ _ _ _ _ _ _ _ _ _ _ _ _ _ _ _ _ _ _ _ _ _ _ _ _ _ _ _ _ _ _ _ _ _ _ _ _ _ _ _ _ _ _ _ _ _ _ _ _ (iv_w (iv_lit (l := (-2)) (h := (-2)) (by decide)) (by decide)) (iv_lit (l := 0) (h := 0) (by decide)) (iv_w (iv_lit (l := 0) (h := 0) (by decide)) (by decide)) (iv_w (iv_lit (l := (-1)) (h := (-1)) (by decide)) (by decide)) k_ta_counts k_tl0f_huts k_tl0f_singers k_tl0f_villages k_tl0f_dams k_tl0f_echoes k_tl0f_deep k_tl0f_slide k_tl0a_heights k_tl0a_ladders k_tl0a_minutes k_tl0a_echoFrom k_tl0a_echoTo k_tl0a_homes k_tl0a_talls k_tl0a_known k_tl1f_huts k_tl1f_singers k_tl1f_villages k_tl1f_dams k_tl1f_echoes k_tl1f_deep k_tl1f_slide k_tl1a_heights k_tl1a_ladders k_tl1a_minutes k_tl1a_echoFrom k_tl1a_echoTo k_tl1a_homes k_tl1a_talls k_tl1a_known k_tv0f_deeds k_tv0a_kinds k_tv0a_firsts k_tv0a_seconds k_tv1f_deeds k_tv1a_kinds k_tv1a_firsts k_tv1a_seconds k_ts0f_facts k_ts0a_heard k_ts0a_huts k_ts0a_minutes k_ts1f_facts k_ts1a_heard k_ts1a_huts k_ts1a_minutes k_tc0f_voices k_tc0f_step k_tc0a_parts k_tc0a_heights k_tc1f_voices k_tc1f_step k_tc1a_parts k_tc1a_heights k_rlf_huts k_rlf_singers k_rlf_villages k_rlf_dams k_rlf_echoes k_rlf_deep k_rlf_slide k_rla_heights k_rla_ladders k_rla_minutes k_rla_echoFrom k_rla_echoTo k_rla_homes k_rla_talls k_rla_known k_rvf_deeds k_rva_kinds k_rva_firsts k_rva_seconds k_rsf_facts k_rsa_heard k_rsa_huts k_rsa_minutes k_rcf_voices k_rcf_step k_rca_parts k_rca_heights k_rf_fault k_rf_faultPlace k_ra_tape k_rf_length k_rf_behind k_rf_kind k_rf_first
          · skip
            refine ⟨fun c10 => ?_, fun c10 => ?_⟩
            · skip
              refine s_wr_X4_read_23_0 k_rlf_huts k_rlf_singers k_rlf_villages k_rlf_dams k_rlf_echoes k_rlf_deep k_rlf_slide k_rla_heights k_rla_ladders k_rla_minutes k_rla_echoFrom k_rla_echoTo k_rla_homes k_rla_talls k_rla_known k_rvf_deeds k_rva_kinds k_rva_firsts k_rva_seconds k_rsf_facts k_rsa_heard k_rsa_huts k_rsa_minutes k_rcf_voices k_rcf_step k_rca_parts k_rca_heights k_rf_fault k_rf_faultPlace k_ra_tape k_rf_length k_rf_behind k_rf_kind k_rf_first k_ta_tape k_tf_length (iv_lta (l := 0) (h := 3) (r_lt c3) (iv_leb (l := 0) (h := 2147483647) (r_nlt c1) (iv_lit (l := 0) (h := 0) (by decide)) (iv_top x1) (by decide)) (iv_lit (l := 4) (h := 4) (by decide)) (by decide)) (fun o11 o12 o13 o14 o15 o16 o17 o18 o19 o20 o21 o22 o23 o24 o25 o26 o27 o28 o29 o30 o31 o32 o33 o34 o35 o36 o37 o38 o39 o40 o41 o42 o43 o44 o45 o46 o47 o48 k_o11 k_o12 k_o13 k_o14 k_o15 k_o16 k_o17 k_o18 k_o19 k_o20 k_o21 k_o22 k_o23 k_o24 k_o25 k_o26 k_o27 k_o28 k_o29 k_o30 k_o31 k_o32 k_o33 k_o34 k_o35 k_o36 k_o37 k_o38 k_o39 k_o41 k_o42 k_o43 k_o44 k_o45 => ?_)
              refine ⟨fun c49 => ?_, fun c49 => ?_⟩
              · skip
                refine s_wx_X10_keep_0 k_ta_counts k_tl0f_huts k_tl0f_singers k_tl0f_villages k_tl0f_dams k_tl0f_echoes k_tl0f_deep k_tl0f_slide k_tl0a_heights k_tl0a_ladders k_tl0a_minutes k_tl0a_echoFrom k_tl0a_echoTo k_tl0a_homes k_tl0a_talls k_tl0a_known k_tl1f_huts k_tl1f_singers k_tl1f_villages k_tl1f_dams k_tl1f_echoes k_tl1f_deep k_tl1f_slide k_tl1a_heights k_tl1a_ladders k_tl1a_minutes k_tl1a_echoFrom k_tl1a_echoTo k_tl1a_homes k_tl1a_talls k_tl1a_known k_tv0f_deeds k_tv0a_kinds k_tv0a_firsts k_tv0a_seconds k_tv1f_deeds k_tv1a_kinds k_tv1a_firsts k_tv1a_seconds k_ts0f_facts k_ts0a_heard k_ts0a_huts k_ts0a_minutes k_ts1f_facts k_ts1a_heard k_ts1a_huts k_ts1a_minutes k_tc0f_voices k_tc0f_step k_tc0a_parts k_tc0a_heights k_tc1f_voices k_tc1f_step k_tc1a_parts k_tc1a_heights k_o11 k_o12 k_o13 k_o14 k_o15 k_o16 k_o17 k_o18 k_o19 k_o20 k_o21 k_o22 k_o23 k_o24 k_o25 k_o26 k_o27 k_o28 k_o29 k_o30 k_o31 k_o32 k_o33 k_o34 k_o35 k_o36 k_o37 (iv_lta (l := 0) (h := 3) (r_lt c3) (iv_leb (l := 0) (h := 2147483647) (r_nlt c1) (iv_lit (l := 0) (h := 0) (by decide)) (iv_top x1) (by decide)) (iv_lit (l := 4) (h := 4) (by decide)) (by decide)) (iv_lta (l := 0) (h := 1) (r_nle c8) (iv_leb (l := 0) (h := 2147483647) (r_nlt c6) (iv_lit (l := 0) (h := 0) (by decide)) (iv_top x2) (by decide)) hw4 (by decide)) (fun o50 o51 o52 o53 o54 o55 o56 o57 o58 o59 o60 o61 o62 o63 o64 o65 o66 o67 o68 o69 o70 o71 o72 o73 o74 o75 o76 o77 o78 o79 o80 o81 o82 o83 o84 o85 o86 o87 o88 o89 o90 o91 o92 o93 o94 o95 o96 o97 o98 o99 o100 o101 o102 o103 o104 k_o50 k_o51 k_o52 k_o53 k_o54 k_o55 k_o56 k_o57 k_o58 k_o59 k_o60 k_o61 k_o62 k_o63 k_o64 k_o65 k_o66 k_o67 k_o68 k_o69 k_o70 k_o71 k_o72 k_o73 k_o74 k_o75 k_o76 k_o77 k_o78 k_o79 k_o80 k_o81 k_o82 k_o83 k_o84 k_o85 k_o86 k_o87 k_o88 k_o89 k_o90 k_o91 k_o92 k_o93 k_o94 k_o95 k_o96 k_o97 k_o98 k_o99 k_o100 k_o101 k_o102 k_o103 k_o104 => ?_)
                exact hpost _ _ _ _ _ _ _ _ _ _ _ _ _ _ _ _ _ _ _ _ _ _ _ _ _ _ _ _ _ _ _ _ _ _ _ _ _ _ _ _ _ _ _ _ _ _ _ _ _ _ _ _ _ _ _ _ _ _ _ _ _ _ _ _ _ _ _ _ _ _ _ _ _ _ _ _ _ _ _ _ _ _ _ _ _ _ _ _ _ _ _ _ _ _ _ _ _ (iv_w (iv_lta (l := 0) (h := 1) (r_nle c8) (iv_leb (l := 0) (h := 2147483647) (r_nlt c6) (iv_lit (l := 0) (h := 0) (by decide)) (iv_top x2) (by decide)) hw4 (by decide)) (by decide)) (iv_lit (l := 0) (h := 0) (by decide)) (iv_w (iv_eqa (l := 0) (h := 0) c49 k_o38 (iv_lit (l := 0) (h := 0) (by decide)) (by decide)) (by decide)) k_o39 k_o50 k_o51 k_o52 k_o53 k_o54 k_o55 k_o56 k_o57 k_o58 k_o59 k_o60 k_o61 k_o62 k_o63 k_o64 k_o65 k_o66 k_o67 k_o68 k_o69 k_o70 k_o71 k_o72 k_o73 k_o74 k_o75 k_o76 k_o77 k_o78 k_o79 k_o80 k_o81 k_o82 k_o83 k_o84 k_o85 k_o86 k_o87 k_o88 k_o89 k_o90 k_o91 k_o92 k_o93 k_o94 k_o95 k_o96 k_o97 k_o98 k_o99 k_o100 k_o101 k_o102 k_o103 k_o104 k_o11 k_o12 k_o13 k_o14 k_o15 k_o16 k_o17 k_o18 k_o19 k_o20 k_o21 k_o22 k_o23 k_o24 k_o25 k_o26 k_o27 k_o28 k_o29 k_o30 k_o31 k_o32 k_o33 k_o34 k_o35 k_o36 k_o37 (iv_w (iv_eqa (l := 0) (h := 0) c49 k_o38 (iv_lit (l := 0) (h := 0) (by decide)) (by decide)) (by decide)) k_o39 k_o41 k_o42 k_o43 k_o44 k_o45
              · skip
                exact hpost _ _ _ _ _ _ _ _ _ _ _ _ _ _ _ _ _ _ _ _ _ _ _ _ _ _ _ _ _ _ _ _ _ _ _ _ _ _ _ _ _ _ _ _ _ _ _ _ _ _ _ _ _ _ _ _ _ _ _ _ _ _ _ _ _ _ _ _ _ _ _ _ _ _ _ _ _ _ _ _ _ _ _ _ _ _ _ _ _ _ _ _ _ _ _ _ _ (iv_w (iv_lit (l := (-1)) (h := (-1)) (by decide)) (by decide)) (iv_lit (l := 0) (h := 0) (by decide)) (iv_w (iv_ne (l := 1) (h := 4) c49 k_o38 (iv_lit (l := 0) (h := 0) (by decide)) (by decide)) (by decide)) k_o39 k_ta_counts k_tl0f_huts k_tl0f_singers k_tl0f_villages k_tl0f_dams k_tl0f_echoes k_tl0f_deep k_tl0f_slide k_tl0a_heights k_tl0a_ladders k_tl0a_minutes k_tl0a_echoFrom k_tl0a_echoTo k_tl0a_homes k_tl0a_talls k_tl0a_known k_tl1f_huts k_tl1f_singers k_tl1f_villages k_tl1f_dams k_tl1f_echoes k_tl1f_deep k_tl1f_slide k_tl1a_heights k_tl1a_ladders k_tl1a_minutes k_tl1a_echoFrom k_tl1a_echoTo k_tl1a_homes k_tl1a_talls k_tl1a_known k_tv0f_deeds k_tv0a_kinds k_tv0a_firsts k_tv0a_seconds k_tv1f_deeds k_tv1a_kinds k_tv1a_firsts k_tv1a_seconds k_ts0f_facts k_ts0a_heard k_ts0a_huts k_ts0a_minutes k_ts1f_facts k_ts1a_heard k_ts1a_huts k_ts1a_minutes k_tc0f_voices k_tc0f_step k_tc0a_parts k_tc0a_heights k_tc1f_voices k_tc1f_step k_tc1a_parts k_tc1a_heights k_o11 k_o12 k_o13 k_o14 k_o15 k_o16 k_o17 k_o18 k_o19 k_o20 k_o21 k_o22 k_o23 k_o24 k_o25 k_o26 k_o27 k_o28 k_o29 k_o30 k_o31 k_o32 k_o33 k_o34 k_o35 k_o36 k_o37 (iv_w (iv_ne (l := 1) (h := 4) c49 k_o38 (iv_lit (l := 0) (h := 0) (by decide)) (by decide)) (by decide)) k_o39 k_o41 k_o42 k_o43 k_o44 k_o45
            · skip
              exact (iv_emp (iv_eqa (l := 0) (h := (-2)) c10 (iv_lta (l := 0) (h := 1) (r_nle c8) (iv_leb (l := 0) (h := 2147483647) (r_nlt c6) (iv_lit (l := 0) (h := 0) (by decide)) (iv_top x2) (by decide)) hw4 (by decide)) (iv_lit (l := (-2)) (h := (-2)) (by decide)) (by decide)) (by decide)).elim
      · skip
        refine ⟨fun c105 => ?_, fun c105 => ?_⟩
        · skip
          refine ⟨fun c106 => ?_, fun c106 => ?_⟩
          · skip
            exact (iv_emp (iv_ne (l := (-1)) (h := (-2)) c106 (iv_lit (l := (-2)) (h := (-2)) (by decide)) (iv_lit (l := (-2)) (h := (-2)) (by decide)) (by decide)) (by decide)).elim
          · skip
            exact hpost _ _ _ _ _ _ _ _ _ _ _ _ _ _ _ _ _ _ _ _ _ _ _ _ _ _ _ _ _ _ _ _ _ _ _ _ _ _ _ _ _ _ _ _ _ _ _ _ _ _ _ _ _ _ _ _ _ _ _ _ _ _ _ _ _ _ _ _ _ _ _ _ _ _ _ _ _ _ _ _ _ _ _ _ _ _ _ _ _ _ _ _ _ _ _ _ _ (iv_w (iv_lit (l := (-2)) (h := (-2)) (by decide)) (by decide)) (iv_lit (l := 0) (h := 0) (by decide)) (iv_w (iv_lit (l := 0) (h := 0) (by decide)) (by decide)) (iv_w (iv_lit (l := (-1)) (h := (-1)) (by decide)) (by decide)) k_ta_counts k_tl0f_huts k_tl0f_singers k_tl0f_villages k_tl0f_dams k_tl0f_echoes k_tl0f_deep k_tl0f_slide k_tl0a_heights k_tl0a_ladders k_tl0a_minutes k_tl0a_echoFrom k_tl0a_echoTo k_tl0a_homes k_tl0a_talls k_tl0a_known k_tl1f_huts k_tl1f_singers k_tl1f_villages k_tl1f_dams k_tl1f_echoes k_tl1f_deep k_tl1f_slide k_tl1a_heights k_tl1a_ladders k_tl1a_minutes k_tl1a_echoFrom k_tl1a_echoTo k_tl1a_homes k_tl1a_talls k_tl1a_known k_tv0f_deeds k_tv0a_kinds k_tv0a_firsts k_tv0a_seconds k_tv1f_deeds k_tv1a_kinds k_tv1a_firsts k_tv1a_seconds k_ts0f_facts k_ts0a_heard k_ts0a_huts k_ts0a_minutes k_ts1f_facts k_ts1a_heard k_ts1a_huts k_ts1a_minutes k_tc0f_voices k_tc0f_step k_tc0a_parts k_tc0a_heights k_tc1f_voices k_tc1f_step k_tc1a_parts k_tc1a_heights k_rlf_huts k_rlf_singers k_rlf_villages k_rlf_dams k_rlf_echoes k_rlf_deep k_rlf_slide k_rla_heights k_rla_ladders k_rla_minutes k_rla_echoFrom k_rla_echoTo k_rla_homes k_rla_talls k_rla_known k_rvf_deeds k_rva_kinds k_rva_firsts k_rva_seconds k_rsf_facts k_rsa_heard k_rsa_huts k_rsa_minutes k_rcf_voices k_rcf_step k_rca_parts k_rca_heights k_rf_fault k_rf_faultPlace k_ra_tape k_rf_length k_rf_behind k_rf_kind k_rf_first
        · skip
          refine ⟨fun c107 => ?_, fun c107 => ?_⟩
          · skip
            refine s_wr_X4_read_23_0 k_rlf_huts k_rlf_singers k_rlf_villages k_rlf_dams k_rlf_echoes k_rlf_deep k_rlf_slide k_rla_heights k_rla_ladders k_rla_minutes k_rla_echoFrom k_rla_echoTo k_rla_homes k_rla_talls k_rla_known k_rvf_deeds k_rva_kinds k_rva_firsts k_rva_seconds k_rsf_facts k_rsa_heard k_rsa_huts k_rsa_minutes k_rcf_voices k_rcf_step k_rca_parts k_rca_heights k_rf_fault k_rf_faultPlace k_ra_tape k_rf_length k_rf_behind k_rf_kind k_rf_first k_ta_tape k_tf_length (iv_lta (l := 0) (h := 3) (r_lt c3) (iv_leb (l := 0) (h := 2147483647) (r_nlt c1) (iv_lit (l := 0) (h := 0) (by decide)) (iv_top x1) (by decide)) (iv_lit (l := 4) (h := 4) (by decide)) (by decide)) (fun o108 o109 o110 o111 o112 o113 o114 o115 o116 o117 o118 o119 o120 o121 o122 o123 o124 o125 o126 o127 o128 o129 o130 o131 o132 o133 o134 o135 o136 o137 o138 o139 o140 o141 o142 o143 o144 o145 k_o108 k_o109 k_o110 k_o111 k_o112 k_o113 k_o114 k_o115 k_o116 k_o117 k_o118 k_o119 k_o120 k_o121 k_o122 k_o123 k_o124 k_o125 k_o126 k_o127 k_o128 k_o129 k_o130 k_o131 k_o132 k_o133 k_o134 k_o135 k_o136 k_o138 k_o139 k_o140 k_o141 k_o142 => ?_)
            refine ⟨fun c146 => ?_, fun c146 => ?_⟩
            · skip
              refine s_wx_X10_keep_0 k_ta_counts k_tl0f_huts k_tl0f_singers k_tl0f_villages k_tl0f_dams k_tl0f_echoes k_tl0f_deep k_tl0f_slide k_tl0a_heights k_tl0a_ladders k_tl0a_minutes k_tl0a_echoFrom k_tl0a_echoTo k_tl0a_homes k_tl0a_talls k_tl0a_known k_tl1f_huts k_tl1f_singers k_tl1f_villages k_tl1f_dams k_tl1f_echoes k_tl1f_deep k_tl1f_slide k_tl1a_heights k_tl1a_ladders k_tl1a_minutes k_tl1a_echoFrom k_tl1a_echoTo k_tl1a_homes k_tl1a_talls k_tl1a_known k_tv0f_deeds k_tv0a_kinds k_tv0a_firsts k_tv0a_seconds k_tv1f_deeds k_tv1a_kinds k_tv1a_firsts k_tv1a_seconds k_ts0f_facts k_ts0a_heard k_ts0a_huts k_ts0a_minutes k_ts1f_facts k_ts1a_heard k_ts1a_huts k_ts1a_minutes k_tc0f_voices k_tc0f_step k_tc0a_parts k_tc0a_heights k_tc1f_voices k_tc1f_step k_tc1a_parts k_tc1a_heights k_o108 k_o109 k_o110 k_o111 k_o112 k_o113 k_o114 k_o115 k_o116 k_o117 k_o118 k_o119 k_o120 k_o121 k_o122 k_o123 k_o124 k_o125 k_o126 k_o127 k_o128 k_o129 k_o130 k_o131 k_o132 k_o133 k_o134 (iv_lta (l := 0) (h := 3) (r_lt c3) (iv_leb (l := 0) (h := 2147483647) (r_nlt c1) (iv_lit (l := 0) (h := 0) (by decide)) (iv_top x1) (by decide)) (iv_lit (l := 4) (h := 4) (by decide)) (by decide)) (iv_lta (l := 0) (h := 1) (r_nle c105) hw4 (iv_lit (l := 2) (h := 2) (by decide)) (by decide)) (fun o147 o148 o149 o150 o151 o152 o153 o154 o155 o156 o157 o158 o159 o160 o161 o162 o163 o164 o165 o166 o167 o168 o169 o170 o171 o172 o173 o174 o175 o176 o177 o178 o179 o180 o181 o182 o183 o184 o185 o186 o187 o188 o189 o190 o191 o192 o193 o194 o195 o196 o197 o198 o199 o200 o201 k_o147 k_o148 k_o149 k_o150 k_o151 k_o152 k_o153 k_o154 k_o155 k_o156 k_o157 k_o158 k_o159 k_o160 k_o161 k_o162 k_o163 k_o164 k_o165 k_o166 k_o167 k_o168 k_o169 k_o170 k_o171 k_o172 k_o173 k_o174 k_o175 k_o176 k_o177 k_o178 k_o179 k_o180 k_o181 k_o182 k_o183 k_o184 k_o185 k_o186 k_o187 k_o188 k_o189 k_o190 k_o191 k_o192 k_o193 k_o194 k_o195 k_o196 k_o197 k_o198 k_o199 k_o200 k_o201 => ?_)
              exact hpost _ _ _ _ _ _ _ _ _ _ _ _ _ _ _ _ _ _ _ _ _ _ _ _ _ _ _ _ _ _ _ _ _ _ _ _ _ _ _ _ _ _ _ _ _ _ _ _ _ _ _ _ _ _ _ _ _ _ _ _ _ _ _ _ _ _ _ _ _ _ _ _ _ _ _ _ _ _ _ _ _ _ _ _ _ _ _ _ _ _ _ _ _ _ _ _ _ (iv_w (iv_lta (l := 0) (h := 1) (r_nle c105) hw4 (iv_lit (l := 2) (h := 2) (by decide)) (by decide)) (by decide)) (iv_lit (l := 0) (h := 0) (by decide)) (iv_w (iv_eqa (l := 0) (h := 0) c146 k_o135 (iv_lit (l := 0) (h := 0) (by decide)) (by decide)) (by decide)) k_o136 k_o147 k_o148 k_o149 k_o150 k_o151 k_o152 k_o153 k_o154 k_o155 k_o156 k_o157 k_o158 k_o159 k_o160 k_o161 k_o162 k_o163 k_o164 k_o165 k_o166 k_o167 k_o168 k_o169 k_o170 k_o171 k_o172 k_o173 k_o174 k_o175 k_o176 k_o177 k_o178 k_o179 k_o180 k_o181 k_o182 k_o183 k_o184 k_o185 k_o186 k_o187 k_o188 k_o189 k_o190 k_o191 k_o192 k_o193 k_o194 k_o195 k_o196 k_o197 k_o198 k_o199 k_o200 k_o201 k_o108 k_o109 k_o110 k_o111 k_o112 k_o113 k_o114 k_o115 k_o116 k_o117 k_o118 k_o119 k_o120 k_o121 k_o122 k_o123 k_o124 k_o125 k_o126 k_o127 k_o128 k_o129 k_o130 k_o131 k_o132 k_o133 k_o134 (iv_w (iv_eqa (l := 0) (h := 0) c146 k_o135 (iv_lit (l := 0) (h := 0) (by decide)) (by decide)) (by decide)) k_o136 k_o138 k_o139 k_o140 k_o141 k_o142
            · skip
              exact hpost _ _ _ _ _ _ _ _ _ _ _ _ _ _ _ _ _ _ _ _ _ _ _ _ _ _ _ _ _ _ _ _ _ _ _ _ _ _ _ _ _ _ _ _ _ _ _ _ _ _ _ _ _ _ _ _ _ _ _ _ _ _ _ _ _ _ _ _ _ _ _ _ _ _ _ _ _ _ _ _ _ _ _ _ _ _ _ _ _ _ _ _ _ _ _ _ _ (iv_w (iv_lit (l := (-1)) (h := (-1)) (by decide)) (by decide)) (iv_lit (l := 0) (h := 0) (by decide)) (iv_w (iv_ne (l := 1) (h := 4) c146 k_o135 (iv_lit (l := 0) (h := 0) (by decide)) (by decide)) (by decide)) k_o136 k_ta_counts k_tl0f_huts k_tl0f_singers k_tl0f_villages k_tl0f_dams k_tl0f_echoes k_tl0f_deep k_tl0f_slide k_tl0a_heights k_tl0a_ladders k_tl0a_minutes k_tl0a_echoFrom k_tl0a_echoTo k_tl0a_homes k_tl0a_talls k_tl0a_known k_tl1f_huts k_tl1f_singers k_tl1f_villages k_tl1f_dams k_tl1f_echoes k_tl1f_deep k_tl1f_slide k_tl1a_heights k_tl1a_ladders k_tl1a_minutes k_tl1a_echoFrom k_tl1a_echoTo k_tl1a_homes k_tl1a_talls k_tl1a_known k_tv0f_deeds k_tv0a_kinds k_tv0a_firsts k_tv0a_seconds k_tv1f_deeds k_tv1a_kinds k_tv1a_firsts k_tv1a_seconds k_ts0f_facts k_ts0a_heard k_ts0a_huts k_ts0a_minutes k_ts1f_facts k_ts1a_heard k_ts1a_huts k_ts1a_minutes k_tc0f_voices k_tc0f_step k_tc0a_parts k_tc0a_heights k_tc1f_voices k_tc1f_step k_tc1a_parts k_tc1a_heights k_o108 k_o109 k_o110 k_o111 k_o112 k_o113 k_o114 k_o115 k_o116 k_o117 k_o118 k_o119 k_o120 k_o121 k_o122 k_o123 k_o124 k_o125 k_o126 k_o127 k_o128 k_o129 k_o130 k_o131 k_o132 k_o133 k_o134 (iv_w (iv_ne (l := 1) (h := 4) c146 k_o135 (iv_lit (l := 0) (h := 0) (by decide)) (by decide)) (by decide)) k_o136 k_o138 k_o139 k_o140 k_o141 k_o142
          · skip
            exact (iv_emp (iv_eqa (l := 0) (h := (-2)) c107 (iv_lta (l := 0) (h := 1) (r_nle c105) hw4 (iv_lit (l := 2) (h := 2) (by decide)) (by decide)) (iv_lit (l := (-2)) (h := (-2)) (by decide)) (by decide)) (by decide)).elim
    · skip
      refine ⟨fun c202 => ?_, fun c202 => ?_⟩
      · skip
        exact (iv_emp (iv_ne (l := (-1)) (h := (-2)) c202 (iv_lit (l := (-2)) (h := (-2)) (by decide)) (iv_lit (l := (-2)) (h := (-2)) (by decide)) (by decide)) (by decide)).elim
      · skip
        exact hpost _ _ _ _ _ _ _ _ _ _ _ _ _ _ _ _ _ _ _ _ _ _ _ _ _ _ _ _ _ _ _ _ _ _ _ _ _ _ _ _ _ _ _ _ _ _ _ _ _ _ _ _ _ _ _ _ _ _ _ _ _ _ _ _ _ _ _ _ _ _ _ _ _ _ _ _ _ _ _ _ _ _ _ _ _ _ _ _ _ _ _ _ _ _ _ _ _ (iv_w (iv_lit (l := (-2)) (h := (-2)) (by decide)) (by decide)) (iv_lit (l := 0) (h := 0) (by decide)) (iv_w (iv_lit (l := 0) (h := 0) (by decide)) (by decide)) (iv_w (iv_lit (l := (-1)) (h := (-1)) (by decide)) (by decide)) k_ta_counts k_tl0f_huts k_tl0f_singers k_tl0f_villages k_tl0f_dams k_tl0f_echoes k_tl0f_deep k_tl0f_slide k_tl0a_heights k_tl0a_ladders k_tl0a_minutes k_tl0a_echoFrom k_tl0a_echoTo k_tl0a_homes k_tl0a_talls k_tl0a_known k_tl1f_huts k_tl1f_singers k_tl1f_villages k_tl1f_dams k_tl1f_echoes k_tl1f_deep k_tl1f_slide k_tl1a_heights k_tl1a_ladders k_tl1a_minutes k_tl1a_echoFrom k_tl1a_echoTo k_tl1a_homes k_tl1a_talls k_tl1a_known k_tv0f_deeds k_tv0a_kinds k_tv0a_firsts k_tv0a_seconds k_tv1f_deeds k_tv1a_kinds k_tv1a_firsts k_tv1a_seconds k_ts0f_facts k_ts0a_heard k_ts0a_huts k_ts0a_minutes k_ts1f_facts k_ts1a_heard k_ts1a_huts k_ts1a_minutes k_tc0f_voices k_tc0f_step k_tc0a_parts k_tc0a_heights k_tc1f_voices k_tc1f_step k_tc1a_parts k_tc1a_heights k_rlf_huts k_rlf_singers k_rlf_villages k_rlf_dams k_rlf_echoes k_rlf_deep k_rlf_slide k_rla_heights k_rla_ladders k_rla_minutes k_rla_echoFrom k_rla_echoTo k_rla_homes k_rla_talls k_rla_known k_rvf_deeds k_rva_kinds k_rva_firsts k_rva_seconds k_rsf_facts k_rsa_heard k_rsa_huts k_rsa_minutes k_rcf_voices k_rcf_step k_rca_parts k_rca_heights k_rf_fault k_rf_faultPlace k_ra_tape k_rf_length k_rf_behind k_rf_kind k_rf_first
-- wx_X10_fault
set_option maxRecDepth 20000 in
theorem s_wx_X10_fault_0 {tf_fault : Int32} {tf_place : Int32} {x1 : Int32} {post : Int32 → Prop} (k_tf_fault : iv 0 4 tf_fault) (k_tf_place : iv (-1) 600 tf_place) (hpost : ∀ (r : Int32), iv (-1) 600 r → post r) : q_wx_X10_fault_0 tf_fault tf_place x1 post := by
  refine ⟨fun c1 => ?_, fun c1 => ?_⟩
  · skip
    refine ⟨fun c2 => ?_, fun c2 => ?_⟩
    · skip
      exact hpost _ (iv_w (iv_lit (l := (-1)) (h := (-1)) (by decide)) (by decide))
    · skip
      exact hpost _ k_tf_place
  · skip
    exact hpost _ (iv_w k_tf_fault (by decide))
-- wx_X10_land
set_option maxRecDepth 20000 in
theorem s_wx_X10_land_0 {ta_counts : Nat → Int32} {tl0f_huts : Int32} {tl0f_singers : Int32} {tl0f_villages : Int32} {tl0f_dams : Int32} {tl0f_echoes : Int32} {tl0f_deep : Int32} {tl0f_slide : Int32} {tl0a_heights : Nat → Int32} {tl0a_ladders : Nat → Int32} {tl0a_minutes : Nat → Int32} {tl0a_homes : Nat → Int32} {tl0a_talls : Nat → Int32} {tl0a_known : Nat → Int32} {tl1f_huts : Int32} {tl1f_singers : Int32} {tl1f_villages : Int32} {tl1f_dams : Int32} {tl1f_echoes : Int32} {tl1f_deep : Int32} {tl1f_slide : Int32} {tl1a_heights : Nat → Int32} {tl1a_ladders : Nat → Int32} {tl1a_minutes : Nat → Int32} {tl1a_homes : Nat → Int32} {tl1a_talls : Nat → Int32} {tl1a_known : Nat → Int32} {x1 : Int32} {x2 : Int32} {post : Int32 → Prop} (k_ta_counts : ∀ j, iv 0 2 (ta_counts j)) (k_tl0f_huts : iv 0 9 tl0f_huts) (k_tl0f_singers : iv 0 6 tl0f_singers) (k_tl0f_villages : iv 0 511 tl0f_villages) (k_tl0f_dams : iv 0 511 tl0f_dams) (k_tl0f_echoes : iv 0 4 tl0f_echoes) (k_tl0f_deep : iv 1 9 tl0f_deep) (k_tl0f_slide : iv 0 10 tl0f_slide) (k_tl0a_heights : ∀ j, iv 0 99 (tl0a_heights j)) (k_tl0a_ladders : ∀ j, iv 0 9 (tl0a_ladders j)) (k_tl0a_minutes : ∀ j, iv 0 9 (tl0a_minutes j)) (k_tl0a_homes : ∀ j, iv 0 8 (tl0a_homes j)) (k_tl0a_talls : ∀ j, iv 0 9 (tl0a_talls j)) (k_tl0a_known : ∀ j, iv 0 31 (tl0a_known j)) (k_tl1f_huts : iv 0 9 tl1f_huts) (k_tl1f_singers : iv 0 6 tl1f_singers) (k_tl1f_villages : iv 0 511 tl1f_villages) (k_tl1f_dams : iv 0 511 tl1f_dams) (k_tl1f_echoes : iv 0 4 tl1f_echoes) (k_tl1f_deep : iv 1 9 tl1f_deep) (k_tl1f_slide : iv 0 10 tl1f_slide) (k_tl1a_heights : ∀ j, iv 0 99 (tl1a_heights j)) (k_tl1a_ladders : ∀ j, iv 0 9 (tl1a_ladders j)) (k_tl1a_minutes : ∀ j, iv 0 9 (tl1a_minutes j)) (k_tl1a_homes : ∀ j, iv 0 8 (tl1a_homes j)) (k_tl1a_talls : ∀ j, iv 0 9 (tl1a_talls j)) (k_tl1a_known : ∀ j, iv 0 31 (tl1a_known j)) (hpost : ∀ (r : Int32), iv (-1) 511 r → post r) : q_wx_X10_land_0 ta_counts tl0f_huts tl0f_singers tl0f_villages tl0f_dams tl0f_echoes tl0f_deep tl0f_slide tl0a_heights tl0a_ladders tl0a_minutes tl0a_homes tl0a_talls tl0a_known tl1f_huts tl1f_singers tl1f_villages tl1f_dams tl1f_echoes tl1f_deep tl1f_slide tl1a_heights tl1a_ladders tl1a_minutes tl1a_homes tl1a_talls tl1a_known x1 x2 post := by
  refine ⟨fun c1 => ?_, fun c1 => ?_⟩
  · skip
    refine ⟨fun _ => ?_, fun h => absurd h (by decide), fun h0 h1 => absurd rfl h0⟩
    exact hpost _ (iv_w (iv_lit (l := (-1)) (h := (-1)) (by decide)) (by decide))
  · skip
    refine ⟨fun c2 => ?_, fun c2 => ?_⟩
    · skip
      refine ⟨fun _ => ?_, fun h => absurd h (by decide), fun h0 h1 => absurd rfl h0⟩
      exact hpost _ (iv_w (iv_lit (l := (-1)) (h := (-1)) (by decide)) (by decide))
    · skip
      refine ⟨iv_in (iv_lta (l := 0) (h := 1) (r_nle c2) (iv_leb (l := 0) (h := 2147483647) (r_nlt c1) (iv_lit (l := 0) (h := 0) (by decide)) (iv_top x1) (by decide)) (k_ta_counts _) (by decide)) (by decide), fun hc => ?_, fun hc => ?_⟩
      · skip
        refine ⟨fun h => absurd h (by decide), fun h => absurd h (by decide), fun h0 h1 => ?_⟩
        refine s_wl_X2_look_0 k_tl0f_huts k_tl0f_singers k_tl0f_villages k_tl0f_dams k_tl0f_echoes k_tl0f_deep k_tl0f_slide k_tl0a_heights k_tl0a_ladders k_tl0a_minutes k_tl0a_homes k_tl0a_talls k_tl0a_known (fun r3 hr3 => ?_)
        exact hpost _ hr3
      · skip
        refine ⟨fun h => absurd h (by decide), fun _ => ?_, fun h0 h1 => absurd rfl h1⟩
        refine s_wl_X2_look_0 k_tl1f_huts k_tl1f_singers k_tl1f_villages k_tl1f_dams k_tl1f_echoes k_tl1f_deep k_tl1f_slide k_tl1a_heights k_tl1a_ladders k_tl1a_minutes k_tl1a_homes k_tl1a_talls k_tl1a_known (fun r4 hr4 => ?_)
        exact hpost _ hr4
-- wx_X10_echo
set_option maxRecDepth 20000 in
theorem s_wx_X10_echo_0 {ta_counts : Nat → Int32} {tl0f_echoes : Int32} {tl0a_echoFrom : Nat → Int32} {tl0a_echoTo : Nat → Int32} {tl1f_echoes : Int32} {tl1a_echoFrom : Nat → Int32} {tl1a_echoTo : Nat → Int32} {x1 : Int32} {x2 : Int32} {x3 : Int32} {post : Int32 → Prop} (k_ta_counts : ∀ j, iv 0 2 (ta_counts j)) (k_tl0f_echoes : iv 0 4 tl0f_echoes) (k_tl0a_echoFrom : ∀ j, iv 0 8 (tl0a_echoFrom j)) (k_tl0a_echoTo : ∀ j, iv 0 8 (tl0a_echoTo j)) (k_tl1f_echoes : iv 0 4 tl1f_echoes) (k_tl1a_echoFrom : ∀ j, iv 0 8 (tl1a_echoFrom j)) (k_tl1a_echoTo : ∀ j, iv 0 8 (tl1a_echoTo j)) (hpost : ∀ (r : Int32), iv (-1) 8 r → post r) : q_wx_X10_echo_0 ta_counts tl0f_echoes tl0a_echoFrom tl0a_echoTo tl1f_echoes tl1a_echoFrom tl1a_echoTo x1 x2 x3 post := by
  refine ⟨fun c1 => ?_, fun c1 => ?_⟩
  · skip
    refine ⟨fun _ => ?_, fun h => absurd h (by decide), fun h0 h1 => absurd rfl h0⟩
    exact hpost _ (iv_w (iv_lit (l := (-1)) (h := (-1)) (by decide)) (by decide))
  · skip
    refine ⟨fun c2 => ?_, fun c2 => ?_⟩
    · skip
      refine ⟨fun _ => ?_, fun h => absurd h (by decide), fun h0 h1 => absurd rfl h0⟩
      exact hpost _ (iv_w (iv_lit (l := (-1)) (h := (-1)) (by decide)) (by decide))
    · skip
      refine ⟨iv_in (iv_lta (l := 0) (h := 1) (r_nle c2) (iv_leb (l := 0) (h := 2147483647) (r_nlt c1) (iv_lit (l := 0) (h := 0) (by decide)) (iv_top x1) (by decide)) (k_ta_counts _) (by decide)) (by decide), fun hc => ?_, fun hc => ?_⟩
      · skip
        refine ⟨fun h => absurd h (by decide), fun h => absurd h (by decide), fun h0 h1 => ?_⟩
        refine ⟨fun c3 => ?_, fun c3 => ?_⟩
        · skip
          exact hpost _ (iv_w (iv_lit (l := (-1)) (h := (-1)) (by decide)) (by decide))
        · skip
          refine ⟨fun c4 => ?_, fun c4 => ?_⟩
          · skip
            refine ⟨fun c5 => ?_, fun c5 => ?_⟩
            · skip
              refine ⟨fun c6 => ?_, fun c6 => ?_⟩
              · skip
                exact hpost _ (iv_w (iv_lit (l := (-1)) (h := (-1)) (by decide)) (by decide))
              · skip
                refine ⟨iv_in (iv_lta (l := 0) (h := 3) (r_lt c4) (iv_leb (l := 0) (h := 2147483647) (r_nlt c3) (iv_lit (l := 0) (h := 0) (by decide)) (iv_top x2) (by decide)) k_tl0f_echoes (by decide)) (by decide), ?_⟩
                exact hpost _ (iv_w (k_tl0a_echoTo _) (by decide))
            · skip
              refine ⟨iv_in (iv_lta (l := 0) (h := 3) (r_lt c4) (iv_leb (l := 0) (h := 2147483647) (r_nlt c3) (iv_lit (l := 0) (h := 0) (by decide)) (iv_top x2) (by decide)) k_tl0f_echoes (by decide)) (by decide), ?_⟩
              exact hpost _ (iv_w (k_tl0a_echoFrom _) (by decide))
          · skip
            exact hpost _ (iv_w (iv_lit (l := (-1)) (h := (-1)) (by decide)) (by decide))
      · skip
        refine ⟨fun h => absurd h (by decide), fun _ => ?_, fun h0 h1 => absurd rfl h1⟩
        refine ⟨fun c7 => ?_, fun c7 => ?_⟩
        · skip
          exact hpost _ (iv_w (iv_lit (l := (-1)) (h := (-1)) (by decide)) (by decide))
        · skip
          refine ⟨fun c8 => ?_, fun c8 => ?_⟩
          · skip
            refine ⟨fun c9 => ?_, fun c9 => ?_⟩
            · skip
              refine ⟨fun c10 => ?_, fun c10 => ?_⟩
              · skip
                exact hpost _ (iv_w (iv_lit (l := (-1)) (h := (-1)) (by decide)) (by decide))
              · skip
                refine ⟨iv_in (iv_lta (l := 0) (h := 3) (r_lt c8) (iv_leb (l := 0) (h := 2147483647) (r_nlt c7) (iv_lit (l := 0) (h := 0) (by decide)) (iv_top x2) (by decide)) k_tl1f_echoes (by decide)) (by decide), ?_⟩
                exact hpost _ (iv_w (k_tl1a_echoTo _) (by decide))
            · skip
              refine ⟨iv_in (iv_lta (l := 0) (h := 3) (r_lt c8) (iv_leb (l := 0) (h := 2147483647) (r_nlt c7) (iv_lit (l := 0) (h := 0) (by decide)) (iv_top x2) (by decide)) k_tl1f_echoes (by decide)) (by decide), ?_⟩
              exact hpost _ (iv_w (k_tl1a_echoFrom _) (by decide))
          · skip
            exact hpost _ (iv_w (iv_lit (l := (-1)) (h := (-1)) (by decide)) (by decide))
-- wx_X10_deed
set_option maxRecDepth 20000 in
theorem s_wx_X10_deed_43 {ta_counts : Nat → Int32} {tv0f_deeds : Int32} {tv0a_kinds : Nat → Int32} {tv0a_firsts : Nat → Int32} {tv0a_seconds : Nat → Int32} {tv1f_deeds : Int32} {tv1a_kinds : Nat → Int32} {tv1a_firsts : Nat → Int32} {tv1a_seconds : Nat → Int32} {post : Int32 → Prop} (k_ta_counts : ∀ j, iv 0 2 (ta_counts j)) (k_tv0f_deeds : iv 0 40 tv0f_deeds) (k_tv0a_kinds : ∀ j, iv 0 5 (tv0a_kinds j)) (k_tv0a_firsts : ∀ j, iv 0 5 (tv0a_firsts j)) (k_tv0a_seconds : ∀ j, iv (-1) 8 (tv0a_seconds j)) (k_tv1f_deeds : iv 0 40 tv1f_deeds) (k_tv1a_kinds : ∀ j, iv 0 5 (tv1a_kinds j)) (k_tv1a_firsts : ∀ j, iv 0 5 (tv1a_firsts j)) (k_tv1a_seconds : ∀ j, iv (-1) 8 (tv1a_seconds j)) (hpost : ∀ (r : Int32), iv (-2) 40 r → post r) : q_wx_X10_deed_43 ta_counts tv0f_deeds tv0a_kinds tv0a_firsts tv0a_seconds tv1f_deeds tv1a_kinds tv1a_firsts tv1a_seconds post := by
  exact hpost _ (iv_w (iv_lit (l := (-2)) (h := (-2)) (by decide)) (by decide))
set_option maxRecDepth 20000 in
theorem s_wx_X10_deed_30k0 {ta_counts : Nat → Int32} {tv0f_deeds : Int32} {tv0a_kinds : Nat → Int32} {tv0a_firsts : Nat → Int32} {tv0a_seconds : Nat → Int32} {tv1f_deeds : Int32} {tv1a_kinds : Nat → Int32} {tv1a_firsts : Nat → Int32} {tv1a_seconds : Nat → Int32} {x2 : Int32} {x3 : Int32} {post : Int32 → Prop} (k_ta_counts : ∀ j, iv 0 2 (ta_counts j)) (k_tv0f_deeds : iv 0 40 tv0f_deeds) (k_tv0a_kinds : ∀ j, iv 0 5 (tv0a_kinds j)) (k_tv0a_firsts : ∀ j, iv 0 5 (tv0a_firsts j)) (k_tv0a_seconds : ∀ j, iv (-1) 8 (tv0a_seconds j)) (k_tv1f_deeds : iv 0 40 tv1f_deeds) (k_tv1a_kinds : ∀ j, iv 0 5 (tv1a_kinds j)) (k_tv1a_firsts : ∀ j, iv 0 5 (tv1a_firsts j)) (k_tv1a_seconds : ∀ j, iv (-1) 8 (tv1a_seconds j)) (hpost : ∀ (r : Int32), iv (-2) 40 r → post r) : q_wx_X10_deed_30k0 ta_counts tv0f_deeds tv0a_kinds tv0a_firsts tv0a_seconds tv1f_deeds tv1a_kinds tv1a_firsts tv1a_seconds x2 x3 post := by
  refine ⟨fun c1 => ?_, fun c1 => ?_⟩
  · skip
    exact s_wx_X10_deed_43 k_ta_counts k_tv0f_deeds k_tv0a_kinds k_tv0a_firsts k_tv0a_seconds k_tv1f_deeds k_tv1a_kinds k_tv1a_firsts k_tv1a_seconds hpost
  · skip
    refine ⟨fun c2 => ?_, fun c2 => ?_⟩
    · skip
      refine ⟨fun c3 => ?_, fun c3 => ?_, fun c3 => ?_, fun c3 => ?_⟩
      · skip
        exact hpost _ (iv_w (iv_lit (l := (-2)) (h := (-2)) (by decide)) (by decide))
      · skip
        refine ⟨iv_in (iv_lta (l := 0) (h := 39) (r_lt c2) (iv_leb (l := 0) (h := 2147483647) (r_nlt c1) (iv_lit (l := 0) (h := 0) (by decide)) (iv_top x2) (by decide)) k_tv0f_deeds (by decide)) (by decide), ?_⟩
        exact hpost _ (iv_w (k_tv0a_kinds _) (by decide))
      · skip
        refine ⟨iv_in (iv_lta (l := 0) (h := 39) (r_lt c2) (iv_leb (l := 0) (h := 2147483647) (r_nlt c1) (iv_lit (l := 0) (h := 0) (by decide)) (iv_top x2) (by decide)) k_tv0f_deeds (by decide)) (by decide), ?_⟩
        exact hpost _ (iv_w (k_tv0a_firsts _) (by decide))
      · skip
        refine ⟨iv_in (iv_lta (l := 0) (h := 39) (r_lt c2) (iv_leb (l := 0) (h := 2147483647) (r_nlt c1) (iv_lit (l := 0) (h := 0) (by decide)) (iv_top x2) (by decide)) k_tv0f_deeds (by decide)) (by decide), ?_⟩
        exact hpost _ (iv_w (k_tv0a_seconds _) (by decide))
    · skip
      exact s_wx_X10_deed_43 k_ta_counts k_tv0f_deeds k_tv0a_kinds k_tv0a_firsts k_tv0a_seconds k_tv1f_deeds k_tv1a_kinds k_tv1a_firsts k_tv1a_seconds hpost
set_option maxRecDepth 20000 in
theorem s_wx_X10_deed_30k1 {ta_counts : Nat → Int32} {tv0f_deeds : Int32} {tv0a_kinds : Nat → Int32} {tv0a_firsts : Nat → Int32} {tv0a_seconds : Nat → Int32} {tv1f_deeds : Int32} {tv1a_kinds : Nat → Int32} {tv1a_firsts : Nat → Int32} {tv1a_seconds : Nat → Int32} {x2 : Int32} {x3 : Int32} {post : Int32 → Prop} (k_ta_counts : ∀ j, iv 0 2 (ta_counts j)) (k_tv0f_deeds : iv 0 40 tv0f_deeds) (k_tv0a_kinds : ∀ j, iv 0 5 (tv0a_kinds j)) (k_tv0a_firsts : ∀ j, iv 0 5 (tv0a_firsts j)) (k_tv0a_seconds : ∀ j, iv (-1) 8 (tv0a_seconds j)) (k_tv1f_deeds : iv 0 40 tv1f_deeds) (k_tv1a_kinds : ∀ j, iv 0 5 (tv1a_kinds j)) (k_tv1a_firsts : ∀ j, iv 0 5 (tv1a_firsts j)) (k_tv1a_seconds : ∀ j, iv (-1) 8 (tv1a_seconds j)) (hpost : ∀ (r : Int32), iv (-2) 40 r → post r) : q_wx_X10_deed_30k1 ta_counts tv0f_deeds tv0a_kinds tv0a_firsts tv0a_seconds tv1f_deeds tv1a_kinds tv1a_firsts tv1a_seconds x2 x3 post := by
  refine ⟨fun c1 => ?_, fun c1 => ?_⟩
  · skip
    exact s_wx_X10_deed_43 k_ta_counts k_tv0f_deeds k_tv0a_kinds k_tv0a_firsts k_tv0a_seconds k_tv1f_deeds k_tv1a_kinds k_tv1a_firsts k_tv1a_seconds hpost
  · skip
    refine ⟨fun c2 => ?_, fun c2 => ?_⟩
    · skip
      refine ⟨fun c3 => ?_, fun c3 => ?_, fun c3 => ?_, fun c3 => ?_⟩
      · skip
        exact hpost _ (iv_w (iv_lit (l := (-2)) (h := (-2)) (by decide)) (by decide))
      · skip
        refine ⟨iv_in (iv_lta (l := 0) (h := 39) (r_lt c2) (iv_leb (l := 0) (h := 2147483647) (r_nlt c1) (iv_lit (l := 0) (h := 0) (by decide)) (iv_top x2) (by decide)) k_tv1f_deeds (by decide)) (by decide), ?_⟩
        exact hpost _ (iv_w (k_tv1a_kinds _) (by decide))
      · skip
        refine ⟨iv_in (iv_lta (l := 0) (h := 39) (r_lt c2) (iv_leb (l := 0) (h := 2147483647) (r_nlt c1) (iv_lit (l := 0) (h := 0) (by decide)) (iv_top x2) (by decide)) k_tv1f_deeds (by decide)) (by decide), ?_⟩
        exact hpost _ (iv_w (k_tv1a_firsts _) (by decide))
      · skip
        refine ⟨iv_in (iv_lta (l := 0) (h := 39) (r_lt c2) (iv_leb (l := 0) (h := 2147483647) (r_nlt c1) (iv_lit (l := 0) (h := 0) (by decide)) (iv_top x2) (by decide)) k_tv1f_deeds (by decide)) (by decide), ?_⟩
        exact hpost _ (iv_w (k_tv1a_seconds _) (by decide))
    · skip
      exact s_wx_X10_deed_43 k_ta_counts k_tv0f_deeds k_tv0a_kinds k_tv0a_firsts k_tv0a_seconds k_tv1f_deeds k_tv1a_kinds k_tv1a_firsts k_tv1a_seconds hpost
set_option maxRecDepth 20000 in
theorem s_wx_X10_deed_0 {ta_counts : Nat → Int32} {tv0f_deeds : Int32} {tv0a_kinds : Nat → Int32} {tv0a_firsts : Nat → Int32} {tv0a_seconds : Nat → Int32} {tv1f_deeds : Int32} {tv1a_kinds : Nat → Int32} {tv1a_firsts : Nat → Int32} {tv1a_seconds : Nat → Int32} {x1 : Int32} {x2 : Int32} {x3 : Int32} {post : Int32 → Prop} (k_ta_counts : ∀ j, iv 0 2 (ta_counts j)) (k_tv0f_deeds : iv 0 40 tv0f_deeds) (k_tv0a_kinds : ∀ j, iv 0 5 (tv0a_kinds j)) (k_tv0a_firsts : ∀ j, iv 0 5 (tv0a_firsts j)) (k_tv0a_seconds : ∀ j, iv (-1) 8 (tv0a_seconds j)) (k_tv1f_deeds : iv 0 40 tv1f_deeds) (k_tv1a_kinds : ∀ j, iv 0 5 (tv1a_kinds j)) (k_tv1a_firsts : ∀ j, iv 0 5 (tv1a_firsts j)) (k_tv1a_seconds : ∀ j, iv (-1) 8 (tv1a_seconds j)) (hpost : ∀ (r : Int32), iv (-2) 40 r → post r) : q_wx_X10_deed_0 ta_counts tv0f_deeds tv0a_kinds tv0a_firsts tv0a_seconds tv1f_deeds tv1a_kinds tv1a_firsts tv1a_seconds x1 x2 x3 post := by
  refine ⟨fun c1 => ?_, fun c1 => ?_⟩
  · skip
    refine ⟨fun _ => ?_, fun h => absurd h (by decide), fun h0 h1 => absurd rfl h0⟩
    exact hpost _ (iv_w (iv_lit (l := (-2)) (h := (-2)) (by decide)) (by decide))
  · skip
    refine ⟨fun c2 => ?_, fun c2 => ?_⟩
    · skip
      refine ⟨fun _ => ?_, fun h => absurd h (by decide), fun h0 h1 => absurd rfl h0⟩
      exact hpost _ (iv_w (iv_lit (l := (-2)) (h := (-2)) (by decide)) (by decide))
    · skip
      refine ⟨iv_in (iv_lta (l := 0) (h := 1) (r_nle c2) (iv_leb (l := 0) (h := 2147483647) (r_nlt c1) (iv_lit (l := 0) (h := 0) (by decide)) (iv_top x1) (by decide)) (k_ta_counts _) (by decide)) (by decide), fun hc => ?_, fun hc => ?_⟩
      · skip
        refine ⟨fun h => absurd h (by decide), fun h => absurd h (by decide), fun h0 h1 => ?_⟩
        refine ⟨fun c3 => ?_, fun c3 => ?_⟩
        · skip
          exact s_wx_X10_deed_30k0 k_ta_counts k_tv0f_deeds k_tv0a_kinds k_tv0a_firsts k_tv0a_seconds k_tv1f_deeds k_tv1a_kinds k_tv1a_firsts k_tv1a_seconds hpost
        · skip
          refine ⟨fun c4 => ?_, fun c4 => ?_⟩
          · skip
            exact s_wx_X10_deed_30k0 k_ta_counts k_tv0f_deeds k_tv0a_kinds k_tv0a_firsts k_tv0a_seconds k_tv1f_deeds k_tv1a_kinds k_tv1a_firsts k_tv1a_seconds hpost
          · skip
            exact hpost _ (iv_w k_tv0f_deeds (by decide))
      · skip
        refine ⟨fun h => absurd h (by decide), fun _ => ?_, fun h0 h1 => absurd rfl h1⟩
        refine ⟨fun c5 => ?_, fun c5 => ?_⟩
        · skip
          exact s_wx_X10_deed_30k1 k_ta_counts k_tv0f_deeds k_tv0a_kinds k_tv0a_firsts k_tv0a_seconds k_tv1f_deeds k_tv1a_kinds k_tv1a_firsts k_tv1a_seconds hpost
        · skip
          refine ⟨fun c6 => ?_, fun c6 => ?_⟩
          · skip
            exact s_wx_X10_deed_30k1 k_ta_counts k_tv0f_deeds k_tv0a_kinds k_tv0a_firsts k_tv0a_seconds k_tv1f_deeds k_tv1a_kinds k_tv1a_firsts k_tv1a_seconds hpost
          · skip
            exact hpost _ (iv_w k_tv1f_deeds (by decide))
-- wx_X10_stop
set_option maxRecDepth 20000 in
theorem s_wx_X10_stop_22 {ta_counts : Nat → Int32} {tl0f_huts : Int32} {tl0f_singers : Int32} {tl0f_dams : Int32} {tl0f_echoes : Int32} {tl0f_deep : Int32} {tl0a_heights : Nat → Int32} {tl0a_ladders : Nat → Int32} {tl0a_minutes : Nat → Int32} {tl0a_echoFrom : Nat → Int32} {tl0a_echoTo : Nat → Int32} {tl0a_homes : Nat → Int32} {tl0a_talls : Nat → Int32} {tl0a_known : Nat → Int32} {tl1f_huts : Int32} {tl1f_singers : Int32} {tl1f_dams : Int32} {tl1f_echoes : Int32} {tl1f_deep : Int32} {tl1a_heights : Nat → Int32} {tl1a_ladders : Nat → Int32} {tl1a_minutes : Nat → Int32} {tl1a_echoFrom : Nat → Int32} {tl1a_echoTo : Nat → Int32} {tl1a_homes : Nat → Int32} {tl1a_talls : Nat → Int32} {tl1a_known : Nat → Int32} {tv0f_deeds : Int32} {tv0a_kinds : Nat → Int32} {tv0a_firsts : Nat → Int32} {tv0a_seconds : Nat → Int32} {tv1f_deeds : Int32} {tv1a_kinds : Nat → Int32} {tv1a_firsts : Nat → Int32} {tv1a_seconds : Nat → Int32} {nf_minute : Int32} {nf_avalanches : Int32} {nf_begun : Int32} {nf_climbed : Int32} {na_huts : Nat → Int32} {na_known : Nat → Int32} {na_levels : Nat → Int32} {na_snow : Nat → Int32} {post : Int32 → (Int32) → (Int32) → (Int32) → (Int32) → (Nat → Int32) → (Nat → Int32) → (Nat → Int32) → (Nat → Int32) → Prop} (k_ta_counts : ∀ j, iv 0 2 (ta_counts j)) (k_tl0f_huts : iv 0 9 tl0f_huts) (k_tl0f_singers : iv 0 6 tl0f_singers) (k_tl0f_dams : iv 0 511 tl0f_dams) (k_tl0f_echoes : iv 0 4 tl0f_echoes) (k_tl0f_deep : iv 1 9 tl0f_deep) (k_tl0a_heights : ∀ j, iv 0 99 (tl0a_heights j)) (k_tl0a_ladders : ∀ j, iv 0 9 (tl0a_ladders j)) (k_tl0a_minutes : ∀ j, iv 0 9 (tl0a_minutes j)) (k_tl0a_echoFrom : ∀ j, iv 0 8 (tl0a_echoFrom j)) (k_tl0a_echoTo : ∀ j, iv 0 8 (tl0a_echoTo j)) (k_tl0a_homes : ∀ j, iv 0 8 (tl0a_homes j)) (k_tl0a_talls : ∀ j, iv 0 9 (tl0a_talls j)) (k_tl0a_known : ∀ j, iv 0 31 (tl0a_known j)) (k_tl1f_huts : iv 0 9 tl1f_huts) (k_tl1f_singers : iv 0 6 tl1f_singers) (k_tl1f_dams : iv 0 511 tl1f_dams) (k_tl1f_echoes : iv 0 4 tl1f_echoes) (k_tl1f_deep : iv 1 9 tl1f_deep) (k_tl1a_heights : ∀ j, iv 0 99 (tl1a_heights j)) (k_tl1a_ladders : ∀ j, iv 0 9 (tl1a_ladders j)) (k_tl1a_minutes : ∀ j, iv 0 9 (tl1a_minutes j)) (k_tl1a_echoFrom : ∀ j, iv 0 8 (tl1a_echoFrom j)) (k_tl1a_echoTo : ∀ j, iv 0 8 (tl1a_echoTo j)) (k_tl1a_homes : ∀ j, iv 0 8 (tl1a_homes j)) (k_tl1a_talls : ∀ j, iv 0 9 (tl1a_talls j)) (k_tl1a_known : ∀ j, iv 0 31 (tl1a_known j)) (k_tv0f_deeds : iv 0 40 tv0f_deeds) (k_tv0a_kinds : ∀ j, iv 0 5 (tv0a_kinds j)) (k_tv0a_firsts : ∀ j, iv 0 5 (tv0a_firsts j)) (k_tv0a_seconds : ∀ j, iv (-1) 8 (tv0a_seconds j)) (k_tv1f_deeds : iv 0 40 tv1f_deeds) (k_tv1a_kinds : ∀ j, iv 0 5 (tv1a_kinds j)) (k_tv1a_firsts : ∀ j, iv 0 5 (tv1a_firsts j)) (k_tv1a_seconds : ∀ j, iv (-1) 8 (tv1a_seconds j)) (k_nf_begun : iv 0 31 nf_begun) (k_nf_climbed : iv 0 63 nf_climbed) (k_na_huts : ∀ j, iv 0 8 (na_huts j)) (k_na_known : ∀ j, iv 0 31 (na_known j)) (k_na_levels : ∀ j, iv (-9) 122 (na_levels j)) (hpost : ∀ (r : Int32) (nf_minute : Int32) (nf_avalanches : Int32) (nf_begun : Int32) (nf_climbed : Int32) (na_huts : Nat → Int32) (na_known : Nat → Int32) (na_levels : Nat → Int32) (na_snow : Nat → Int32), iv (-1) 40 r → (iv 0 31 nf_begun) → (iv 0 63 nf_climbed) → (∀ j, iv 0 8 (na_huts j)) → (∀ j, iv 0 31 (na_known j)) → (∀ j, iv (-9) 122 (na_levels j)) → post r nf_minute nf_avalanches nf_begun nf_climbed na_huts na_known na_levels na_snow) : q_wx_X10_stop_22 ta_counts tl0f_huts tl0f_singers tl0f_dams tl0f_echoes tl0f_deep tl0a_heights tl0a_ladders tl0a_minutes tl0a_echoFrom tl0a_echoTo tl0a_homes tl0a_talls tl0a_known tl1f_huts tl1f_singers tl1f_dams tl1f_echoes tl1f_deep tl1a_heights tl1a_ladders tl1a_minutes tl1a_echoFrom tl1a_echoTo tl1a_homes tl1a_talls tl1a_known tv0f_deeds tv0a_kinds tv0a_firsts tv0a_seconds tv1f_deeds tv1a_kinds tv1a_firsts tv1a_seconds nf_minute nf_avalanches nf_begun nf_climbed na_huts na_known na_levels na_snow post := by
  exact hpost _ _ _ _ _ _ _ _ _ (iv_w (iv_lit (l := (-1)) (h := (-1)) (by decide)) (by decide)) k_nf_begun k_nf_climbed k_na_huts k_na_known k_na_levels
set_option maxRecDepth 20000 in
theorem s_wx_X10_stop_0 {ta_counts : Nat → Int32} {tl0f_huts : Int32} {tl0f_singers : Int32} {tl0f_dams : Int32} {tl0f_echoes : Int32} {tl0f_deep : Int32} {tl0a_heights : Nat → Int32} {tl0a_ladders : Nat → Int32} {tl0a_minutes : Nat → Int32} {tl0a_echoFrom : Nat → Int32} {tl0a_echoTo : Nat → Int32} {tl0a_homes : Nat → Int32} {tl0a_talls : Nat → Int32} {tl0a_known : Nat → Int32} {tl1f_huts : Int32} {tl1f_singers : Int32} {tl1f_dams : Int32} {tl1f_echoes : Int32} {tl1f_deep : Int32} {tl1a_heights : Nat → Int32} {tl1a_ladders : Nat → Int32} {tl1a_minutes : Nat → Int32} {tl1a_echoFrom : Nat → Int32} {tl1a_echoTo : Nat → Int32} {tl1a_homes : Nat → Int32} {tl1a_talls : Nat → Int32} {tl1a_known : Nat → Int32} {tv0f_deeds : Int32} {tv0a_kinds : Nat → Int32} {tv0a_firsts : Nat → Int32} {tv0a_seconds : Nat → Int32} {tv1f_deeds : Int32} {tv1a_kinds : Nat → Int32} {tv1a_firsts : Nat → Int32} {tv1a_seconds : Nat → Int32} {nf_minute : Int32} {nf_avalanches : Int32} {nf_begun : Int32} {nf_climbed : Int32} {na_huts : Nat → Int32} {na_known : Nat → Int32} {na_levels : Nat → Int32} {na_snow : Nat → Int32} {x1 : Int32} {x2 : Int32} {post : Int32 → (Int32) → (Int32) → (Int32) → (Int32) → (Nat → Int32) → (Nat → Int32) → (Nat → Int32) → (Nat → Int32) → Prop} (k_ta_counts : ∀ j, iv 0 2 (ta_counts j)) (k_tl0f_huts : iv 0 9 tl0f_huts) (k_tl0f_singers : iv 0 6 tl0f_singers) (k_tl0f_dams : iv 0 511 tl0f_dams) (k_tl0f_echoes : iv 0 4 tl0f_echoes) (k_tl0f_deep : iv 1 9 tl0f_deep) (k_tl0a_heights : ∀ j, iv 0 99 (tl0a_heights j)) (k_tl0a_ladders : ∀ j, iv 0 9 (tl0a_ladders j)) (k_tl0a_minutes : ∀ j, iv 0 9 (tl0a_minutes j)) (k_tl0a_echoFrom : ∀ j, iv 0 8 (tl0a_echoFrom j)) (k_tl0a_echoTo : ∀ j, iv 0 8 (tl0a_echoTo j)) (k_tl0a_homes : ∀ j, iv 0 8 (tl0a_homes j)) (k_tl0a_talls : ∀ j, iv 0 9 (tl0a_talls j)) (k_tl0a_known : ∀ j, iv 0 31 (tl0a_known j)) (k_tl1f_huts : iv 0 9 tl1f_huts) (k_tl1f_singers : iv 0 6 tl1f_singers) (k_tl1f_dams : iv 0 511 tl1f_dams) (k_tl1f_echoes : iv 0 4 tl1f_echoes) (k_tl1f_deep : iv 1 9 tl1f_deep) (k_tl1a_heights : ∀ j, iv 0 99 (tl1a_heights j)) (k_tl1a_ladders : ∀ j, iv 0 9 (tl1a_ladders j)) (k_tl1a_minutes : ∀ j, iv 0 9 (tl1a_minutes j)) (k_tl1a_echoFrom : ∀ j, iv 0 8 (tl1a_echoFrom j)) (k_tl1a_echoTo : ∀ j, iv 0 8 (tl1a_echoTo j)) (k_tl1a_homes : ∀ j, iv 0 8 (tl1a_homes j)) (k_tl1a_talls : ∀ j, iv 0 9 (tl1a_talls j)) (k_tl1a_known : ∀ j, iv 0 31 (tl1a_known j)) (k_tv0f_deeds : iv 0 40 tv0f_deeds) (k_tv0a_kinds : ∀ j, iv 0 5 (tv0a_kinds j)) (k_tv0a_firsts : ∀ j, iv 0 5 (tv0a_firsts j)) (k_tv0a_seconds : ∀ j, iv (-1) 8 (tv0a_seconds j)) (k_tv1f_deeds : iv 0 40 tv1f_deeds) (k_tv1a_kinds : ∀ j, iv 0 5 (tv1a_kinds j)) (k_tv1a_firsts : ∀ j, iv 0 5 (tv1a_firsts j)) (k_tv1a_seconds : ∀ j, iv (-1) 8 (tv1a_seconds j)) (k_nf_begun : iv 0 31 nf_begun) (k_nf_climbed : iv 0 63 nf_climbed) (k_na_huts : ∀ j, iv 0 8 (na_huts j)) (k_na_known : ∀ j, iv 0 31 (na_known j)) (k_na_levels : ∀ j, iv (-9) 122 (na_levels j)) (hpost : ∀ (r : Int32) (nf_minute : Int32) (nf_avalanches : Int32) (nf_begun : Int32) (nf_climbed : Int32) (na_huts : Nat → Int32) (na_known : Nat → Int32) (na_levels : Nat → Int32) (na_snow : Nat → Int32), iv (-1) 40 r → (iv 0 31 nf_begun) → (iv 0 63 nf_climbed) → (∀ j, iv 0 8 (na_huts j)) → (∀ j, iv 0 31 (na_known j)) → (∀ j, iv (-9) 122 (na_levels j)) → post r nf_minute nf_avalanches nf_begun nf_climbed na_huts na_known na_levels na_snow) : q_wx_X10_stop_0 ta_counts tl0f_huts tl0f_singers tl0f_dams tl0f_echoes tl0f_deep tl0a_heights tl0a_ladders tl0a_minutes tl0a_echoFrom tl0a_echoTo tl0a_homes tl0a_talls tl0a_known tl1f_huts tl1f_singers tl1f_dams tl1f_echoes tl1f_deep tl1a_heights tl1a_ladders tl1a_minutes tl1a_echoFrom tl1a_echoTo tl1a_homes tl1a_talls tl1a_known tv0f_deeds tv0a_kinds tv0a_firsts tv0a_seconds tv1f_deeds tv1a_kinds tv1a_firsts tv1a_seconds nf_minute nf_avalanches nf_begun nf_climbed na_huts na_known na_levels na_snow x1 x2 post := by
  refine ⟨fun c1 => ?_, fun c1 => ?_⟩
  · skip
    refine ⟨fun _ => ?_, fun h => absurd h (by decide), fun h0 h1 => absurd rfl h0⟩
    refine ⟨fun c2 => ?_, fun c2 => ?_⟩
    · skip
      refine ⟨fun _ => ?_, fun h => absurd h (by decide), fun h0 h1 => absurd rfl h0⟩
      exact s_wx_X10_stop_22 k_ta_counts k_tl0f_huts k_tl0f_singers k_tl0f_dams k_tl0f_echoes k_tl0f_deep k_tl0a_heights k_tl0a_ladders k_tl0a_minutes k_tl0a_echoFrom k_tl0a_echoTo k_tl0a_homes k_tl0a_talls k_tl0a_known k_tl1f_huts k_tl1f_singers k_tl1f_dams k_tl1f_echoes k_tl1f_deep k_tl1a_heights k_tl1a_ladders k_tl1a_minutes k_tl1a_echoFrom k_tl1a_echoTo k_tl1a_homes k_tl1a_talls k_tl1a_known k_tv0f_deeds k_tv0a_kinds k_tv0a_firsts k_tv0a_seconds k_tv1f_deeds k_tv1a_kinds k_tv1a_firsts k_tv1a_seconds k_nf_begun k_nf_climbed k_na_huts k_na_known k_na_levels hpost
    · skip
      refine ⟨fun c3 => ?_, fun c3 => ?_⟩
      · skip
        refine ⟨fun _ => ?_, fun h => absurd h (by decide), fun h0 h1 => absurd rfl h0⟩
        exact s_wx_X10_stop_22 k_ta_counts k_tl0f_huts k_tl0f_singers k_tl0f_dams k_tl0f_echoes k_tl0f_deep k_tl0a_heights k_tl0a_ladders k_tl0a_minutes k_tl0a_echoFrom k_tl0a_echoTo k_tl0a_homes k_tl0a_talls k_tl0a_known k_tl1f_huts k_tl1f_singers k_tl1f_dams k_tl1f_echoes k_tl1f_deep k_tl1a_heights k_tl1a_ladders k_tl1a_minutes k_tl1a_echoFrom k_tl1a_echoTo k_tl1a_homes k_tl1a_talls k_tl1a_known k_tv0f_deeds k_tv0a_kinds k_tv0a_firsts k_tv0a_seconds k_tv1f_deeds k_tv1a_kinds k_tv1a_firsts k_tv1a_seconds k_nf_begun k_nf_climbed k_na_huts k_na_known k_na_levels hpost
      · skip
        refine ⟨iv_in (iv_lta (l := 0) (h := 1) (r_nle c3) (iv_leb (l := 0) (h := 2147483647) (r_nlt c2) (iv_lit (l := 0) (h := 0) (by decide)) (iv_top x2) (by decide)) (k_ta_counts _) (by decide)) (by decide), fun hc => ?_, fun hc => ?_⟩
        · skip
          refine ⟨fun h => absurd h (by decide), fun h => absurd h (by decide), fun h0 h1 => ?_⟩
          exact s_wx_X10_stop_22 k_ta_counts k_tl0f_huts k_tl0f_singers k_tl0f_dams k_tl0f_echoes k_tl0f_deep k_tl0a_heights k_tl0a_ladders k_tl0a_minutes k_tl0a_echoFrom k_tl0a_echoTo k_tl0a_homes k_tl0a_talls k_tl0a_known k_tl1f_huts k_tl1f_singers k_tl1f_dams k_tl1f_echoes k_tl1f_deep k_tl1a_heights k_tl1a_ladders k_tl1a_minutes k_tl1a_echoFrom k_tl1a_echoTo k_tl1a_homes k_tl1a_talls k_tl1a_known k_tv0f_deeds k_tv0a_kinds k_tv0a_firsts k_tv0a_seconds k_tv1f_deeds k_tv1a_kinds k_tv1a_firsts k_tv1a_seconds k_nf_begun k_nf_climbed k_na_huts k_na_known k_na_levels hpost
        · skip
          refine ⟨fun h => absurd h (by decide), fun _ => ?_, fun h0 h1 => absurd rfl h1⟩
          exact s_wx_X10_stop_22 k_ta_counts k_tl0f_huts k_tl0f_singers k_tl0f_dams k_tl0f_echoes k_tl0f_deep k_tl0a_heights k_tl0a_ladders k_tl0a_minutes k_tl0a_echoFrom k_tl0a_echoTo k_tl0a_homes k_tl0a_talls k_tl0a_known k_tl1f_huts k_tl1f_singers k_tl1f_dams k_tl1f_echoes k_tl1f_deep k_tl1a_heights k_tl1a_ladders k_tl1a_minutes k_tl1a_echoFrom k_tl1a_echoTo k_tl1a_homes k_tl1a_talls k_tl1a_known k_tv0f_deeds k_tv0a_kinds k_tv0a_firsts k_tv0a_seconds k_tv1f_deeds k_tv1a_kinds k_tv1a_firsts k_tv1a_seconds k_nf_begun k_nf_climbed k_na_huts k_na_known k_na_levels hpost
  · skip
    refine ⟨fun c4 => ?_, fun c4 => ?_⟩
    · skip
      refine ⟨fun _ => ?_, fun h => absurd h (by decide), fun h0 h1 => absurd rfl h0⟩
      refine ⟨fun c5 => ?_, fun c5 => ?_⟩
      · skip
        refine ⟨fun _ => ?_, fun h => absurd h (by decide), fun h0 h1 => absurd rfl h0⟩
        exact s_wx_X10_stop_22 k_ta_counts k_tl0f_huts k_tl0f_singers k_tl0f_dams k_tl0f_echoes k_tl0f_deep k_tl0a_heights k_tl0a_ladders k_tl0a_minutes k_tl0a_echoFrom k_tl0a_echoTo k_tl0a_homes k_tl0a_talls k_tl0a_known k_tl1f_huts k_tl1f_singers k_tl1f_dams k_tl1f_echoes k_tl1f_deep k_tl1a_heights k_tl1a_ladders k_tl1a_minutes k_tl1a_echoFrom k_tl1a_echoTo k_tl1a_homes k_tl1a_talls k_tl1a_known k_tv0f_deeds k_tv0a_kinds k_tv0a_firsts k_tv0a_seconds k_tv1f_deeds k_tv1a_kinds k_tv1a_firsts k_tv1a_seconds k_nf_begun k_nf_climbed k_na_huts k_na_known k_na_levels hpost
      · skip
        refine ⟨fun c6 => ?_, fun c6 => ?_⟩
        · skip
          refine ⟨fun _ => ?_, fun h => absurd h (by decide), fun h0 h1 => absurd rfl h0⟩
          exact s_wx_X10_stop_22 k_ta_counts k_tl0f_huts k_tl0f_singers k_tl0f_dams k_tl0f_echoes k_tl0f_deep k_tl0a_heights k_tl0a_ladders k_tl0a_minutes k_tl0a_echoFrom k_tl0a_echoTo k_tl0a_homes k_tl0a_talls k_tl0a_known k_tl1f_huts k_tl1f_singers k_tl1f_dams k_tl1f_echoes k_tl1f_deep k_tl1a_heights k_tl1a_ladders k_tl1a_minutes k_tl1a_echoFrom k_tl1a_echoTo k_tl1a_homes k_tl1a_talls k_tl1a_known k_tv0f_deeds k_tv0a_kinds k_tv0a_firsts k_tv0a_seconds k_tv1f_deeds k_tv1a_kinds k_tv1a_firsts k_tv1a_seconds k_nf_begun k_nf_climbed k_na_huts k_na_known k_na_levels hpost
        · skip
          refine ⟨iv_in (iv_lta (l := 0) (h := 1) (r_nle c6) (iv_leb (l := 0) (h := 2147483647) (r_nlt c5) (iv_lit (l := 0) (h := 0) (by decide)) (iv_top x2) (by decide)) (k_ta_counts _) (by decide)) (by decide), fun hc => ?_, fun hc => ?_⟩
          · skip
            refine ⟨fun h => absurd h (by decide), fun h => absurd h (by decide), fun h0 h1 => ?_⟩
            exact s_wx_X10_stop_22 k_ta_counts k_tl0f_huts k_tl0f_singers k_tl0f_dams k_tl0f_echoes k_tl0f_deep k_tl0a_heights k_tl0a_ladders k_tl0a_minutes k_tl0a_echoFrom k_tl0a_echoTo k_tl0a_homes k_tl0a_talls k_tl0a_known k_tl1f_huts k_tl1f_singers k_tl1f_dams k_tl1f_echoes k_tl1f_deep k_tl1a_heights k_tl1a_ladders k_tl1a_minutes k_tl1a_echoFrom k_tl1a_echoTo k_tl1a_homes k_tl1a_talls k_tl1a_known k_tv0f_deeds k_tv0a_kinds k_tv0a_firsts k_tv0a_seconds k_tv1f_deeds k_tv1a_kinds k_tv1a_firsts k_tv1a_seconds k_nf_begun k_nf_climbed k_na_huts k_na_known k_na_levels hpost
          · skip
            refine ⟨fun h => absurd h (by decide), fun _ => ?_, fun h0 h1 => absurd rfl h1⟩
            exact s_wx_X10_stop_22 k_ta_counts k_tl0f_huts k_tl0f_singers k_tl0f_dams k_tl0f_echoes k_tl0f_deep k_tl0a_heights k_tl0a_ladders k_tl0a_minutes k_tl0a_echoFrom k_tl0a_echoTo k_tl0a_homes k_tl0a_talls k_tl0a_known k_tl1f_huts k_tl1f_singers k_tl1f_dams k_tl1f_echoes k_tl1f_deep k_tl1a_heights k_tl1a_ladders k_tl1a_minutes k_tl1a_echoFrom k_tl1a_echoTo k_tl1a_homes k_tl1a_talls k_tl1a_known k_tv0f_deeds k_tv0a_kinds k_tv0a_firsts k_tv0a_seconds k_tv1f_deeds k_tv1a_kinds k_tv1a_firsts k_tv1a_seconds k_nf_begun k_nf_climbed k_na_huts k_na_known k_na_levels hpost
    · skip
      refine ⟨iv_in (iv_lta (l := 0) (h := 1) (r_nle c4) (iv_leb (l := 0) (h := 2147483647) (r_nlt c1) (iv_lit (l := 0) (h := 0) (by decide)) (iv_top x1) (by decide)) (k_ta_counts _) (by decide)) (by decide), fun hc => ?_, fun hc => ?_⟩
      · skip
        refine ⟨fun h => absurd h (by decide), fun h => absurd h (by decide), fun h0 h1 => ?_⟩
        refine ⟨fun c7 => ?_, fun c7 => ?_⟩
        · skip
          refine ⟨fun _ => ?_, fun h => absurd h (by decide), fun h0 h1 => absurd rfl h0⟩
          exact s_wx_X10_stop_22 k_ta_counts k_tl0f_huts k_tl0f_singers k_tl0f_dams k_tl0f_echoes k_tl0f_deep k_tl0a_heights k_tl0a_ladders k_tl0a_minutes k_tl0a_echoFrom k_tl0a_echoTo k_tl0a_homes k_tl0a_talls k_tl0a_known k_tl1f_huts k_tl1f_singers k_tl1f_dams k_tl1f_echoes k_tl1f_deep k_tl1a_heights k_tl1a_ladders k_tl1a_minutes k_tl1a_echoFrom k_tl1a_echoTo k_tl1a_homes k_tl1a_talls k_tl1a_known k_tv0f_deeds k_tv0a_kinds k_tv0a_firsts k_tv0a_seconds k_tv1f_deeds k_tv1a_kinds k_tv1a_firsts k_tv1a_seconds k_nf_begun k_nf_climbed k_na_huts k_na_known k_na_levels hpost
        · skip
          refine ⟨fun c8 => ?_, fun c8 => ?_⟩
          · skip
            refine ⟨fun _ => ?_, fun h => absurd h (by decide), fun h0 h1 => absurd rfl h0⟩
            exact s_wx_X10_stop_22 k_ta_counts k_tl0f_huts k_tl0f_singers k_tl0f_dams k_tl0f_echoes k_tl0f_deep k_tl0a_heights k_tl0a_ladders k_tl0a_minutes k_tl0a_echoFrom k_tl0a_echoTo k_tl0a_homes k_tl0a_talls k_tl0a_known k_tl1f_huts k_tl1f_singers k_tl1f_dams k_tl1f_echoes k_tl1f_deep k_tl1a_heights k_tl1a_ladders k_tl1a_minutes k_tl1a_echoFrom k_tl1a_echoTo k_tl1a_homes k_tl1a_talls k_tl1a_known k_tv0f_deeds k_tv0a_kinds k_tv0a_firsts k_tv0a_seconds k_tv1f_deeds k_tv1a_kinds k_tv1a_firsts k_tv1a_seconds k_nf_begun k_nf_climbed k_na_huts k_na_known k_na_levels hpost
          · skip
            refine ⟨iv_in (iv_lta (l := 0) (h := 1) (r_nle c8) (iv_leb (l := 0) (h := 2147483647) (r_nlt c7) (iv_lit (l := 0) (h := 0) (by decide)) (iv_top x2) (by decide)) (k_ta_counts _) (by decide)) (by decide), fun hc => ?_, fun hc => ?_⟩
            · skip
              refine ⟨fun h => absurd h (by decide), fun h => absurd h (by decide), fun h0 h1 => ?_⟩
              refine s_wn_X3_play_6_15_0 k_nf_begun k_nf_climbed k_na_huts k_na_known k_na_levels k_tl0f_huts k_tl0f_singers k_tl0f_dams k_tl0f_echoes k_tl0f_deep k_tl0a_heights k_tl0a_ladders k_tl0a_minutes k_tl0a_echoFrom k_tl0a_echoTo k_tl0a_homes k_tl0a_talls k_tl0a_known k_tv0f_deeds k_tv0a_kinds k_tv0a_firsts k_tv0a_seconds k_tv0f_deeds (fun r9 o10 o11 o12 o13 o14 o15 o16 o17 hr9 k_o12 k_o13 k_o14 k_o15 k_o16 => ?_)
              exact hpost _ _ _ _ _ _ _ _ _ (iv_w hr9 (by decide)) k_o12 k_o13 k_o14 k_o15 k_o16
            · skip
              refine ⟨fun h => absurd h (by decide), fun _ => ?_, fun h0 h1 => absurd rfl h1⟩
              refine s_wn_X3_play_6_15_0 k_nf_begun k_nf_climbed k_na_huts k_na_known k_na_levels k_tl0f_huts k_tl0f_singers k_tl0f_dams k_tl0f_echoes k_tl0f_deep k_tl0a_heights k_tl0a_ladders k_tl0a_minutes k_tl0a_echoFrom k_tl0a_echoTo k_tl0a_homes k_tl0a_talls k_tl0a_known k_tv1f_deeds k_tv1a_kinds k_tv1a_firsts k_tv1a_seconds k_tv1f_deeds (fun r18 o19 o20 o21 o22 o23 o24 o25 o26 hr18 k_o21 k_o22 k_o23 k_o24 k_o25 => ?_)
              exact hpost _ _ _ _ _ _ _ _ _ (iv_w hr18 (by decide)) k_o21 k_o22 k_o23 k_o24 k_o25
      · skip
        refine ⟨fun h => absurd h (by decide), fun _ => ?_, fun h0 h1 => absurd rfl h1⟩
        refine ⟨fun c27 => ?_, fun c27 => ?_⟩
        · skip
          refine ⟨fun _ => ?_, fun h => absurd h (by decide), fun h0 h1 => absurd rfl h0⟩
          exact s_wx_X10_stop_22 k_ta_counts k_tl0f_huts k_tl0f_singers k_tl0f_dams k_tl0f_echoes k_tl0f_deep k_tl0a_heights k_tl0a_ladders k_tl0a_minutes k_tl0a_echoFrom k_tl0a_echoTo k_tl0a_homes k_tl0a_talls k_tl0a_known k_tl1f_huts k_tl1f_singers k_tl1f_dams k_tl1f_echoes k_tl1f_deep k_tl1a_heights k_tl1a_ladders k_tl1a_minutes k_tl1a_echoFrom k_tl1a_echoTo k_tl1a_homes k_tl1a_talls k_tl1a_known k_tv0f_deeds k_tv0a_kinds k_tv0a_firsts k_tv0a_seconds k_tv1f_deeds k_tv1a_kinds k_tv1a_firsts k_tv1a_seconds k_nf_begun k_nf_climbed k_na_huts k_na_known k_na_levels hpost
        · skip
          refine ⟨fun c28 => ?_, fun c28 => ?_⟩
          · skip
            refine ⟨fun _ => ?_, fun h => absurd h (by decide), fun h0 h1 => absurd rfl h0⟩
            exact s_wx_X10_stop_22 k_ta_counts k_tl0f_huts k_tl0f_singers k_tl0f_dams k_tl0f_echoes k_tl0f_deep k_tl0a_heights k_tl0a_ladders k_tl0a_minutes k_tl0a_echoFrom k_tl0a_echoTo k_tl0a_homes k_tl0a_talls k_tl0a_known k_tl1f_huts k_tl1f_singers k_tl1f_dams k_tl1f_echoes k_tl1f_deep k_tl1a_heights k_tl1a_ladders k_tl1a_minutes k_tl1a_echoFrom k_tl1a_echoTo k_tl1a_homes k_tl1a_talls k_tl1a_known k_tv0f_deeds k_tv0a_kinds k_tv0a_firsts k_tv0a_seconds k_tv1f_deeds k_tv1a_kinds k_tv1a_firsts k_tv1a_seconds k_nf_begun k_nf_climbed k_na_huts k_na_known k_na_levels hpost
          · skip
            refine ⟨iv_in (iv_lta (l := 0) (h := 1) (r_nle c28) (iv_leb (l := 0) (h := 2147483647) (r_nlt c27) (iv_lit (l := 0) (h := 0) (by decide)) (iv_top x2) (by decide)) (k_ta_counts _) (by decide)) (by decide), fun hc => ?_, fun hc => ?_⟩
            · skip
              refine ⟨fun h => absurd h (by decide), fun h => absurd h (by decide), fun h0 h1 => ?_⟩
              refine s_wn_X3_play_6_15_0 k_nf_begun k_nf_climbed k_na_huts k_na_known k_na_levels k_tl1f_huts k_tl1f_singers k_tl1f_dams k_tl1f_echoes k_tl1f_deep k_tl1a_heights k_tl1a_ladders k_tl1a_minutes k_tl1a_echoFrom k_tl1a_echoTo k_tl1a_homes k_tl1a_talls k_tl1a_known k_tv0f_deeds k_tv0a_kinds k_tv0a_firsts k_tv0a_seconds k_tv0f_deeds (fun r29 o30 o31 o32 o33 o34 o35 o36 o37 hr29 k_o32 k_o33 k_o34 k_o35 k_o36 => ?_)
              exact hpost _ _ _ _ _ _ _ _ _ (iv_w hr29 (by decide)) k_o32 k_o33 k_o34 k_o35 k_o36
            · skip
              refine ⟨fun h => absurd h (by decide), fun _ => ?_, fun h0 h1 => absurd rfl h1⟩
              refine s_wn_X3_play_6_15_0 k_nf_begun k_nf_climbed k_na_huts k_na_known k_na_levels k_tl1f_huts k_tl1f_singers k_tl1f_dams k_tl1f_echoes k_tl1f_deep k_tl1a_heights k_tl1a_ladders k_tl1a_minutes k_tl1a_echoFrom k_tl1a_echoTo k_tl1a_homes k_tl1a_talls k_tl1a_known k_tv1f_deeds k_tv1a_kinds k_tv1a_firsts k_tv1a_seconds k_tv1f_deeds (fun r38 o39 o40 o41 o42 o43 o44 o45 o46 hr38 k_o41 k_o42 k_o43 k_o44 k_o45 => ?_)
              exact hpost _ _ _ _ _ _ _ _ _ (iv_w hr38 (by decide)) k_o41 k_o42 k_o43 k_o44 k_o45
-- wx_X10_state
set_option maxRecDepth 20000 in
theorem s_wx_X10_state_0 {ta_counts : Nat → Int32} {tl0f_huts : Int32} {tl0f_singers : Int32} {tl0f_dams : Int32} {tl0f_echoes : Int32} {tl0f_deep : Int32} {tl0a_heights : Nat → Int32} {tl0a_ladders : Nat → Int32} {tl0a_minutes : Nat → Int32} {tl0a_echoFrom : Nat → Int32} {tl0a_echoTo : Nat → Int32} {tl0a_homes : Nat → Int32} {tl0a_talls : Nat → Int32} {tl0a_known : Nat → Int32} {tl1f_huts : Int32} {tl1f_singers : Int32} {tl1f_dams : Int32} {tl1f_echoes : Int32} {tl1f_deep : Int32} {tl1a_heights : Nat → Int32} {tl1a_ladders : Nat → Int32} {tl1a_minutes : Nat → Int32} {tl1a_echoFrom : Nat → Int32} {tl1a_echoTo : Nat → Int32} {tl1a_homes : Nat → Int32} {tl1a_talls : Nat → Int32} {tl1a_known : Nat → Int32} {tv0f_deeds : Int32} {tv0a_kinds : Nat → Int32} {tv0a_firsts : Nat → Int32} {tv0a_seconds : Nat → Int32} {tv1f_deeds : Int32} {tv1a_kinds : Nat → Int32} {tv1a_firsts : Nat → Int32} {tv1a_seconds : Nat → Int32} {nf_minute : Int32} {nf_avalanches : Int32} {nf_begun : Int32} {nf_climbed : Int32} {na_huts : Nat → Int32} {na_known : Nat → Int32} {na_levels : Nat → Int32} {na_snow : Nat → Int32} {na_open : Nat → Int32} {x1 : Int32} {x2 : Int32} {x3 : Int32} {x4 : Int32} {post : Int32 → (Int32) → (Int32) → (Int32) → (Int32) → (Nat → Int32) → (Nat → Int32) → (Nat → Int32) → (Nat → Int32) → (Nat → Int32) → Prop} (k_ta_counts : ∀ j, iv 0 2 (ta_counts j)) (k_tl0f_huts : iv 0 9 tl0f_huts) (k_tl0f_singers : iv 0 6 tl0f_singers) (k_tl0f_dams : iv 0 511 tl0f_dams) (k_tl0f_echoes : iv 0 4 tl0f_echoes) (k_tl0f_deep : iv 1 9 tl0f_deep) (k_tl0a_heights : ∀ j, iv 0 99 (tl0a_heights j)) (k_tl0a_ladders : ∀ j, iv 0 9 (tl0a_ladders j)) (k_tl0a_minutes : ∀ j, iv 0 9 (tl0a_minutes j)) (k_tl0a_echoFrom : ∀ j, iv 0 8 (tl0a_echoFrom j)) (k_tl0a_echoTo : ∀ j, iv 0 8 (tl0a_echoTo j)) (k_tl0a_homes : ∀ j, iv 0 8 (tl0a_homes j)) (k_tl0a_talls : ∀ j, iv 0 9 (tl0a_talls j)) (k_tl0a_known : ∀ j, iv 0 31 (tl0a_known j)) (k_tl1f_huts : iv 0 9 tl1f_huts) (k_tl1f_singers : iv 0 6 tl1f_singers) (k_tl1f_dams : iv 0 511 tl1f_dams) (k_tl1f_echoes : iv 0 4 tl1f_echoes) (k_tl1f_deep : iv 1 9 tl1f_deep) (k_tl1a_heights : ∀ j, iv 0 99 (tl1a_heights j)) (k_tl1a_ladders : ∀ j, iv 0 9 (tl1a_ladders j)) (k_tl1a_minutes : ∀ j, iv 0 9 (tl1a_minutes j)) (k_tl1a_echoFrom : ∀ j, iv 0 8 (tl1a_echoFrom j)) (k_tl1a_echoTo : ∀ j, iv 0 8 (tl1a_echoTo j)) (k_tl1a_homes : ∀ j, iv 0 8 (tl1a_homes j)) (k_tl1a_talls : ∀ j, iv 0 9 (tl1a_talls j)) (k_tl1a_known : ∀ j, iv 0 31 (tl1a_known j)) (k_tv0f_deeds : iv 0 40 tv0f_deeds) (k_tv0a_kinds : ∀ j, iv 0 5 (tv0a_kinds j)) (k_tv0a_firsts : ∀ j, iv 0 5 (tv0a_firsts j)) (k_tv0a_seconds : ∀ j, iv (-1) 8 (tv0a_seconds j)) (k_tv1f_deeds : iv 0 40 tv1f_deeds) (k_tv1a_kinds : ∀ j, iv 0 5 (tv1a_kinds j)) (k_tv1a_firsts : ∀ j, iv 0 5 (tv1a_firsts j)) (k_tv1a_seconds : ∀ j, iv (-1) 8 (tv1a_seconds j)) (k_nf_begun : iv 0 31 nf_begun) (k_nf_climbed : iv 0 63 nf_climbed) (k_na_huts : ∀ j, iv 0 8 (na_huts j)) (k_na_known : ∀ j, iv 0 31 (na_known j)) (k_na_levels : ∀ j, iv (-9) 122 (na_levels j)) (k_na_open : ∀ j, iv 0 511 (na_open j)) (hpost : ∀ (r : Int32) (nf_minute : Int32) (nf_avalanches : Int32) (nf_begun : Int32) (nf_climbed : Int32) (na_huts : Nat → Int32) (na_known : Nat → Int32) (na_levels : Nat → Int32) (na_snow : Nat → Int32) (na_open : Nat → Int32), (iv 0 31 nf_begun) → (iv 0 63 nf_climbed) → (∀ j, iv 0 8 (na_huts j)) → (∀ j, iv 0 31 (na_known j)) → (∀ j, iv (-9) 122 (na_levels j)) → (∀ j, iv 0 511 (na_open j)) → post r nf_minute nf_avalanches nf_begun nf_climbed na_huts na_known na_levels na_snow na_open) : q_wx_X10_state_0 ta_counts tl0f_huts tl0f_singers tl0f_dams tl0f_echoes tl0f_deep tl0a_heights tl0a_ladders tl0a_minutes tl0a_echoFrom tl0a_echoTo tl0a_homes tl0a_talls tl0a_known tl1f_huts tl1f_singers tl1f_dams tl1f_echoes tl1f_deep tl1a_heights tl1a_ladders tl1a_minutes tl1a_echoFrom tl1a_echoTo tl1a_homes tl1a_talls tl1a_known tv0f_deeds tv0a_kinds tv0a_firsts tv0a_seconds tv1f_deeds tv1a_kinds tv1a_firsts tv1a_seconds nf_minute nf_avalanches nf_begun nf_climbed na_huts na_known na_levels na_snow na_open x1 x2 x3 x4 post := by
  refine ⟨fun c1 => ?_, fun c1 => ?_⟩
  · skip
    refine ⟨fun _ => ?_, fun h => absurd h (by decide), fun h0 h1 => absurd rfl h0⟩
    refine ⟨fun c2 => ?_, fun c2 => ?_⟩
    · skip
      refine ⟨fun _ => ?_, fun h => absurd h (by decide), fun h0 h1 => absurd rfl h0⟩
      refine ⟨fun c3 => ?_, fun c3 => ?_⟩
      · skip
        exact hpost _ _ _ _ _ _ _ _ _ _ k_nf_begun k_nf_climbed k_na_huts k_na_known k_na_levels k_na_open
      · skip
        exact (iv_emp (iv_ne (l := 1) (h := 0) c3 (iv_lit (l := 0) (h := 0) (by decide)) (iv_lit (l := 0) (h := 0) (by decide)) (by decide)) (by decide)).elim
    · skip
      refine ⟨fun c4 => ?_, fun c4 => ?_⟩
      · skip
        refine ⟨fun _ => ?_, fun h => absurd h (by decide), fun h0 h1 => absurd rfl h0⟩
        refine ⟨fun c5 => ?_, fun c5 => ?_⟩
        · skip
          exact hpost _ _ _ _ _ _ _ _ _ _ k_nf_begun k_nf_climbed k_na_huts k_na_known k_na_levels k_na_open
        · skip
          exact (iv_emp (iv_ne (l := 1) (h := 0) c5 (iv_lit (l := 0) (h := 0) (by decide)) (iv_lit (l := 0) (h := 0) (by decide)) (by decide)) (by decide)).elim
      · skip
        refine ⟨iv_in (iv_lta (l := 0) (h := 1) (r_nle c4) (iv_leb (l := 0) (h := 2147483647) (r_nlt c2) (iv_lit (l := 0) (h := 0) (by decide)) (iv_top x2) (by decide)) (k_ta_counts _) (by decide)) (by decide), fun hc => ?_, fun hc => ?_⟩
        · skip
          refine ⟨fun h => absurd h (by decide), fun h => absurd h (by decide), fun h0 h1 => ?_⟩
          refine ⟨fun c6 => ?_, fun c6 => ?_⟩
          · skip
            exact hpost _ _ _ _ _ _ _ _ _ _ k_nf_begun k_nf_climbed k_na_huts k_na_known k_na_levels k_na_open
          · skip
            exact (iv_emp (iv_ne (l := 1) (h := 0) c6 (iv_lit (l := 0) (h := 0) (by decide)) (iv_lit (l := 0) (h := 0) (by decide)) (by decide)) (by decide)).elim
        · skip
          refine ⟨fun h => absurd h (by decide), fun _ => ?_, fun h0 h1 => absurd rfl h1⟩
          refine ⟨fun c7 => ?_, fun c7 => ?_⟩
          · skip
            exact hpost _ _ _ _ _ _ _ _ _ _ k_nf_begun k_nf_climbed k_na_huts k_na_known k_na_levels k_na_open
          · skip
            exact (iv_emp (iv_ne (l := 1) (h := 0) c7 (iv_lit (l := 0) (h := 0) (by decide)) (iv_lit (l := 0) (h := 0) (by decide)) (by decide)) (by decide)).elim
  · skip
    refine ⟨fun c8 => ?_, fun c8 => ?_⟩
    · skip
      refine ⟨fun _ => ?_, fun h => absurd h (by decide), fun h0 h1 => absurd rfl h0⟩
      refine ⟨fun c9 => ?_, fun c9 => ?_⟩
      · skip
        refine ⟨fun _ => ?_, fun h => absurd h (by decide), fun h0 h1 => absurd rfl h0⟩
        refine ⟨fun c10 => ?_, fun c10 => ?_⟩
        · skip
          exact hpost _ _ _ _ _ _ _ _ _ _ k_nf_begun k_nf_climbed k_na_huts k_na_known k_na_levels k_na_open
        · skip
          exact (iv_emp (iv_ne (l := 1) (h := 0) c10 (iv_lit (l := 0) (h := 0) (by decide)) (iv_lit (l := 0) (h := 0) (by decide)) (by decide)) (by decide)).elim
      · skip
        refine ⟨fun c11 => ?_, fun c11 => ?_⟩
        · skip
          refine ⟨fun _ => ?_, fun h => absurd h (by decide), fun h0 h1 => absurd rfl h0⟩
          refine ⟨fun c12 => ?_, fun c12 => ?_⟩
          · skip
            exact hpost _ _ _ _ _ _ _ _ _ _ k_nf_begun k_nf_climbed k_na_huts k_na_known k_na_levels k_na_open
          · skip
            exact (iv_emp (iv_ne (l := 1) (h := 0) c12 (iv_lit (l := 0) (h := 0) (by decide)) (iv_lit (l := 0) (h := 0) (by decide)) (by decide)) (by decide)).elim
        · skip
          refine ⟨iv_in (iv_lta (l := 0) (h := 1) (r_nle c11) (iv_leb (l := 0) (h := 2147483647) (r_nlt c9) (iv_lit (l := 0) (h := 0) (by decide)) (iv_top x2) (by decide)) (k_ta_counts _) (by decide)) (by decide), fun hc => ?_, fun hc => ?_⟩
          · skip
            refine ⟨fun h => absurd h (by decide), fun h => absurd h (by decide), fun h0 h1 => ?_⟩
            refine ⟨fun c13 => ?_, fun c13 => ?_⟩
            · skip
              exact hpost _ _ _ _ _ _ _ _ _ _ k_nf_begun k_nf_climbed k_na_huts k_na_known k_na_levels k_na_open
            · skip
              exact (iv_emp (iv_ne (l := 1) (h := 0) c13 (iv_lit (l := 0) (h := 0) (by decide)) (iv_lit (l := 0) (h := 0) (by decide)) (by decide)) (by decide)).elim
          · skip
            refine ⟨fun h => absurd h (by decide), fun _ => ?_, fun h0 h1 => absurd rfl h1⟩
            refine ⟨fun c14 => ?_, fun c14 => ?_⟩
            · skip
              exact hpost _ _ _ _ _ _ _ _ _ _ k_nf_begun k_nf_climbed k_na_huts k_na_known k_na_levels k_na_open
            · skip
              exact (iv_emp (iv_ne (l := 1) (h := 0) c14 (iv_lit (l := 0) (h := 0) (by decide)) (iv_lit (l := 0) (h := 0) (by decide)) (by decide)) (by decide)).elim
    · skip
      refine ⟨iv_in (iv_lta (l := 0) (h := 1) (r_nle c8) (iv_leb (l := 0) (h := 2147483647) (r_nlt c1) (iv_lit (l := 0) (h := 0) (by decide)) (iv_top x1) (by decide)) (k_ta_counts _) (by decide)) (by decide), fun hc => ?_, fun hc => ?_⟩
      · skip
        refine ⟨fun h => absurd h (by decide), fun h => absurd h (by decide), fun h0 h1 => ?_⟩
        refine ⟨fun c15 => ?_, fun c15 => ?_⟩
        · skip
          refine ⟨fun _ => ?_, fun h => absurd h (by decide), fun h0 h1 => absurd rfl h0⟩
          refine ⟨fun c16 => ?_, fun c16 => ?_⟩
          · skip
            exact hpost _ _ _ _ _ _ _ _ _ _ k_nf_begun k_nf_climbed k_na_huts k_na_known k_na_levels k_na_open
          · skip
            exact (iv_emp (iv_ne (l := 1) (h := 0) c16 (iv_lit (l := 0) (h := 0) (by decide)) (iv_lit (l := 0) (h := 0) (by decide)) (by decide)) (by decide)).elim
        · skip
          refine ⟨fun c17 => ?_, fun c17 => ?_⟩
          · skip
            refine ⟨fun _ => ?_, fun h => absurd h (by decide), fun h0 h1 => absurd rfl h0⟩
            refine ⟨fun c18 => ?_, fun c18 => ?_⟩
            · skip
              exact hpost _ _ _ _ _ _ _ _ _ _ k_nf_begun k_nf_climbed k_na_huts k_na_known k_na_levels k_na_open
            · skip
              exact (iv_emp (iv_ne (l := 1) (h := 0) c18 (iv_lit (l := 0) (h := 0) (by decide)) (iv_lit (l := 0) (h := 0) (by decide)) (by decide)) (by decide)).elim
          · skip
            refine ⟨iv_in (iv_lta (l := 0) (h := 1) (r_nle c17) (iv_leb (l := 0) (h := 2147483647) (r_nlt c15) (iv_lit (l := 0) (h := 0) (by decide)) (iv_top x2) (by decide)) (k_ta_counts _) (by decide)) (by decide), fun hc => ?_, fun hc => ?_⟩
            · skip
              refine ⟨fun h => absurd h (by decide), fun h => absurd h (by decide), fun h0 h1 => ?_⟩
              refine ⟨fun c19 => ?_, fun c19 => ?_⟩
              · skip
                refine ⟨fun c20 => ?_, fun c20 => ?_⟩
                · skip
                  exact hpost _ _ _ _ _ _ _ _ _ _ k_nf_begun k_nf_climbed k_na_huts k_na_known k_na_levels k_na_open
                · skip
                  exact (iv_emp (iv_ne (l := 1) (h := 0) c20 (iv_lit (l := 0) (h := 0) (by decide)) (iv_lit (l := 0) (h := 0) (by decide)) (by decide)) (by decide)).elim
              · skip
                refine ⟨fun c21 => ?_, fun c21 => ?_⟩
                · skip
                  refine s_wn_X3_play_6_15_0 k_nf_begun k_nf_climbed k_na_huts k_na_known k_na_levels k_tl0f_huts k_tl0f_singers k_tl0f_dams k_tl0f_echoes k_tl0f_deep k_tl0a_heights k_tl0a_ladders k_tl0a_minutes k_tl0a_echoFrom k_tl0a_echoTo k_tl0a_homes k_tl0a_talls k_tl0a_known k_tv0f_deeds k_tv0a_kinds k_tv0a_firsts k_tv0a_seconds (iv_lea (l := 0) (h := 40) (r_le c21) (iv_leb (l := 0) (h := 2147483647) (r_nlt c19) (iv_lit (l := 0) (h := 0) (by decide)) (iv_top x3) (by decide)) k_tv0f_deeds (by decide)) (fun r22 o23 o24 o25 o26 o27 o28 o29 o30 hr22 k_o25 k_o26 k_o27 k_o28 k_o29 => ?_)
                  refine ⟨fun c31 => ?_, fun c31 => ?_⟩
                  · skip
                    refine ⟨fun c32 => ?_, fun c32 => ?_⟩
                    · skip
                      exact hpost _ _ _ _ _ _ _ _ _ _ k_o25 k_o26 k_o27 k_o28 k_o29 k_na_open
                    · skip
                      exact (iv_emp (iv_ne (l := 1) (h := 0) c32 (iv_lit (l := 0) (h := 0) (by decide)) (iv_lit (l := 0) (h := 0) (by decide)) (by decide)) (by decide)).elim
                  · skip
                    refine ⟨fun c33 => ?_, fun c33 => ?_⟩
                    · skip
                      exact (iv_emp (iv_eqa (l := 1) (h := 0) c33 (iv_lit (l := 1) (h := 1) (by decide)) (iv_lit (l := 0) (h := 0) (by decide)) (by decide)) (by decide)).elim
                    · skip
                      refine ⟨iv_in (iv_lta (l := 0) (h := 1) (r_nle c8) (iv_leb (l := 0) (h := 2147483647) (r_nlt c1) (iv_lit (l := 0) (h := 0) (by decide)) (iv_top x1) (by decide)) (k_ta_counts _) (by decide)) (by decide), fun hc => ?_, fun hc => ?_⟩
                      · skip
                        refine s_wn_X3_look_6_0 k_o25 k_o26 k_o27 k_o28 k_o29 k_na_open k_tl0f_huts k_tl0f_singers k_tl0f_dams k_tl0f_deep k_tl0a_heights k_tl0a_ladders k_tl0a_minutes k_tl0a_talls (fun r34 o35 k_o35 => ?_)
                        exact hpost _ _ _ _ _ _ _ _ _ _ k_o25 k_o26 k_o27 k_o28 k_o29 k_o35
                      · skip
                        refine s_wn_X3_look_6_0 k_o25 k_o26 k_o27 k_o28 k_o29 k_na_open k_tl1f_huts k_tl1f_singers k_tl1f_dams k_tl1f_deep k_tl1a_heights k_tl1a_ladders k_tl1a_minutes k_tl1a_talls (fun r36 o37 k_o37 => ?_)
                        exact hpost _ _ _ _ _ _ _ _ _ _ k_o25 k_o26 k_o27 k_o28 k_o29 k_o37
                · skip
                  refine ⟨fun c38 => ?_, fun c38 => ?_⟩
                  · skip
                    exact hpost _ _ _ _ _ _ _ _ _ _ k_nf_begun k_nf_climbed k_na_huts k_na_known k_na_levels k_na_open
                  · skip
                    exact (iv_emp (iv_ne (l := 1) (h := 0) c38 (iv_lit (l := 0) (h := 0) (by decide)) (iv_lit (l := 0) (h := 0) (by decide)) (by decide)) (by decide)).elim
            · skip
              refine ⟨fun h => absurd h (by decide), fun _ => ?_, fun h0 h1 => absurd rfl h1⟩
              refine ⟨fun c39 => ?_, fun c39 => ?_⟩
              · skip
                refine ⟨fun c40 => ?_, fun c40 => ?_⟩
                · skip
                  exact hpost _ _ _ _ _ _ _ _ _ _ k_nf_begun k_nf_climbed k_na_huts k_na_known k_na_levels k_na_open
                · skip
                  exact (iv_emp (iv_ne (l := 1) (h := 0) c40 (iv_lit (l := 0) (h := 0) (by decide)) (iv_lit (l := 0) (h := 0) (by decide)) (by decide)) (by decide)).elim
              · skip
                refine ⟨fun c41 => ?_, fun c41 => ?_⟩
                · skip
                  refine s_wn_X3_play_6_15_0 k_nf_begun k_nf_climbed k_na_huts k_na_known k_na_levels k_tl0f_huts k_tl0f_singers k_tl0f_dams k_tl0f_echoes k_tl0f_deep k_tl0a_heights k_tl0a_ladders k_tl0a_minutes k_tl0a_echoFrom k_tl0a_echoTo k_tl0a_homes k_tl0a_talls k_tl0a_known k_tv1f_deeds k_tv1a_kinds k_tv1a_firsts k_tv1a_seconds (iv_lea (l := 0) (h := 40) (r_le c41) (iv_leb (l := 0) (h := 2147483647) (r_nlt c39) (iv_lit (l := 0) (h := 0) (by decide)) (iv_top x3) (by decide)) k_tv1f_deeds (by decide)) (fun r42 o43 o44 o45 o46 o47 o48 o49 o50 hr42 k_o45 k_o46 k_o47 k_o48 k_o49 => ?_)
                  refine ⟨fun c51 => ?_, fun c51 => ?_⟩
                  · skip
                    refine ⟨fun c52 => ?_, fun c52 => ?_⟩
                    · skip
                      exact hpost _ _ _ _ _ _ _ _ _ _ k_o45 k_o46 k_o47 k_o48 k_o49 k_na_open
                    · skip
                      exact (iv_emp (iv_ne (l := 1) (h := 0) c52 (iv_lit (l := 0) (h := 0) (by decide)) (iv_lit (l := 0) (h := 0) (by decide)) (by decide)) (by decide)).elim
                  · skip
                    refine ⟨fun c53 => ?_, fun c53 => ?_⟩
                    · skip
                      exact (iv_emp (iv_eqa (l := 1) (h := 0) c53 (iv_lit (l := 1) (h := 1) (by decide)) (iv_lit (l := 0) (h := 0) (by decide)) (by decide)) (by decide)).elim
                    · skip
                      refine ⟨iv_in (iv_lta (l := 0) (h := 1) (r_nle c8) (iv_leb (l := 0) (h := 2147483647) (r_nlt c1) (iv_lit (l := 0) (h := 0) (by decide)) (iv_top x1) (by decide)) (k_ta_counts _) (by decide)) (by decide), fun hc => ?_, fun hc => ?_⟩
                      · skip
                        refine s_wn_X3_look_6_0 k_o45 k_o46 k_o47 k_o48 k_o49 k_na_open k_tl0f_huts k_tl0f_singers k_tl0f_dams k_tl0f_deep k_tl0a_heights k_tl0a_ladders k_tl0a_minutes k_tl0a_talls (fun r54 o55 k_o55 => ?_)
                        exact hpost _ _ _ _ _ _ _ _ _ _ k_o45 k_o46 k_o47 k_o48 k_o49 k_o55
                      · skip
                        refine s_wn_X3_look_6_0 k_o45 k_o46 k_o47 k_o48 k_o49 k_na_open k_tl1f_huts k_tl1f_singers k_tl1f_dams k_tl1f_deep k_tl1a_heights k_tl1a_ladders k_tl1a_minutes k_tl1a_talls (fun r56 o57 k_o57 => ?_)
                        exact hpost _ _ _ _ _ _ _ _ _ _ k_o45 k_o46 k_o47 k_o48 k_o49 k_o57
                · skip
                  refine ⟨fun c58 => ?_, fun c58 => ?_⟩
                  · skip
                    exact hpost _ _ _ _ _ _ _ _ _ _ k_nf_begun k_nf_climbed k_na_huts k_na_known k_na_levels k_na_open
                  · skip
                    exact (iv_emp (iv_ne (l := 1) (h := 0) c58 (iv_lit (l := 0) (h := 0) (by decide)) (iv_lit (l := 0) (h := 0) (by decide)) (by decide)) (by decide)).elim
      · skip
        refine ⟨fun h => absurd h (by decide), fun _ => ?_, fun h0 h1 => absurd rfl h1⟩
        refine ⟨fun c59 => ?_, fun c59 => ?_⟩
        · skip
          refine ⟨fun _ => ?_, fun h => absurd h (by decide), fun h0 h1 => absurd rfl h0⟩
          refine ⟨fun c60 => ?_, fun c60 => ?_⟩
          · skip
            exact hpost _ _ _ _ _ _ _ _ _ _ k_nf_begun k_nf_climbed k_na_huts k_na_known k_na_levels k_na_open
          · skip
            exact (iv_emp (iv_ne (l := 1) (h := 0) c60 (iv_lit (l := 0) (h := 0) (by decide)) (iv_lit (l := 0) (h := 0) (by decide)) (by decide)) (by decide)).elim
        · skip
          refine ⟨fun c61 => ?_, fun c61 => ?_⟩
          · skip
            refine ⟨fun _ => ?_, fun h => absurd h (by decide), fun h0 h1 => absurd rfl h0⟩
            refine ⟨fun c62 => ?_, fun c62 => ?_⟩
            · skip
              exact hpost _ _ _ _ _ _ _ _ _ _ k_nf_begun k_nf_climbed k_na_huts k_na_known k_na_levels k_na_open
            · skip
              exact (iv_emp (iv_ne (l := 1) (h := 0) c62 (iv_lit (l := 0) (h := 0) (by decide)) (iv_lit (l := 0) (h := 0) (by decide)) (by decide)) (by decide)).elim
          · skip
            refine ⟨iv_in (iv_lta (l := 0) (h := 1) (r_nle c61) (iv_leb (l := 0) (h := 2147483647) (r_nlt c59) (iv_lit (l := 0) (h := 0) (by decide)) (iv_top x2) (by decide)) (k_ta_counts _) (by decide)) (by decide), fun hc => ?_, fun hc => ?_⟩
            · skip
              refine ⟨fun h => absurd h (by decide), fun h => absurd h (by decide), fun h0 h1 => ?_⟩
              refine ⟨fun c63 => ?_, fun c63 => ?_⟩
              · skip
                refine ⟨fun c64 => ?_, fun c64 => ?_⟩
                · skip
                  exact hpost _ _ _ _ _ _ _ _ _ _ k_nf_begun k_nf_climbed k_na_huts k_na_known k_na_levels k_na_open
                · skip
                  exact (iv_emp (iv_ne (l := 1) (h := 0) c64 (iv_lit (l := 0) (h := 0) (by decide)) (iv_lit (l := 0) (h := 0) (by decide)) (by decide)) (by decide)).elim
              · skip
                refine ⟨fun c65 => ?_, fun c65 => ?_⟩
                · skip
                  refine s_wn_X3_play_6_15_0 k_nf_begun k_nf_climbed k_na_huts k_na_known k_na_levels k_tl1f_huts k_tl1f_singers k_tl1f_dams k_tl1f_echoes k_tl1f_deep k_tl1a_heights k_tl1a_ladders k_tl1a_minutes k_tl1a_echoFrom k_tl1a_echoTo k_tl1a_homes k_tl1a_talls k_tl1a_known k_tv0f_deeds k_tv0a_kinds k_tv0a_firsts k_tv0a_seconds (iv_lea (l := 0) (h := 40) (r_le c65) (iv_leb (l := 0) (h := 2147483647) (r_nlt c63) (iv_lit (l := 0) (h := 0) (by decide)) (iv_top x3) (by decide)) k_tv0f_deeds (by decide)) (fun r66 o67 o68 o69 o70 o71 o72 o73 o74 hr66 k_o69 k_o70 k_o71 k_o72 k_o73 => ?_)
                  refine ⟨fun c75 => ?_, fun c75 => ?_⟩
                  · skip
                    refine ⟨fun c76 => ?_, fun c76 => ?_⟩
                    · skip
                      exact hpost _ _ _ _ _ _ _ _ _ _ k_o69 k_o70 k_o71 k_o72 k_o73 k_na_open
                    · skip
                      exact (iv_emp (iv_ne (l := 1) (h := 0) c76 (iv_lit (l := 0) (h := 0) (by decide)) (iv_lit (l := 0) (h := 0) (by decide)) (by decide)) (by decide)).elim
                  · skip
                    refine ⟨fun c77 => ?_, fun c77 => ?_⟩
                    · skip
                      exact (iv_emp (iv_eqa (l := 1) (h := 0) c77 (iv_lit (l := 1) (h := 1) (by decide)) (iv_lit (l := 0) (h := 0) (by decide)) (by decide)) (by decide)).elim
                    · skip
                      refine ⟨iv_in (iv_lta (l := 0) (h := 1) (r_nle c8) (iv_leb (l := 0) (h := 2147483647) (r_nlt c1) (iv_lit (l := 0) (h := 0) (by decide)) (iv_top x1) (by decide)) (k_ta_counts _) (by decide)) (by decide), fun hc => ?_, fun hc => ?_⟩
                      · skip
                        refine s_wn_X3_look_6_0 k_o69 k_o70 k_o71 k_o72 k_o73 k_na_open k_tl0f_huts k_tl0f_singers k_tl0f_dams k_tl0f_deep k_tl0a_heights k_tl0a_ladders k_tl0a_minutes k_tl0a_talls (fun r78 o79 k_o79 => ?_)
                        exact hpost _ _ _ _ _ _ _ _ _ _ k_o69 k_o70 k_o71 k_o72 k_o73 k_o79
                      · skip
                        refine s_wn_X3_look_6_0 k_o69 k_o70 k_o71 k_o72 k_o73 k_na_open k_tl1f_huts k_tl1f_singers k_tl1f_dams k_tl1f_deep k_tl1a_heights k_tl1a_ladders k_tl1a_minutes k_tl1a_talls (fun r80 o81 k_o81 => ?_)
                        exact hpost _ _ _ _ _ _ _ _ _ _ k_o69 k_o70 k_o71 k_o72 k_o73 k_o81
                · skip
                  refine ⟨fun c82 => ?_, fun c82 => ?_⟩
                  · skip
                    exact hpost _ _ _ _ _ _ _ _ _ _ k_nf_begun k_nf_climbed k_na_huts k_na_known k_na_levels k_na_open
                  · skip
                    exact (iv_emp (iv_ne (l := 1) (h := 0) c82 (iv_lit (l := 0) (h := 0) (by decide)) (iv_lit (l := 0) (h := 0) (by decide)) (by decide)) (by decide)).elim
            · skip
              refine ⟨fun h => absurd h (by decide), fun _ => ?_, fun h0 h1 => absurd rfl h1⟩
              refine ⟨fun c83 => ?_, fun c83 => ?_⟩
              · skip
                refine ⟨fun c84 => ?_, fun c84 => ?_⟩
                · skip
                  exact hpost _ _ _ _ _ _ _ _ _ _ k_nf_begun k_nf_climbed k_na_huts k_na_known k_na_levels k_na_open
                · skip
                  exact (iv_emp (iv_ne (l := 1) (h := 0) c84 (iv_lit (l := 0) (h := 0) (by decide)) (iv_lit (l := 0) (h := 0) (by decide)) (by decide)) (by decide)).elim
              · skip
                refine ⟨fun c85 => ?_, fun c85 => ?_⟩
                · skip
                  refine s_wn_X3_play_6_15_0 k_nf_begun k_nf_climbed k_na_huts k_na_known k_na_levels k_tl1f_huts k_tl1f_singers k_tl1f_dams k_tl1f_echoes k_tl1f_deep k_tl1a_heights k_tl1a_ladders k_tl1a_minutes k_tl1a_echoFrom k_tl1a_echoTo k_tl1a_homes k_tl1a_talls k_tl1a_known k_tv1f_deeds k_tv1a_kinds k_tv1a_firsts k_tv1a_seconds (iv_lea (l := 0) (h := 40) (r_le c85) (iv_leb (l := 0) (h := 2147483647) (r_nlt c83) (iv_lit (l := 0) (h := 0) (by decide)) (iv_top x3) (by decide)) k_tv1f_deeds (by decide)) (fun r86 o87 o88 o89 o90 o91 o92 o93 o94 hr86 k_o89 k_o90 k_o91 k_o92 k_o93 => ?_)
                  refine ⟨fun c95 => ?_, fun c95 => ?_⟩
                  · skip
                    refine ⟨fun c96 => ?_, fun c96 => ?_⟩
                    · skip
                      exact hpost _ _ _ _ _ _ _ _ _ _ k_o89 k_o90 k_o91 k_o92 k_o93 k_na_open
                    · skip
                      exact (iv_emp (iv_ne (l := 1) (h := 0) c96 (iv_lit (l := 0) (h := 0) (by decide)) (iv_lit (l := 0) (h := 0) (by decide)) (by decide)) (by decide)).elim
                  · skip
                    refine ⟨fun c97 => ?_, fun c97 => ?_⟩
                    · skip
                      exact (iv_emp (iv_eqa (l := 1) (h := 0) c97 (iv_lit (l := 1) (h := 1) (by decide)) (iv_lit (l := 0) (h := 0) (by decide)) (by decide)) (by decide)).elim
                    · skip
                      refine ⟨iv_in (iv_lta (l := 0) (h := 1) (r_nle c8) (iv_leb (l := 0) (h := 2147483647) (r_nlt c1) (iv_lit (l := 0) (h := 0) (by decide)) (iv_top x1) (by decide)) (k_ta_counts _) (by decide)) (by decide), fun hc => ?_, fun hc => ?_⟩
                      · skip
                        refine s_wn_X3_look_6_0 k_o89 k_o90 k_o91 k_o92 k_o93 k_na_open k_tl0f_huts k_tl0f_singers k_tl0f_dams k_tl0f_deep k_tl0a_heights k_tl0a_ladders k_tl0a_minutes k_tl0a_talls (fun r98 o99 k_o99 => ?_)
                        exact hpost _ _ _ _ _ _ _ _ _ _ k_o89 k_o90 k_o91 k_o92 k_o93 k_o99
                      · skip
                        refine s_wn_X3_look_6_0 k_o89 k_o90 k_o91 k_o92 k_o93 k_na_open k_tl1f_huts k_tl1f_singers k_tl1f_dams k_tl1f_deep k_tl1a_heights k_tl1a_ladders k_tl1a_minutes k_tl1a_talls (fun r100 o101 k_o101 => ?_)
                        exact hpost _ _ _ _ _ _ _ _ _ _ k_o89 k_o90 k_o91 k_o92 k_o93 k_o101
                · skip
                  refine ⟨fun c102 => ?_, fun c102 => ?_⟩
                  · skip
                    exact hpost _ _ _ _ _ _ _ _ _ _ k_nf_begun k_nf_climbed k_na_huts k_na_known k_na_levels k_na_open
                  · skip
                    exact (iv_emp (iv_ne (l := 1) (h := 0) c102 (iv_lit (l := 0) (h := 0) (by decide)) (iv_lit (l := 0) (h := 0) (by decide)) (by decide)) (by decide)).elim
-- wx_X10_comes
set_option maxRecDepth 20000 in
theorem s_wx_X10_comes_0 {ta_counts : Nat → Int32} {tl0f_huts : Int32} {tl0f_dams : Int32} {tl0f_echoes : Int32} {tl0a_heights : Nat → Int32} {tl0a_minutes : Nat → Int32} {tl0a_echoFrom : Nat → Int32} {tl0a_echoTo : Nat → Int32} {tl1f_huts : Int32} {tl1f_dams : Int32} {tl1f_echoes : Int32} {tl1a_heights : Nat → Int32} {tl1a_minutes : Nat → Int32} {tl1a_echoFrom : Nat → Int32} {tl1a_echoTo : Nat → Int32} {pa_heard : Nat → Int32} {x1 : Int32} {x2 : Int32} {x3 : Int32} {post : Int32 → (Nat → Int32) → Prop} (k_ta_counts : ∀ j, iv 0 2 (ta_counts j)) (k_tl0f_huts : iv 0 9 tl0f_huts) (k_tl0f_dams : iv 0 511 tl0f_dams) (k_tl0f_echoes : iv 0 4 tl0f_echoes) (k_tl0a_heights : ∀ j, iv 0 99 (tl0a_heights j)) (k_tl0a_minutes : ∀ j, iv 0 9 (tl0a_minutes j)) (k_tl0a_echoFrom : ∀ j, iv 0 8 (tl0a_echoFrom j)) (k_tl0a_echoTo : ∀ j, iv 0 8 (tl0a_echoTo j)) (k_tl1f_huts : iv 0 9 tl1f_huts) (k_tl1f_dams : iv 0 511 tl1f_dams) (k_tl1f_echoes : iv 0 4 tl1f_echoes) (k_tl1a_heights : ∀ j, iv 0 99 (tl1a_heights j)) (k_tl1a_minutes : ∀ j, iv 0 9 (tl1a_minutes j)) (k_tl1a_echoFrom : ∀ j, iv 0 8 (tl1a_echoFrom j)) (k_tl1a_echoTo : ∀ j, iv 0 8 (tl1a_echoTo j)) (k_pa_heard : ∀ j, iv 0 1000 (pa_heard j)) (hpost : ∀ (r : Int32) (pa_heard : Nat → Int32), iv (-1) 999 r → (∀ j, iv 0 1000 (pa_heard j)) → post r pa_heard) : q_wx_X10_comes_0 ta_counts tl0f_huts tl0f_dams tl0f_echoes tl0a_heights tl0a_minutes tl0a_echoFrom tl0a_echoTo tl1f_huts tl1f_dams tl1f_echoes tl1a_heights tl1a_minutes tl1a_echoFrom tl1a_echoTo pa_heard x1 x2 x3 post := by
  refine ⟨fun c1 => ?_, fun c1 => ?_⟩
  · skip
    refine ⟨fun _ => ?_, fun h => absurd h (by decide), fun h0 h1 => absurd rfl h0⟩
    exact hpost _ _ (iv_w (iv_lit (l := (-1)) (h := (-1)) (by decide)) (by decide)) k_pa_heard
  · skip
    refine ⟨fun c2 => ?_, fun c2 => ?_⟩
    · skip
      refine ⟨fun _ => ?_, fun h => absurd h (by decide), fun h0 h1 => absurd rfl h0⟩
      exact hpost _ _ (iv_w (iv_lit (l := (-1)) (h := (-1)) (by decide)) (by decide)) k_pa_heard
    · skip
      refine ⟨iv_in (iv_lta (l := 0) (h := 1) (r_nle c2) (iv_leb (l := 0) (h := 2147483647) (r_nlt c1) (iv_lit (l := 0) (h := 0) (by decide)) (iv_top x1) (by decide)) (k_ta_counts _) (by decide)) (by decide), fun hc => ?_, fun hc => ?_⟩
      · skip
        refine ⟨fun h => absurd h (by decide), fun h => absurd h (by decide), fun h0 h1 => ?_⟩
        refine ⟨fun c3 => ?_, fun c3 => ?_⟩
        · skip
          refine ⟨fun c4 => ?_, fun c4 => ?_⟩
          · skip
            exact hpost _ _ (iv_w (iv_lit (l := (-1)) (h := (-1)) (by decide)) (by decide)) k_pa_heard
          · skip
            exact (iv_emp (iv_ne (l := 1) (h := 0) c4 (iv_lit (l := 0) (h := 0) (by decide)) (iv_lit (l := 0) (h := 0) (by decide)) (by decide)) (by decide)).elim
        · skip
          refine ⟨fun c5 => ?_, fun c5 => ?_⟩
          · skip
            refine ⟨fun c6 => ?_, fun c6 => ?_⟩
            · skip
              exact hpost _ _ (iv_w (iv_lit (l := (-1)) (h := (-1)) (by decide)) (by decide)) k_pa_heard
            · skip
              exact (iv_emp (iv_ne (l := 1) (h := 0) c6 (iv_lit (l := 0) (h := 0) (by decide)) (iv_lit (l := 0) (h := 0) (by decide)) (by decide)) (by decide)).elim
          · skip
            refine ⟨fun c7 => ?_, fun c7 => ?_⟩
            · skip
              exact (iv_emp (iv_eqa (l := 1) (h := 0) c7 (iv_lit (l := 1) (h := 1) (by decide)) (iv_lit (l := 0) (h := 0) (by decide)) (by decide)) (by decide)).elim
            · skip
              refine ⟨fun c8 => ?_, fun c8 => ?_⟩
              · skip
                refine ⟨fun c9 => ?_, fun c9 => ?_⟩
                · skip
                  exact (iv_emp (iv_ne (l := 1) (h := 0) c9 (iv_lit (l := 0) (h := 0) (by decide)) (iv_lit (l := 0) (h := 0) (by decide)) (by decide)) (by decide)).elim
                · skip
                  exact hpost _ _ (iv_w (iv_lit (l := (-1)) (h := (-1)) (by decide)) (by decide)) k_pa_heard
              · skip
                refine ⟨fun c10 => ?_, fun c10 => ?_⟩
                · skip
                  refine ⟨fun c11 => ?_, fun c11 => ?_⟩
                  · skip
                    exact (iv_emp (iv_ne (l := 1) (h := 0) c11 (iv_lit (l := 0) (h := 0) (by decide)) (iv_lit (l := 0) (h := 0) (by decide)) (by decide)) (by decide)).elim
                  · skip
                    exact hpost _ _ (iv_w (iv_lit (l := (-1)) (h := (-1)) (by decide)) (by decide)) k_pa_heard
                · skip
                  refine ⟨fun c12 => ?_, fun c12 => ?_⟩
                  · skip
                    refine s_wp_X7_hear_9_0 k_pa_heard (iv_w (iv_ltb (l := 1) (h := 9) (r_nle c5) (iv_leb (l := 0) (h := 2147483647) (r_nlt c3) (iv_lit (l := 0) (h := 0) (by decide)) (iv_top x2) (by decide)) k_tl0f_huts (by decide)) (by decide)) k_tl0f_dams k_tl0f_echoes k_tl0a_heights k_tl0a_minutes k_tl0a_echoFrom k_tl0a_echoTo (fun o13 k_o13 => ?_)
                    refine ⟨iv_in (iv_add (l := 0) (h := 80) (iv_mul (l := 0) (h := 72) (iv_lta (l := 0) (h := 8) (r_nle c5) (iv_leb (l := 0) (h := 2147483647) (r_nlt c3) (iv_lit (l := 0) (h := 0) (by decide)) (iv_top x2) (by decide)) k_tl0f_huts (by decide)) (iv_lit (l := 9) (h := 9) (by decide)) (by decide)) (iv_lta (l := 0) (h := 8) (r_nle c10) (iv_leb (l := 0) (h := 2147483647) (r_nlt c8) (iv_lit (l := 0) (h := 0) (by decide)) (iv_top x3) (by decide)) (iv_ltb (l := 1) (h := 9) (r_nle c5) (iv_leb (l := 0) (h := 2147483647) (r_nlt c3) (iv_lit (l := 0) (h := 0) (by decide)) (iv_top x2) (by decide)) k_tl0f_huts (by decide)) (by decide)) (by decide)) (by decide), ?_⟩
                    refine ⟨fun c14 => ?_, fun c14 => ?_⟩
                    · skip
                      exact hpost _ _ (iv_w (iv_lit (l := (-1)) (h := (-1)) (by decide)) (by decide)) k_o13
                    · skip
                      exact hpost _ _ (iv_w (iv_lta (l := 0) (h := 999) (r_nle c14) (k_o13 _) (iv_lit (l := 1000) (h := 1000) (by decide)) (by decide)) (by decide)) k_o13
                  · skip
                    exact (iv_emp (iv_eqa (l := 1) (h := 0) c12 (iv_lit (l := 1) (h := 1) (by decide)) (iv_lit (l := 0) (h := 0) (by decide)) (by decide)) (by decide)).elim
      · skip
        refine ⟨fun h => absurd h (by decide), fun _ => ?_, fun h0 h1 => absurd rfl h1⟩
        refine ⟨fun c15 => ?_, fun c15 => ?_⟩
        · skip
          refine ⟨fun c16 => ?_, fun c16 => ?_⟩
          · skip
            exact hpost _ _ (iv_w (iv_lit (l := (-1)) (h := (-1)) (by decide)) (by decide)) k_pa_heard
          · skip
            exact (iv_emp (iv_ne (l := 1) (h := 0) c16 (iv_lit (l := 0) (h := 0) (by decide)) (iv_lit (l := 0) (h := 0) (by decide)) (by decide)) (by decide)).elim
        · skip
          refine ⟨fun c17 => ?_, fun c17 => ?_⟩
          · skip
            refine ⟨fun c18 => ?_, fun c18 => ?_⟩
            · skip
              exact hpost _ _ (iv_w (iv_lit (l := (-1)) (h := (-1)) (by decide)) (by decide)) k_pa_heard
            · skip
              exact (iv_emp (iv_ne (l := 1) (h := 0) c18 (iv_lit (l := 0) (h := 0) (by decide)) (iv_lit (l := 0) (h := 0) (by decide)) (by decide)) (by decide)).elim
          · skip
            refine ⟨fun c19 => ?_, fun c19 => ?_⟩
            · skip
              exact (iv_emp (iv_eqa (l := 1) (h := 0) c19 (iv_lit (l := 1) (h := 1) (by decide)) (iv_lit (l := 0) (h := 0) (by decide)) (by decide)) (by decide)).elim
            · skip
              refine ⟨fun c20 => ?_, fun c20 => ?_⟩
              · skip
                refine ⟨fun c21 => ?_, fun c21 => ?_⟩
                · skip
                  exact (iv_emp (iv_ne (l := 1) (h := 0) c21 (iv_lit (l := 0) (h := 0) (by decide)) (iv_lit (l := 0) (h := 0) (by decide)) (by decide)) (by decide)).elim
                · skip
                  exact hpost _ _ (iv_w (iv_lit (l := (-1)) (h := (-1)) (by decide)) (by decide)) k_pa_heard
              · skip
                refine ⟨fun c22 => ?_, fun c22 => ?_⟩
                · skip
                  refine ⟨fun c23 => ?_, fun c23 => ?_⟩
                  · skip
                    exact (iv_emp (iv_ne (l := 1) (h := 0) c23 (iv_lit (l := 0) (h := 0) (by decide)) (iv_lit (l := 0) (h := 0) (by decide)) (by decide)) (by decide)).elim
                  · skip
                    exact hpost _ _ (iv_w (iv_lit (l := (-1)) (h := (-1)) (by decide)) (by decide)) k_pa_heard
                · skip
                  refine ⟨fun c24 => ?_, fun c24 => ?_⟩
                  · skip
                    refine s_wp_X7_hear_9_0 k_pa_heard (iv_w (iv_ltb (l := 1) (h := 9) (r_nle c17) (iv_leb (l := 0) (h := 2147483647) (r_nlt c15) (iv_lit (l := 0) (h := 0) (by decide)) (iv_top x2) (by decide)) k_tl1f_huts (by decide)) (by decide)) k_tl1f_dams k_tl1f_echoes k_tl1a_heights k_tl1a_minutes k_tl1a_echoFrom k_tl1a_echoTo (fun o25 k_o25 => ?_)
                    refine ⟨iv_in (iv_add (l := 0) (h := 80) (iv_mul (l := 0) (h := 72) (iv_lta (l := 0) (h := 8) (r_nle c17) (iv_leb (l := 0) (h := 2147483647) (r_nlt c15) (iv_lit (l := 0) (h := 0) (by decide)) (iv_top x2) (by decide)) k_tl1f_huts (by decide)) (iv_lit (l := 9) (h := 9) (by decide)) (by decide)) (iv_lta (l := 0) (h := 8) (r_nle c22) (iv_leb (l := 0) (h := 2147483647) (r_nlt c20) (iv_lit (l := 0) (h := 0) (by decide)) (iv_top x3) (by decide)) (iv_ltb (l := 1) (h := 9) (r_nle c17) (iv_leb (l := 0) (h := 2147483647) (r_nlt c15) (iv_lit (l := 0) (h := 0) (by decide)) (iv_top x2) (by decide)) k_tl1f_huts (by decide)) (by decide)) (by decide)) (by decide), ?_⟩
                    refine ⟨fun c26 => ?_, fun c26 => ?_⟩
                    · skip
                      exact hpost _ _ (iv_w (iv_lit (l := (-1)) (h := (-1)) (by decide)) (by decide)) k_o25
                    · skip
                      exact hpost _ _ (iv_w (iv_lta (l := 0) (h := 999) (r_nle c26) (k_o25 _) (iv_lit (l := 1000) (h := 1000) (by decide)) (by decide)) (by decide)) k_o25
                  · skip
                    exact (iv_emp (iv_eqa (l := 1) (h := 0) c24 (iv_lit (l := 1) (h := 1) (by decide)) (iv_lit (l := 0) (h := 0) (by decide)) (by decide)) (by decide)).elim
-- wx_X10_villages
set_option maxRecDepth 20000 in
theorem s_wx_X10_villages_0 {ta_counts : Nat → Int32} {tl0f_huts : Int32} {tl0f_villages : Int32} {tl0f_dams : Int32} {tl0f_echoes : Int32} {tl0a_heights : Nat → Int32} {tl0a_minutes : Nat → Int32} {tl0a_echoFrom : Nat → Int32} {tl0a_echoTo : Nat → Int32} {tl1f_huts : Int32} {tl1f_villages : Int32} {tl1f_dams : Int32} {tl1f_echoes : Int32} {tl1a_heights : Nat → Int32} {tl1a_minutes : Nat → Int32} {tl1a_echoFrom : Nat → Int32} {tl1a_echoTo : Nat → Int32} {pa_heard : Nat → Int32} {pa_cover : Nat → Int32} {x1 : Int32} {x2 : Int32} {x3 : Int32} {post : Int32 → (Nat → Int32) → (Nat → Int32) → Prop} (k_ta_counts : ∀ j, iv 0 2 (ta_counts j)) (k_tl0f_huts : iv 0 9 tl0f_huts) (k_tl0f_villages : iv 0 511 tl0f_villages) (k_tl0f_dams : iv 0 511 tl0f_dams) (k_tl0f_echoes : iv 0 4 tl0f_echoes) (k_tl0a_heights : ∀ j, iv 0 99 (tl0a_heights j)) (k_tl0a_minutes : ∀ j, iv 0 9 (tl0a_minutes j)) (k_tl0a_echoFrom : ∀ j, iv 0 8 (tl0a_echoFrom j)) (k_tl0a_echoTo : ∀ j, iv 0 8 (tl0a_echoTo j)) (k_tl1f_huts : iv 0 9 tl1f_huts) (k_tl1f_villages : iv 0 511 tl1f_villages) (k_tl1f_dams : iv 0 511 tl1f_dams) (k_tl1f_echoes : iv 0 4 tl1f_echoes) (k_tl1a_heights : ∀ j, iv 0 99 (tl1a_heights j)) (k_tl1a_minutes : ∀ j, iv 0 9 (tl1a_minutes j)) (k_tl1a_echoFrom : ∀ j, iv 0 8 (tl1a_echoFrom j)) (k_tl1a_echoTo : ∀ j, iv 0 8 (tl1a_echoTo j)) (k_pa_heard : ∀ j, iv 0 1000 (pa_heard j)) (k_pa_cover : ∀ j, iv 0 511 (pa_cover j)) (hpost : ∀ (r : Int32) (pa_heard : Nat → Int32) (pa_cover : Nat → Int32), iv (-2) 2147483647 r → (∀ j, iv 0 1000 (pa_heard j)) → (∀ j, iv 0 511 (pa_cover j)) → post r pa_heard pa_cover) : q_wx_X10_villages_0 ta_counts tl0f_huts tl0f_villages tl0f_dams tl0f_echoes tl0a_heights tl0a_minutes tl0a_echoFrom tl0a_echoTo tl1f_huts tl1f_villages tl1f_dams tl1f_echoes tl1a_heights tl1a_minutes tl1a_echoFrom tl1a_echoTo pa_heard pa_cover x1 x2 x3 post := by
  refine ⟨fun c1 => ?_, fun c1 => ?_⟩
  · skip
    refine ⟨fun _ => ?_, fun h => absurd h (by decide), fun h0 h1 => absurd rfl h0⟩
    exact hpost _ _ _ (iv_w (iv_lit (l := (-2)) (h := (-2)) (by decide)) (by decide)) k_pa_heard k_pa_cover
  · skip
    refine ⟨fun c2 => ?_, fun c2 => ?_⟩
    · skip
      refine ⟨fun _ => ?_, fun h => absurd h (by decide), fun h0 h1 => absurd rfl h0⟩
      exact hpost _ _ _ (iv_w (iv_lit (l := (-2)) (h := (-2)) (by decide)) (by decide)) k_pa_heard k_pa_cover
    · skip
      refine ⟨iv_in (iv_lta (l := 0) (h := 1) (r_nle c2) (iv_leb (l := 0) (h := 2147483647) (r_nlt c1) (iv_lit (l := 0) (h := 0) (by decide)) (iv_top x1) (by decide)) (k_ta_counts _) (by decide)) (by decide), fun hc => ?_, fun hc => ?_⟩
      · skip
        refine ⟨fun h => absurd h (by decide), fun h => absurd h (by decide), fun h0 h1 => ?_⟩
        refine ⟨fun c3 => ?_, fun c3 => ?_⟩
        · skip
          exact hpost _ _ _ (iv_w (iv_lit (l := (-2)) (h := (-2)) (by decide)) (by decide)) k_pa_heard k_pa_cover
        · skip
          refine ⟨fun c4 => ?_, fun c4 => ?_⟩
          · skip
            exact hpost _ _ _ (iv_w (iv_lit (l := (-2)) (h := (-2)) (by decide)) (by decide)) k_pa_heard k_pa_cover
          · skip
            refine ⟨fun c5 => ?_, fun c5 => ?_⟩
            · skip
              exact hpost _ _ _ (iv_w (iv_lit (l := (-2)) (h := (-2)) (by decide)) (by decide)) k_pa_heard k_pa_cover
            · skip
              refine ⟨fun c6 => ?_, fun c6 => ?_⟩
              · skip
                refine s_wp_X7_hear_9_0 k_pa_heard k_tl0f_huts k_tl0f_dams k_tl0f_echoes k_tl0a_heights k_tl0a_minutes k_tl0a_echoFrom k_tl0a_echoTo (fun o7 k_o7 => ?_)
                refine ⟨fun c8 => ?_, fun c8 => ?_⟩
                · skip
                  refine s_wp_X7_coverBy_1_0 k_o7 k_pa_cover k_tl0f_huts (iv_lea (l := 0) (h := 99) (r_nlt c4) (iv_leb (l := 0) (h := 2147483647) (r_nlt c3) (iv_lit (l := 0) (h := 0) (by decide)) (iv_top x2) (by decide)) (iv_lit (l := 99) (h := 99) (by decide)) (by decide)) (fun o9 k_o9 => ?_)
                  refine s_wp_X7_fewestCovering_0 k_o9 k_tl0f_villages k_tl0f_huts (fun r10 hr10 => ?_)
                  exact hpost _ _ _ (iv_w hr10 (by decide)) k_o7 k_o9
                · skip
                  refine s_wp_X7_allBy_9_0 k_o7 k_tl0f_huts k_tl0f_villages k_tl0f_dams (iv_lea (l := 0) (h := 99) (r_nlt c4) (iv_leb (l := 0) (h := 2147483647) (r_nlt c3) (iv_lit (l := 0) (h := 0) (by decide)) (iv_top x2) (by decide)) (iv_lit (l := 99) (h := 99) (by decide)) (by decide)) (fun r11 hr11 => ?_)
                  exact hpost _ _ _ (iv_w hr11 (by decide)) k_o7 k_pa_cover
              · skip
                exact hpost _ _ _ (iv_w (iv_lit (l := (-2)) (h := (-2)) (by decide)) (by decide)) k_pa_heard k_pa_cover
      · skip
        refine ⟨fun h => absurd h (by decide), fun _ => ?_, fun h0 h1 => absurd rfl h1⟩
        refine ⟨fun c12 => ?_, fun c12 => ?_⟩
        · skip
          exact hpost _ _ _ (iv_w (iv_lit (l := (-2)) (h := (-2)) (by decide)) (by decide)) k_pa_heard k_pa_cover
        · skip
          refine ⟨fun c13 => ?_, fun c13 => ?_⟩
          · skip
            exact hpost _ _ _ (iv_w (iv_lit (l := (-2)) (h := (-2)) (by decide)) (by decide)) k_pa_heard k_pa_cover
          · skip
            refine ⟨fun c14 => ?_, fun c14 => ?_⟩
            · skip
              exact hpost _ _ _ (iv_w (iv_lit (l := (-2)) (h := (-2)) (by decide)) (by decide)) k_pa_heard k_pa_cover
            · skip
              refine ⟨fun c15 => ?_, fun c15 => ?_⟩
              · skip
                refine s_wp_X7_hear_9_0 k_pa_heard k_tl1f_huts k_tl1f_dams k_tl1f_echoes k_tl1a_heights k_tl1a_minutes k_tl1a_echoFrom k_tl1a_echoTo (fun o16 k_o16 => ?_)
                refine ⟨fun c17 => ?_, fun c17 => ?_⟩
                · skip
                  refine s_wp_X7_coverBy_1_0 k_o16 k_pa_cover k_tl1f_huts (iv_lea (l := 0) (h := 99) (r_nlt c13) (iv_leb (l := 0) (h := 2147483647) (r_nlt c12) (iv_lit (l := 0) (h := 0) (by decide)) (iv_top x2) (by decide)) (iv_lit (l := 99) (h := 99) (by decide)) (by decide)) (fun o18 k_o18 => ?_)
                  refine s_wp_X7_fewestCovering_0 k_o18 k_tl1f_villages k_tl1f_huts (fun r19 hr19 => ?_)
                  exact hpost _ _ _ (iv_w hr19 (by decide)) k_o16 k_o18
                · skip
                  refine s_wp_X7_allBy_9_0 k_o16 k_tl1f_huts k_tl1f_villages k_tl1f_dams (iv_lea (l := 0) (h := 99) (r_nlt c13) (iv_leb (l := 0) (h := 2147483647) (r_nlt c12) (iv_lit (l := 0) (h := 0) (by decide)) (iv_top x2) (by decide)) (iv_lit (l := 99) (h := 99) (by decide)) (by decide)) (fun r20 hr20 => ?_)
                  exact hpost _ _ _ (iv_w hr20 (by decide)) k_o16 k_pa_cover
              · skip
                exact hpost _ _ _ (iv_w (iv_lit (l := (-2)) (h := (-2)) (by decide)) (by decide)) k_pa_heard k_pa_cover
-- wx_X10_best
set_option maxRecDepth 20000 in
theorem s_wx_X10_best_40 {ta_counts : Nat → Int32} {tl0f_huts : Int32} {tl0f_villages : Int32} {tl0f_dams : Int32} {tl0f_echoes : Int32} {tl0a_heights : Nat → Int32} {tl0a_minutes : Nat → Int32} {tl0a_echoFrom : Nat → Int32} {tl0a_echoTo : Nat → Int32} {tl1f_huts : Int32} {tl1f_villages : Int32} {tl1f_dams : Int32} {tl1f_echoes : Int32} {tl1a_heights : Nat → Int32} {tl1a_minutes : Nat → Int32} {tl1a_echoFrom : Nat → Int32} {tl1a_echoTo : Nat → Int32} {pa_heard : Nat → Int32} {x4 : Int32} {post : Int32 → (Nat → Int32) → Prop} (k_ta_counts : ∀ j, iv 0 2 (ta_counts j)) (k_tl0f_huts : iv 0 9 tl0f_huts) (k_tl0f_villages : iv 0 511 tl0f_villages) (k_tl0f_dams : iv 0 511 tl0f_dams) (k_tl0f_echoes : iv 0 4 tl0f_echoes) (k_tl0a_heights : ∀ j, iv 0 99 (tl0a_heights j)) (k_tl0a_minutes : ∀ j, iv 0 9 (tl0a_minutes j)) (k_tl0a_echoFrom : ∀ j, iv 0 8 (tl0a_echoFrom j)) (k_tl0a_echoTo : ∀ j, iv 0 8 (tl0a_echoTo j)) (k_tl1f_huts : iv 0 9 tl1f_huts) (k_tl1f_villages : iv 0 511 tl1f_villages) (k_tl1f_dams : iv 0 511 tl1f_dams) (k_tl1f_echoes : iv 0 4 tl1f_echoes) (k_tl1a_heights : ∀ j, iv 0 99 (tl1a_heights j)) (k_tl1a_minutes : ∀ j, iv 0 9 (tl1a_minutes j)) (k_tl1a_echoFrom : ∀ j, iv 0 8 (tl1a_echoFrom j)) (k_tl1a_echoTo : ∀ j, iv 0 8 (tl1a_echoTo j)) (k_pa_heard : ∀ j, iv 0 1000 (pa_heard j)) (hx4 : iv (-1) 8 x4) (hpost : ∀ (r : Int32) (pa_heard : Nat → Int32), iv (-1) 1000 r → (∀ j, iv 0 1000 (pa_heard j)) → post r pa_heard) : q_wx_X10_best_40 ta_counts tl0f_huts tl0f_villages tl0f_dams tl0f_echoes tl0a_heights tl0a_minutes tl0a_echoFrom tl0a_echoTo tl1f_huts tl1f_villages tl1f_dams tl1f_echoes tl1a_heights tl1a_minutes tl1a_echoFrom tl1a_echoTo pa_heard x4 post := by
  exact hpost _ _ (iv_w hx4 (by decide)) k_pa_heard
set_option maxRecDepth 20000 in
theorem s_wx_X10_best_0 {ta_counts : Nat → Int32} {tl0f_huts : Int32} {tl0f_villages : Int32} {tl0f_dams : Int32} {tl0f_echoes : Int32} {tl0a_heights : Nat → Int32} {tl0a_minutes : Nat → Int32} {tl0a_echoFrom : Nat → Int32} {tl0a_echoTo : Nat → Int32} {tl1f_huts : Int32} {tl1f_villages : Int32} {tl1f_dams : Int32} {tl1f_echoes : Int32} {tl1a_heights : Nat → Int32} {tl1a_minutes : Nat → Int32} {tl1a_echoFrom : Nat → Int32} {tl1a_echoTo : Nat → Int32} {pa_heard : Nat → Int32} {x1 : Int32} {x2 : Int32} {post : Int32 → (Nat → Int32) → Prop} (k_ta_counts : ∀ j, iv 0 2 (ta_counts j)) (k_tl0f_huts : iv 0 9 tl0f_huts) (k_tl0f_villages : iv 0 511 tl0f_villages) (k_tl0f_dams : iv 0 511 tl0f_dams) (k_tl0f_echoes : iv 0 4 tl0f_echoes) (k_tl0a_heights : ∀ j, iv 0 99 (tl0a_heights j)) (k_tl0a_minutes : ∀ j, iv 0 9 (tl0a_minutes j)) (k_tl0a_echoFrom : ∀ j, iv 0 8 (tl0a_echoFrom j)) (k_tl0a_echoTo : ∀ j, iv 0 8 (tl0a_echoTo j)) (k_tl1f_huts : iv 0 9 tl1f_huts) (k_tl1f_villages : iv 0 511 tl1f_villages) (k_tl1f_dams : iv 0 511 tl1f_dams) (k_tl1f_echoes : iv 0 4 tl1f_echoes) (k_tl1a_heights : ∀ j, iv 0 99 (tl1a_heights j)) (k_tl1a_minutes : ∀ j, iv 0 9 (tl1a_minutes j)) (k_tl1a_echoFrom : ∀ j, iv 0 8 (tl1a_echoFrom j)) (k_tl1a_echoTo : ∀ j, iv 0 8 (tl1a_echoTo j)) (k_pa_heard : ∀ j, iv 0 1000 (pa_heard j)) (hpost : ∀ (r : Int32) (pa_heard : Nat → Int32), iv (-1) 1000 r → (∀ j, iv 0 1000 (pa_heard j)) → post r pa_heard) : q_wx_X10_best_0 ta_counts tl0f_huts tl0f_villages tl0f_dams tl0f_echoes tl0a_heights tl0a_minutes tl0a_echoFrom tl0a_echoTo tl1f_huts tl1f_villages tl1f_dams tl1f_echoes tl1a_heights tl1a_minutes tl1a_echoFrom tl1a_echoTo pa_heard x1 x2 post := by
  refine ⟨fun c1 => ?_, fun c1 => ?_⟩
  · skip
    refine ⟨fun _ => ?_, fun h => absurd h (by decide), fun h0 h1 => absurd rfl h0⟩
    exact hpost _ _ (iv_w (iv_lit (l := (-1)) (h := (-1)) (by decide)) (by decide)) k_pa_heard
  · skip
    refine ⟨fun c2 => ?_, fun c2 => ?_⟩
    · skip
      refine ⟨fun _ => ?_, fun h => absurd h (by decide), fun h0 h1 => absurd rfl h0⟩
      exact hpost _ _ (iv_w (iv_lit (l := (-1)) (h := (-1)) (by decide)) (by decide)) k_pa_heard
    · skip
      refine ⟨iv_in (iv_lta (l := 0) (h := 1) (r_nle c2) (iv_leb (l := 0) (h := 2147483647) (r_nlt c1) (iv_lit (l := 0) (h := 0) (by decide)) (iv_top x1) (by decide)) (k_ta_counts _) (by decide)) (by decide), fun hc => ?_, fun hc => ?_⟩
      · skip
        refine ⟨fun h => absurd h (by decide), fun h => absurd h (by decide), fun h0 h1 => ?_⟩
        refine s_wp_X7_hear_9_0 k_pa_heard k_tl0f_huts k_tl0f_dams k_tl0f_echoes k_tl0a_heights k_tl0a_minutes k_tl0a_echoFrom k_tl0a_echoTo (fun o3 k_o3 => ?_)
        refine s_wp_X7_bestHut_9_0 k_o3 k_tl0f_huts k_tl0f_villages k_tl0f_dams (fun r4 hr4 => ?_)
        refine ⟨fun c5 => ?_, fun c5 => ?_⟩
        · skip
          exact s_wx_X10_best_40 k_ta_counts k_tl0f_huts k_tl0f_villages k_tl0f_dams k_tl0f_echoes k_tl0a_heights k_tl0a_minutes k_tl0a_echoFrom k_tl0a_echoTo k_tl1f_huts k_tl1f_villages k_tl1f_dams k_tl1f_echoes k_tl1a_heights k_tl1a_minutes k_tl1a_echoFrom k_tl1a_echoTo k_o3 (iv_w (iv_eqa (l := (-1)) (h := (-1)) c5 hr4 (iv_lit (l := (-1)) (h := (-1)) (by decide)) (by decide)) (by decide)) hpost
        · skip
          refine ⟨fun c6 => ?_, fun c6 => ?_⟩
          · skip
            refine s_wp_X7_lastVillage_9_0 k_o3 k_tl0f_huts k_tl0f_villages k_tl0f_dams (iv_ne (l := 0) (h := 8) c5 hr4 (iv_lit (l := (-1)) (h := (-1)) (by decide)) (by decide)) (fun r7 hr7 => ?_)
            exact hpost _ _ (iv_w hr7 (by decide)) k_o3
          · skip
            exact s_wx_X10_best_40 k_ta_counts k_tl0f_huts k_tl0f_villages k_tl0f_dams k_tl0f_echoes k_tl0a_heights k_tl0a_minutes k_tl0a_echoFrom k_tl0a_echoTo k_tl1f_huts k_tl1f_villages k_tl1f_dams k_tl1f_echoes k_tl1a_heights k_tl1a_minutes k_tl1a_echoFrom k_tl1a_echoTo k_o3 (iv_w (iv_ne (l := 0) (h := 8) c5 hr4 (iv_lit (l := (-1)) (h := (-1)) (by decide)) (by decide)) (by decide)) hpost
      · skip
        refine ⟨fun h => absurd h (by decide), fun _ => ?_, fun h0 h1 => absurd rfl h1⟩
        refine s_wp_X7_hear_9_0 k_pa_heard k_tl1f_huts k_tl1f_dams k_tl1f_echoes k_tl1a_heights k_tl1a_minutes k_tl1a_echoFrom k_tl1a_echoTo (fun o8 k_o8 => ?_)
        refine s_wp_X7_bestHut_9_0 k_o8 k_tl1f_huts k_tl1f_villages k_tl1f_dams (fun r9 hr9 => ?_)
        refine ⟨fun c10 => ?_, fun c10 => ?_⟩
        · skip
          exact s_wx_X10_best_40 k_ta_counts k_tl0f_huts k_tl0f_villages k_tl0f_dams k_tl0f_echoes k_tl0a_heights k_tl0a_minutes k_tl0a_echoFrom k_tl0a_echoTo k_tl1f_huts k_tl1f_villages k_tl1f_dams k_tl1f_echoes k_tl1a_heights k_tl1a_minutes k_tl1a_echoFrom k_tl1a_echoTo k_o8 (iv_w (iv_eqa (l := (-1)) (h := (-1)) c10 hr9 (iv_lit (l := (-1)) (h := (-1)) (by decide)) (by decide)) (by decide)) hpost
        · skip
          refine ⟨fun c11 => ?_, fun c11 => ?_⟩
          · skip
            refine s_wp_X7_lastVillage_9_0 k_o8 k_tl1f_huts k_tl1f_villages k_tl1f_dams (iv_ne (l := 0) (h := 8) c10 hr9 (iv_lit (l := (-1)) (h := (-1)) (by decide)) (by decide)) (fun r12 hr12 => ?_)
            exact hpost _ _ (iv_w hr12 (by decide)) k_o8
          · skip
            exact s_wx_X10_best_40 k_ta_counts k_tl0f_huts k_tl0f_villages k_tl0f_dams k_tl0f_echoes k_tl0a_heights k_tl0a_minutes k_tl0a_echoFrom k_tl0a_echoTo k_tl1f_huts k_tl1f_villages k_tl1f_dams k_tl1f_echoes k_tl1a_heights k_tl1a_minutes k_tl1a_echoFrom k_tl1a_echoTo k_o8 (iv_w (iv_ne (l := 0) (h := 8) c10 hr9 (iv_lit (l := (-1)) (h := (-1)) (by decide)) (by decide)) (by decide)) hpost
end
section
-- wx_X10_routes
set_option maxRecDepth 20000 in
theorem s_wx_X10_routes_0 {ta_counts : Nat → Int32} {tl0f_huts : Int32} {tl0f_dams : Int32} {tl0a_heights : Nat → Int32} {tl0a_minutes : Nat → Int32} {tl1f_huts : Int32} {tl1f_dams : Int32} {tl1a_heights : Nat → Int32} {tl1a_minutes : Nat → Int32} {pa_total : Nat → Int32} {pa_longest : Nat → Int32} {pa_now : Nat → Int32} {pa_then : Nat → Int32} {x1 : Int32} {x2 : Int32} {x3 : Int32} {x4 : Int32} {post : Int32 → (Nat → Int32) → (Nat → Int32) → (Nat → Int32) → (Nat → Int32) → Prop} (k_ta_counts : ∀ j, iv 0 2 (ta_counts j)) (k_tl0f_huts : iv 0 9 tl0f_huts) (k_tl0f_dams : iv 0 511 tl0f_dams) (k_tl0a_heights : ∀ j, iv 0 99 (tl0a_heights j)) (k_tl0a_minutes : ∀ j, iv 0 9 (tl0a_minutes j)) (k_tl1f_huts : iv 0 9 tl1f_huts) (k_tl1f_dams : iv 0 511 tl1f_dams) (k_tl1a_heights : ∀ j, iv 0 99 (tl1a_heights j)) (k_tl1a_minutes : ∀ j, iv 0 9 (tl1a_minutes j)) (k_pa_longest : ∀ j, iv 0 8 (pa_longest j)) (hpost : ∀ (r : Int32) (pa_total : Nat → Int32) (pa_longest : Nat → Int32) (pa_now : Nat → Int32) (pa_then : Nat → Int32), (∀ j, iv 0 8 (pa_longest j)) → post r pa_total pa_longest pa_now pa_then) : q_wx_X10_routes_0 ta_counts tl0f_huts tl0f_dams tl0a_heights tl0a_minutes tl1f_huts tl1f_dams tl1a_heights tl1a_minutes pa_total pa_longest pa_now pa_then x1 x2 x3 x4 post := by
  refine ⟨fun c1 => ?_, fun c1 => ?_⟩
  · skip
    refine ⟨fun _ => ?_, fun h => absurd h (by decide), fun h0 h1 => absurd rfl h0⟩
    exact hpost _ _ _ _ _ k_pa_longest
  · skip
    refine ⟨fun c2 => ?_, fun c2 => ?_⟩
    · skip
      refine ⟨fun _ => ?_, fun h => absurd h (by decide), fun h0 h1 => absurd rfl h0⟩
      exact hpost _ _ _ _ _ k_pa_longest
    · skip
      refine ⟨iv_in (iv_lta (l := 0) (h := 1) (r_nle c2) (iv_leb (l := 0) (h := 2147483647) (r_nlt c1) (iv_lit (l := 0) (h := 0) (by decide)) (iv_top x1) (by decide)) (k_ta_counts _) (by decide)) (by decide), fun hc => ?_, fun hc => ?_⟩
      · skip
        refine ⟨fun h => absurd h (by decide), fun h => absurd h (by decide), fun h0 h1 => ?_⟩
        refine ⟨fun c3 => ?_, fun c3 => ?_⟩
        · skip
          refine ⟨fun c4 => ?_, fun c4 => ?_⟩
          · skip
            exact hpost _ _ _ _ _ k_pa_longest
          · skip
            exact (iv_emp (iv_ne (l := 1) (h := 0) c4 (iv_lit (l := 0) (h := 0) (by decide)) (iv_lit (l := 0) (h := 0) (by decide)) (by decide)) (by decide)).elim
        · skip
          refine ⟨fun c5 => ?_, fun c5 => ?_⟩
          · skip
            refine ⟨fun c6 => ?_, fun c6 => ?_⟩
            · skip
              exact hpost _ _ _ _ _ k_pa_longest
            · skip
              exact (iv_emp (iv_ne (l := 1) (h := 0) c6 (iv_lit (l := 0) (h := 0) (by decide)) (iv_lit (l := 0) (h := 0) (by decide)) (by decide)) (by decide)).elim
          · skip
            refine ⟨fun c7 => ?_, fun c7 => ?_⟩
            · skip
              exact (iv_emp (iv_eqa (l := 1) (h := 0) c7 (iv_lit (l := 1) (h := 1) (by decide)) (iv_lit (l := 0) (h := 0) (by decide)) (by decide)) (by decide)).elim
            · skip
              refine ⟨fun c8 => ?_, fun c8 => ?_⟩
              · skip
                refine ⟨fun c9 => ?_, fun c9 => ?_⟩
                · skip
                  exact hpost _ _ _ _ _ k_pa_longest
                · skip
                  exact (iv_emp (iv_ne (l := 1) (h := 0) c9 (iv_lit (l := 0) (h := 0) (by decide)) (iv_lit (l := 0) (h := 0) (by decide)) (by decide)) (by decide)).elim
              · skip
                refine ⟨fun c10 => ?_, fun c10 => ?_⟩
                · skip
                  refine ⟨fun c11 => ?_, fun c11 => ?_⟩
                  · skip
                    exact hpost _ _ _ _ _ k_pa_longest
                  · skip
                    exact (iv_emp (iv_ne (l := 1) (h := 0) c11 (iv_lit (l := 0) (h := 0) (by decide)) (iv_lit (l := 0) (h := 0) (by decide)) (by decide)) (by decide)).elim
                · skip
                  refine ⟨fun c12 => ?_, fun c12 => ?_⟩
                  · skip
                    exact (iv_emp (iv_eqa (l := 1) (h := 0) c12 (iv_lit (l := 1) (h := 1) (by decide)) (iv_lit (l := 0) (h := 0) (by decide)) (by decide)) (by decide)).elim
                  · skip
                    refine ⟨fun c13 => ?_, fun c13 => ?_⟩
                    · skip
                      exact hpost _ _ _ _ _ k_pa_longest
                    · skip
                      refine ⟨fun c14 => ?_, fun c14 => ?_⟩
                      · skip
                        exact hpost _ _ _ _ _ k_pa_longest
                      · skip
                        refine ⟨fun c15 => ?_, fun c15 => ?_⟩
                        · skip
                          refine s_wp_X7_trace_9_0 k_pa_longest (iv_ltb (l := 1) (h := 9) (r_nle c5) (iv_leb (l := 0) (h := 2147483647) (r_nlt c3) (iv_lit (l := 0) (h := 0) (by decide)) (iv_top x2) (by decide)) k_tl0f_huts (by decide)) k_tl0f_dams k_tl0a_heights k_tl0a_minutes (iv_lta (l := 0) (h := 8) (r_nle c5) (iv_leb (l := 0) (h := 2147483647) (r_nlt c3) (iv_lit (l := 0) (h := 0) (by decide)) (iv_top x2) (by decide)) k_tl0f_huts (by decide)) (fun o16 o17 o18 o19 k_o17 => ?_)
                          refine ⟨fun c20 => ?_, fun c20 => ?_⟩
                          · skip
                            refine ⟨iv_in (iv_lta (l := 0) (h := 8) (r_nle c10) (iv_leb (l := 0) (h := 2147483647) (r_nlt c8) (iv_lit (l := 0) (h := 0) (by decide)) (iv_top x3) (by decide)) (iv_ltb (l := 1) (h := 9) (r_nle c5) (iv_leb (l := 0) (h := 2147483647) (r_nlt c3) (iv_lit (l := 0) (h := 0) (by decide)) (iv_top x2) (by decide)) k_tl0f_huts (by decide)) (by decide)) (by decide), ?_⟩
                            refine ⟨fun c21 => ?_, fun c21 => ?_⟩
                            · skip
                              refine ⟨fun c22 => ?_, fun c22 => ?_⟩
                              · skip
                                refine s_wp_X7_steepest_9_0 (iv_ltb (l := 1) (h := 9) (r_nle c5) (iv_leb (l := 0) (h := 2147483647) (r_nlt c3) (iv_lit (l := 0) (h := 0) (by decide)) (iv_top x2) (by decide)) k_tl0f_huts (by decide)) k_tl0f_dams k_tl0a_heights k_tl0a_minutes (iv_lta (l := 0) (h := 8) (r_nle c5) (iv_leb (l := 0) (h := 2147483647) (r_nlt c3) (iv_lit (l := 0) (h := 0) (by decide)) (iv_top x2) (by decide)) k_tl0f_huts (by decide)) (iv_lta (l := 0) (h := 8) (r_nle c10) (iv_leb (l := 0) (h := 2147483647) (r_nlt c8) (iv_lit (l := 0) (h := 0) (by decide)) (iv_top x3) (by decide)) (iv_ltb (l := 1) (h := 9) (r_nle c5) (iv_leb (l := 0) (h := 2147483647) (r_nlt c3) (iv_lit (l := 0) (h := 0) (by decide)) (iv_top x2) (by decide)) k_tl0f_huts (by decide)) (by decide)) (fun r23 o24 => ?_)
                                exact hpost _ _ _ _ _ k_o17
                              · skip
                                refine ⟨iv_in (iv_lta (l := 0) (h := 8) (r_nle c10) (iv_leb (l := 0) (h := 2147483647) (r_nlt c8) (iv_lit (l := 0) (h := 0) (by decide)) (iv_top x3) (by decide)) (iv_ltb (l := 1) (h := 9) (r_nle c5) (iv_leb (l := 0) (h := 2147483647) (r_nlt c3) (iv_lit (l := 0) (h := 0) (by decide)) (iv_top x2) (by decide)) k_tl0f_huts (by decide)) (by decide)) (by decide), ?_⟩
                                exact hpost _ _ _ _ _ k_o17
                            · skip
                              exact hpost _ _ _ _ _ k_o17
                          · skip
                            refine ⟨iv_in (iv_lta (l := 0) (h := 8) (r_nle c10) (iv_leb (l := 0) (h := 2147483647) (r_nlt c8) (iv_lit (l := 0) (h := 0) (by decide)) (iv_top x3) (by decide)) (iv_ltb (l := 1) (h := 9) (r_nle c5) (iv_leb (l := 0) (h := 2147483647) (r_nlt c3) (iv_lit (l := 0) (h := 0) (by decide)) (iv_top x2) (by decide)) k_tl0f_huts (by decide)) (by decide)) (by decide), ?_⟩
                            exact hpost _ _ _ _ _ k_o17
                        · skip
                          exact hpost _ _ _ _ _ k_pa_longest
      · skip
        refine ⟨fun h => absurd h (by decide), fun _ => ?_, fun h0 h1 => absurd rfl h1⟩
        refine ⟨fun c25 => ?_, fun c25 => ?_⟩
        · skip
          refine ⟨fun c26 => ?_, fun c26 => ?_⟩
          · skip
            exact hpost _ _ _ _ _ k_pa_longest
          · skip
            exact (iv_emp (iv_ne (l := 1) (h := 0) c26 (iv_lit (l := 0) (h := 0) (by decide)) (iv_lit (l := 0) (h := 0) (by decide)) (by decide)) (by decide)).elim
        · skip
          refine ⟨fun c27 => ?_, fun c27 => ?_⟩
          · skip
            refine ⟨fun c28 => ?_, fun c28 => ?_⟩
            · skip
              exact hpost _ _ _ _ _ k_pa_longest
            · skip
              exact (iv_emp (iv_ne (l := 1) (h := 0) c28 (iv_lit (l := 0) (h := 0) (by decide)) (iv_lit (l := 0) (h := 0) (by decide)) (by decide)) (by decide)).elim
          · skip
            refine ⟨fun c29 => ?_, fun c29 => ?_⟩
            · skip
              exact (iv_emp (iv_eqa (l := 1) (h := 0) c29 (iv_lit (l := 1) (h := 1) (by decide)) (iv_lit (l := 0) (h := 0) (by decide)) (by decide)) (by decide)).elim
            · skip
              refine ⟨fun c30 => ?_, fun c30 => ?_⟩
              · skip
                refine ⟨fun c31 => ?_, fun c31 => ?_⟩
                · skip
                  exact hpost _ _ _ _ _ k_pa_longest
                · skip
                  exact (iv_emp (iv_ne (l := 1) (h := 0) c31 (iv_lit (l := 0) (h := 0) (by decide)) (iv_lit (l := 0) (h := 0) (by decide)) (by decide)) (by decide)).elim
              · skip
                refine ⟨fun c32 => ?_, fun c32 => ?_⟩
                · skip
                  refine ⟨fun c33 => ?_, fun c33 => ?_⟩
                  · skip
                    exact hpost _ _ _ _ _ k_pa_longest
                  · skip
                    exact (iv_emp (iv_ne (l := 1) (h := 0) c33 (iv_lit (l := 0) (h := 0) (by decide)) (iv_lit (l := 0) (h := 0) (by decide)) (by decide)) (by decide)).elim
                · skip
                  refine ⟨fun c34 => ?_, fun c34 => ?_⟩
                  · skip
                    exact (iv_emp (iv_eqa (l := 1) (h := 0) c34 (iv_lit (l := 1) (h := 1) (by decide)) (iv_lit (l := 0) (h := 0) (by decide)) (by decide)) (by decide)).elim
                  · skip
                    refine ⟨fun c35 => ?_, fun c35 => ?_⟩
                    · skip
                      exact hpost _ _ _ _ _ k_pa_longest
                    · skip
                      refine ⟨fun c36 => ?_, fun c36 => ?_⟩
                      · skip
                        exact hpost _ _ _ _ _ k_pa_longest
                      · skip
                        refine ⟨fun c37 => ?_, fun c37 => ?_⟩
                        · skip
                          refine s_wp_X7_trace_9_0 k_pa_longest (iv_ltb (l := 1) (h := 9) (r_nle c27) (iv_leb (l := 0) (h := 2147483647) (r_nlt c25) (iv_lit (l := 0) (h := 0) (by decide)) (iv_top x2) (by decide)) k_tl1f_huts (by decide)) k_tl1f_dams k_tl1a_heights k_tl1a_minutes (iv_lta (l := 0) (h := 8) (r_nle c27) (iv_leb (l := 0) (h := 2147483647) (r_nlt c25) (iv_lit (l := 0) (h := 0) (by decide)) (iv_top x2) (by decide)) k_tl1f_huts (by decide)) (fun o38 o39 o40 o41 k_o39 => ?_)
                          refine ⟨fun c42 => ?_, fun c42 => ?_⟩
                          · skip
                            refine ⟨iv_in (iv_lta (l := 0) (h := 8) (r_nle c32) (iv_leb (l := 0) (h := 2147483647) (r_nlt c30) (iv_lit (l := 0) (h := 0) (by decide)) (iv_top x3) (by decide)) (iv_ltb (l := 1) (h := 9) (r_nle c27) (iv_leb (l := 0) (h := 2147483647) (r_nlt c25) (iv_lit (l := 0) (h := 0) (by decide)) (iv_top x2) (by decide)) k_tl1f_huts (by decide)) (by decide)) (by decide), ?_⟩
                            refine ⟨fun c43 => ?_, fun c43 => ?_⟩
                            · skip
                              refine ⟨fun c44 => ?_, fun c44 => ?_⟩
                              · skip
                                refine s_wp_X7_steepest_9_0 (iv_ltb (l := 1) (h := 9) (r_nle c27) (iv_leb (l := 0) (h := 2147483647) (r_nlt c25) (iv_lit (l := 0) (h := 0) (by decide)) (iv_top x2) (by decide)) k_tl1f_huts (by decide)) k_tl1f_dams k_tl1a_heights k_tl1a_minutes (iv_lta (l := 0) (h := 8) (r_nle c27) (iv_leb (l := 0) (h := 2147483647) (r_nlt c25) (iv_lit (l := 0) (h := 0) (by decide)) (iv_top x2) (by decide)) k_tl1f_huts (by decide)) (iv_lta (l := 0) (h := 8) (r_nle c32) (iv_leb (l := 0) (h := 2147483647) (r_nlt c30) (iv_lit (l := 0) (h := 0) (by decide)) (iv_top x3) (by decide)) (iv_ltb (l := 1) (h := 9) (r_nle c27) (iv_leb (l := 0) (h := 2147483647) (r_nlt c25) (iv_lit (l := 0) (h := 0) (by decide)) (iv_top x2) (by decide)) k_tl1f_huts (by decide)) (by decide)) (fun r45 o46 => ?_)
                                exact hpost _ _ _ _ _ k_o39
                              · skip
                                refine ⟨iv_in (iv_lta (l := 0) (h := 8) (r_nle c32) (iv_leb (l := 0) (h := 2147483647) (r_nlt c30) (iv_lit (l := 0) (h := 0) (by decide)) (iv_top x3) (by decide)) (iv_ltb (l := 1) (h := 9) (r_nle c27) (iv_leb (l := 0) (h := 2147483647) (r_nlt c25) (iv_lit (l := 0) (h := 0) (by decide)) (iv_top x2) (by decide)) k_tl1f_huts (by decide)) (by decide)) (by decide), ?_⟩
                                exact hpost _ _ _ _ _ k_o39
                            · skip
                              exact hpost _ _ _ _ _ k_o39
                          · skip
                            refine ⟨iv_in (iv_lta (l := 0) (h := 8) (r_nle c32) (iv_leb (l := 0) (h := 2147483647) (r_nlt c30) (iv_lit (l := 0) (h := 0) (by decide)) (iv_top x3) (by decide)) (iv_ltb (l := 1) (h := 9) (r_nle c27) (iv_leb (l := 0) (h := 2147483647) (r_nlt c25) (iv_lit (l := 0) (h := 0) (by decide)) (iv_top x2) (by decide)) k_tl1f_huts (by decide)) (by decide)) (by decide), ?_⟩
                            exact hpost _ _ _ _ _ k_o39
                        · skip
                          exact hpost _ _ _ _ _ k_pa_longest
-- wx_X10_mutes
set_option maxRecDepth 20000 in
theorem s_wx_X10_mutes_46k1 {ta_counts : Nat → Int32} {tl0f_huts : Int32} {tl0f_dams : Int32} {tl0f_echoes : Int32} {tl0a_heights : Nat → Int32} {tl0a_minutes : Nat → Int32} {tl0a_echoFrom : Nat → Int32} {tl0a_echoTo : Nat → Int32} {tl1f_huts : Int32} {tl1f_dams : Int32} {tl1f_echoes : Int32} {tl1a_heights : Nat → Int32} {tl1a_minutes : Nat → Int32} {tl1a_echoFrom : Nat → Int32} {tl1a_echoTo : Nat → Int32} {pa_next : Nat → Int32} {x2 : Int32} {x3 : Int32} {post : Int32 → (Nat → Int32) → Prop} (k_ta_counts : ∀ j, iv 0 2 (ta_counts j)) (k_tl0f_huts : iv 0 9 tl0f_huts) (k_tl0f_dams : iv 0 511 tl0f_dams) (k_tl0f_echoes : iv 0 4 tl0f_echoes) (k_tl0a_heights : ∀ j, iv 0 99 (tl0a_heights j)) (k_tl0a_minutes : ∀ j, iv 0 9 (tl0a_minutes j)) (k_tl0a_echoFrom : ∀ j, iv 0 8 (tl0a_echoFrom j)) (k_tl0a_echoTo : ∀ j, iv 0 8 (tl0a_echoTo j)) (k_tl1f_huts : iv 1 9 tl1f_huts) (k_tl1f_dams : iv 0 511 tl1f_dams) (k_tl1f_echoes : iv 0 4 tl1f_echoes) (k_tl1a_heights : ∀ j, iv 0 99 (tl1a_heights j)) (k_tl1a_minutes : ∀ j, iv 0 9 (tl1a_minutes j)) (k_tl1a_echoFrom : ∀ j, iv 0 8 (tl1a_echoFrom j)) (k_tl1a_echoTo : ∀ j, iv 0 8 (tl1a_echoTo j)) (k_pa_next : ∀ j, iv 0 511 (pa_next j)) (hx2 : iv 0 8 x2) (hx3 : iv (-1) 8 x3) (hpost : ∀ (r : Int32) (pa_next : Nat → Int32), iv (-2) 63 r → (∀ j, iv 0 511 (pa_next j)) → post r pa_next) : q_wx_X10_mutes_46k1 ta_counts tl0f_huts tl0f_dams tl0f_echoes tl0a_heights tl0a_minutes tl0a_echoFrom tl0a_echoTo tl1f_huts tl1f_dams tl1f_echoes tl1a_heights tl1a_minutes tl1a_echoFrom tl1a_echoTo pa_next x2 x3 post := by
  refine s_wp_X7_link_9_0 k_pa_next k_tl1f_huts k_tl1f_dams k_tl1f_echoes k_tl1a_heights k_tl1a_minutes k_tl1a_echoFrom k_tl1a_echoTo (fun o1 k_o1 => ?_)
  refine ⟨fun c2 => ?_, fun c2 => ?_⟩
  · skip
    refine s_wp_X7_reach_5_0 k_o1 hx2 (iv_w (iv_lit (l := 0) (h := 0) (by decide)) (by decide)) (fun r3 hr3 => ?_)
    refine s_wp_X7_reach_5_0 k_o1 hx2 (iv_w (iv_shl1 (l := 1) (h := 256) (iv_lit (l := 1) (h := 1) (by decide)) (iv_ne (l := 0) (h := 8) c2 hx3 (iv_lit (l := (-1)) (h := (-1)) (by decide)) (by decide)) (by decide)) (by decide)) (fun r4 hr4 => ?_)
    refine s_z_J6_bitCount_0f7a4_0 (iv_w (iv_andl (l := 0) (h := 511) (iv_andl (l := 0) (h := 511) hr3 (by decide)) (by decide)) (by decide)) (fun r5 hr5 => ?_)
    exact hpost _ _ (iv_w hr5 (by decide)) k_o1
  · skip
    refine s_wp_X7_worst_9_0 k_o1 k_tl1f_huts k_tl1f_dams hx2 (fun r6 hr6 => ?_)
    exact hpost _ _ (iv_w hr6 (by decide)) k_o1
set_option maxRecDepth 20000 in
theorem s_wx_X10_mutes_46k0 {ta_counts : Nat → Int32} {tl0f_huts : Int32} {tl0f_dams : Int32} {tl0f_echoes : Int32} {tl0a_heights : Nat → Int32} {tl0a_minutes : Nat → Int32} {tl0a_echoFrom : Nat → Int32} {tl0a_echoTo : Nat → Int32} {tl1f_huts : Int32} {tl1f_dams : Int32} {tl1f_echoes : Int32} {tl1a_heights : Nat → Int32} {tl1a_minutes : Nat → Int32} {tl1a_echoFrom : Nat → Int32} {tl1a_echoTo : Nat → Int32} {pa_next : Nat → Int32} {x2 : Int32} {x3 : Int32} {post : Int32 → (Nat → Int32) → Prop} (k_ta_counts : ∀ j, iv 0 2 (ta_counts j)) (k_tl0f_huts : iv 1 9 tl0f_huts) (k_tl0f_dams : iv 0 511 tl0f_dams) (k_tl0f_echoes : iv 0 4 tl0f_echoes) (k_tl0a_heights : ∀ j, iv 0 99 (tl0a_heights j)) (k_tl0a_minutes : ∀ j, iv 0 9 (tl0a_minutes j)) (k_tl0a_echoFrom : ∀ j, iv 0 8 (tl0a_echoFrom j)) (k_tl0a_echoTo : ∀ j, iv 0 8 (tl0a_echoTo j)) (k_tl1f_huts : iv 0 9 tl1f_huts) (k_tl1f_dams : iv 0 511 tl1f_dams) (k_tl1f_echoes : iv 0 4 tl1f_echoes) (k_tl1a_heights : ∀ j, iv 0 99 (tl1a_heights j)) (k_tl1a_minutes : ∀ j, iv 0 9 (tl1a_minutes j)) (k_tl1a_echoFrom : ∀ j, iv 0 8 (tl1a_echoFrom j)) (k_tl1a_echoTo : ∀ j, iv 0 8 (tl1a_echoTo j)) (k_pa_next : ∀ j, iv 0 511 (pa_next j)) (hx2 : iv 0 8 x2) (hx3 : iv (-1) 8 x3) (hpost : ∀ (r : Int32) (pa_next : Nat → Int32), iv (-2) 63 r → (∀ j, iv 0 511 (pa_next j)) → post r pa_next) : q_wx_X10_mutes_46k0 ta_counts tl0f_huts tl0f_dams tl0f_echoes tl0a_heights tl0a_minutes tl0a_echoFrom tl0a_echoTo tl1f_huts tl1f_dams tl1f_echoes tl1a_heights tl1a_minutes tl1a_echoFrom tl1a_echoTo pa_next x2 x3 post := by
  refine s_wp_X7_link_9_0 k_pa_next k_tl0f_huts k_tl0f_dams k_tl0f_echoes k_tl0a_heights k_tl0a_minutes k_tl0a_echoFrom k_tl0a_echoTo (fun o1 k_o1 => ?_)
  refine ⟨fun c2 => ?_, fun c2 => ?_⟩
  · skip
    refine s_wp_X7_reach_5_0 k_o1 hx2 (iv_w (iv_lit (l := 0) (h := 0) (by decide)) (by decide)) (fun r3 hr3 => ?_)
    refine s_wp_X7_reach_5_0 k_o1 hx2 (iv_w (iv_shl1 (l := 1) (h := 256) (iv_lit (l := 1) (h := 1) (by decide)) (iv_ne (l := 0) (h := 8) c2 hx3 (iv_lit (l := (-1)) (h := (-1)) (by decide)) (by decide)) (by decide)) (by decide)) (fun r4 hr4 => ?_)
    refine s_z_J6_bitCount_0f7a4_0 (iv_w (iv_andl (l := 0) (h := 511) (iv_andl (l := 0) (h := 511) hr3 (by decide)) (by decide)) (by decide)) (fun r5 hr5 => ?_)
    exact hpost _ _ (iv_w hr5 (by decide)) k_o1
  · skip
    refine s_wp_X7_worst_9_0 k_o1 k_tl0f_huts k_tl0f_dams hx2 (fun r6 hr6 => ?_)
    exact hpost _ _ (iv_w hr6 (by decide)) k_o1
set_option maxRecDepth 20000 in
theorem s_wx_X10_mutes_0 {ta_counts : Nat → Int32} {tl0f_huts : Int32} {tl0f_dams : Int32} {tl0f_echoes : Int32} {tl0a_heights : Nat → Int32} {tl0a_minutes : Nat → Int32} {tl0a_echoFrom : Nat → Int32} {tl0a_echoTo : Nat → Int32} {tl1f_huts : Int32} {tl1f_dams : Int32} {tl1f_echoes : Int32} {tl1a_heights : Nat → Int32} {tl1a_minutes : Nat → Int32} {tl1a_echoFrom : Nat → Int32} {tl1a_echoTo : Nat → Int32} {pa_next : Nat → Int32} {x1 : Int32} {x2 : Int32} {x3 : Int32} {post : Int32 → (Nat → Int32) → Prop} (k_ta_counts : ∀ j, iv 0 2 (ta_counts j)) (k_tl0f_huts : iv 0 9 tl0f_huts) (k_tl0f_dams : iv 0 511 tl0f_dams) (k_tl0f_echoes : iv 0 4 tl0f_echoes) (k_tl0a_heights : ∀ j, iv 0 99 (tl0a_heights j)) (k_tl0a_minutes : ∀ j, iv 0 9 (tl0a_minutes j)) (k_tl0a_echoFrom : ∀ j, iv 0 8 (tl0a_echoFrom j)) (k_tl0a_echoTo : ∀ j, iv 0 8 (tl0a_echoTo j)) (k_tl1f_huts : iv 0 9 tl1f_huts) (k_tl1f_dams : iv 0 511 tl1f_dams) (k_tl1f_echoes : iv 0 4 tl1f_echoes) (k_tl1a_heights : ∀ j, iv 0 99 (tl1a_heights j)) (k_tl1a_minutes : ∀ j, iv 0 9 (tl1a_minutes j)) (k_tl1a_echoFrom : ∀ j, iv 0 8 (tl1a_echoFrom j)) (k_tl1a_echoTo : ∀ j, iv 0 8 (tl1a_echoTo j)) (k_pa_next : ∀ j, iv 0 511 (pa_next j)) (hpost : ∀ (r : Int32) (pa_next : Nat → Int32), iv (-2) 63 r → (∀ j, iv 0 511 (pa_next j)) → post r pa_next) : q_wx_X10_mutes_0 ta_counts tl0f_huts tl0f_dams tl0f_echoes tl0a_heights tl0a_minutes tl0a_echoFrom tl0a_echoTo tl1f_huts tl1f_dams tl1f_echoes tl1a_heights tl1a_minutes tl1a_echoFrom tl1a_echoTo pa_next x1 x2 x3 post := by
  refine ⟨fun c1 => ?_, fun c1 => ?_⟩
  · skip
    refine ⟨fun _ => ?_, fun h => absurd h (by decide), fun h0 h1 => absurd rfl h0⟩
    exact hpost _ _ (iv_w (iv_lit (l := (-2)) (h := (-2)) (by decide)) (by decide)) k_pa_next
  · skip
    refine ⟨fun c2 => ?_, fun c2 => ?_⟩
    · skip
      refine ⟨fun _ => ?_, fun h => absurd h (by decide), fun h0 h1 => absurd rfl h0⟩
      exact hpost _ _ (iv_w (iv_lit (l := (-2)) (h := (-2)) (by decide)) (by decide)) k_pa_next
    · skip
      refine ⟨iv_in (iv_lta (l := 0) (h := 1) (r_nle c2) (iv_leb (l := 0) (h := 2147483647) (r_nlt c1) (iv_lit (l := 0) (h := 0) (by decide)) (iv_top x1) (by decide)) (k_ta_counts _) (by decide)) (by decide), fun hc => ?_, fun hc => ?_⟩
      · skip
        refine ⟨fun h => absurd h (by decide), fun h => absurd h (by decide), fun h0 h1 => ?_⟩
        refine ⟨fun c3 => ?_, fun c3 => ?_⟩
        · skip
          refine ⟨fun c4 => ?_, fun c4 => ?_⟩
          · skip
            refine ⟨fun c5 => ?_, fun c5 => ?_⟩
            · skip
              exact (iv_emp (iv_ne (l := 1) (h := 0) c5 (iv_lit (l := 0) (h := 0) (by decide)) (iv_lit (l := 0) (h := 0) (by decide)) (by decide)) (by decide)).elim
            · skip
              exact hpost _ _ (iv_w (iv_lit (l := (-2)) (h := (-2)) (by decide)) (by decide)) k_pa_next
          · skip
            exact (iv_emp (iv_ne (l := 1) (h := 0) c4 (iv_lit (l := 0) (h := 0) (by decide)) (iv_lit (l := 0) (h := 0) (by decide)) (by decide)) (by decide)).elim
        · skip
          refine ⟨fun c6 => ?_, fun c6 => ?_⟩
          · skip
            refine ⟨fun c7 => ?_, fun c7 => ?_⟩
            · skip
              refine ⟨fun c8 => ?_, fun c8 => ?_⟩
              · skip
                exact (iv_emp (iv_ne (l := 1) (h := 0) c8 (iv_lit (l := 0) (h := 0) (by decide)) (iv_lit (l := 0) (h := 0) (by decide)) (by decide)) (by decide)).elim
              · skip
                exact hpost _ _ (iv_w (iv_lit (l := (-2)) (h := (-2)) (by decide)) (by decide)) k_pa_next
            · skip
              exact (iv_emp (iv_ne (l := 1) (h := 0) c7 (iv_lit (l := 0) (h := 0) (by decide)) (iv_lit (l := 0) (h := 0) (by decide)) (by decide)) (by decide)).elim
          · skip
            refine ⟨fun c9 => ?_, fun c9 => ?_⟩
            · skip
              exact (iv_emp (iv_eqa (l := 1) (h := 0) c9 (iv_lit (l := 1) (h := 1) (by decide)) (iv_lit (l := 0) (h := 0) (by decide)) (by decide)) (by decide)).elim
            · skip
              refine ⟨fun c10 => ?_, fun c10 => ?_⟩
              · skip
                refine ⟨fun c11 => ?_, fun c11 => ?_⟩
                · skip
                  exact (iv_emp (iv_ne (l := 1) (h := 0) c11 (iv_lit (l := 0) (h := 0) (by decide)) (iv_lit (l := 0) (h := 0) (by decide)) (by decide)) (by decide)).elim
                · skip
                  refine ⟨fun c12 => ?_, fun c12 => ?_⟩
                  · skip
                    refine ⟨fun c13 => ?_, fun c13 => ?_⟩
                    · skip
                      exact s_wx_X10_mutes_46k0 k_ta_counts (iv_ltb (l := 1) (h := 9) (r_nle c6) (iv_leb (l := 0) (h := 2147483647) (r_nlt c3) (iv_lit (l := 0) (h := 0) (by decide)) (iv_top x2) (by decide)) k_tl0f_huts (by decide)) k_tl0f_dams k_tl0f_echoes k_tl0a_heights k_tl0a_minutes k_tl0a_echoFrom k_tl0a_echoTo k_tl1f_huts k_tl1f_dams k_tl1f_echoes k_tl1a_heights k_tl1a_minutes k_tl1a_echoFrom k_tl1a_echoTo k_pa_next (iv_lta (l := 0) (h := 8) (r_nle c6) (iv_leb (l := 0) (h := 2147483647) (r_nlt c3) (iv_lit (l := 0) (h := 0) (by decide)) (iv_top x2) (by decide)) k_tl0f_huts (by decide)) (iv_w (iv_eqa (l := (-1)) (h := (-1)) c13 (iv_top x3) (iv_lit (l := (-1)) (h := (-1)) (by decide)) (by decide)) (by decide)) hpost
                    · skip
                      refine ⟨fun c14 => ?_, fun c14 => ?_⟩
                      · skip
                        refine ⟨fun c15 => ?_, fun c15 => ?_⟩
                        · skip
                          refine ⟨fun c16 => ?_, fun c16 => ?_⟩
                          · skip
                            exact hpost _ _ (iv_w (iv_lit (l := (-2)) (h := (-2)) (by decide)) (by decide)) k_pa_next
                          · skip
                            exact (iv_emp (iv_ne (l := 1) (h := 0) c16 (iv_lit (l := 0) (h := 0) (by decide)) (iv_lit (l := 0) (h := 0) (by decide)) (by decide)) (by decide)).elim
                        · skip
                          exact (iv_emp (iv_ne (l := 1) (h := 0) c15 (iv_lit (l := 0) (h := 0) (by decide)) (iv_lit (l := 0) (h := 0) (by decide)) (by decide)) (by decide)).elim
                      · skip
                        refine ⟨fun c17 => ?_, fun c17 => ?_⟩
                        · skip
                          refine ⟨fun c18 => ?_, fun c18 => ?_⟩
                          · skip
                            refine ⟨fun c19 => ?_, fun c19 => ?_⟩
                            · skip
                              exact hpost _ _ (iv_w (iv_lit (l := (-2)) (h := (-2)) (by decide)) (by decide)) k_pa_next
                            · skip
                              exact (iv_emp (iv_ne (l := 1) (h := 0) c19 (iv_lit (l := 0) (h := 0) (by decide)) (iv_lit (l := 0) (h := 0) (by decide)) (by decide)) (by decide)).elim
                          · skip
                            exact (iv_emp (iv_ne (l := 1) (h := 0) c18 (iv_lit (l := 0) (h := 0) (by decide)) (iv_lit (l := 0) (h := 0) (by decide)) (by decide)) (by decide)).elim
                        · skip
                          refine ⟨fun c20 => ?_, fun c20 => ?_⟩
                          · skip
                            exact (iv_emp (iv_eqa (l := 1) (h := 0) c20 (iv_lit (l := 1) (h := 1) (by decide)) (iv_lit (l := 0) (h := 0) (by decide)) (by decide)) (by decide)).elim
                          · skip
                            refine ⟨fun c21 => ?_, fun c21 => ?_⟩
                            · skip
                              refine ⟨fun c22 => ?_, fun c22 => ?_⟩
                              · skip
                                exact (iv_emp (iv_ne (l := 1) (h := 0) c22 (iv_lit (l := 0) (h := 0) (by decide)) (iv_lit (l := 0) (h := 0) (by decide)) (by decide)) (by decide)).elim
                              · skip
                                refine ⟨fun c23 => ?_, fun c23 => ?_⟩
                                · skip
                                  exact (iv_emp (iv_eqa (l := 1) (h := 0) c23 (iv_lit (l := 1) (h := 1) (by decide)) (iv_lit (l := 0) (h := 0) (by decide)) (by decide)) (by decide)).elim
                                · skip
                                  refine ⟨fun c24 => ?_, fun c24 => ?_⟩
                                  · skip
                                    exact s_wx_X10_mutes_46k0 k_ta_counts (iv_ltb (l := 1) (h := 9) (r_nle c6) (iv_leb (l := 0) (h := 2147483647) (r_nlt c3) (iv_lit (l := 0) (h := 0) (by decide)) (iv_top x2) (by decide)) k_tl0f_huts (by decide)) k_tl0f_dams k_tl0f_echoes k_tl0a_heights k_tl0a_minutes k_tl0a_echoFrom k_tl0a_echoTo k_tl1f_huts k_tl1f_dams k_tl1f_echoes k_tl1a_heights k_tl1a_minutes k_tl1a_echoFrom k_tl1a_echoTo k_pa_next (iv_lta (l := 0) (h := 8) (r_nle c6) (iv_leb (l := 0) (h := 2147483647) (r_nlt c3) (iv_lit (l := 0) (h := 0) (by decide)) (iv_top x2) (by decide)) k_tl0f_huts (by decide)) (iv_w (iv_lta (l := 0) (h := 8) (r_nle c17) (iv_leb (l := 0) (h := 2147483647) (r_nlt c14) (iv_lit (l := 0) (h := 0) (by decide)) (iv_top x3) (by decide)) (iv_ltb (l := 1) (h := 9) (r_nle c6) (iv_leb (l := 0) (h := 2147483647) (r_nlt c3) (iv_lit (l := 0) (h := 0) (by decide)) (iv_top x2) (by decide)) k_tl0f_huts (by decide)) (by decide)) (by decide)) hpost
                                  · skip
                                    exact hpost _ _ (iv_w (iv_lit (l := (-2)) (h := (-2)) (by decide)) (by decide)) k_pa_next
                            · skip
                              refine ⟨fun c25 => ?_, fun c25 => ?_⟩
                              · skip
                                refine ⟨fun c26 => ?_, fun c26 => ?_⟩
                                · skip
                                  exact hpost _ _ (iv_w (iv_lit (l := (-2)) (h := (-2)) (by decide)) (by decide)) k_pa_next
                                · skip
                                  exact (iv_emp (iv_ne (l := 1) (h := 0) c26 (iv_lit (l := 0) (h := 0) (by decide)) (iv_lit (l := 0) (h := 0) (by decide)) (by decide)) (by decide)).elim
                              · skip
                                exact (iv_emp (iv_eqa (l := 1) (h := 0) c25 (iv_lit (l := 1) (h := 1) (by decide)) (iv_lit (l := 0) (h := 0) (by decide)) (by decide)) (by decide)).elim
                  · skip
                    exact (iv_emp (iv_eqa (l := 1) (h := 0) c12 (iv_lit (l := 1) (h := 1) (by decide)) (iv_lit (l := 0) (h := 0) (by decide)) (by decide)) (by decide)).elim
              · skip
                refine ⟨fun c27 => ?_, fun c27 => ?_⟩
                · skip
                  refine ⟨fun c28 => ?_, fun c28 => ?_⟩
                  · skip
                    exact (iv_emp (iv_ne (l := 1) (h := 0) c28 (iv_lit (l := 0) (h := 0) (by decide)) (iv_lit (l := 0) (h := 0) (by decide)) (by decide)) (by decide)).elim
                  · skip
                    exact hpost _ _ (iv_w (iv_lit (l := (-2)) (h := (-2)) (by decide)) (by decide)) k_pa_next
                · skip
                  exact (iv_emp (iv_eqa (l := 1) (h := 0) c27 (iv_lit (l := 1) (h := 1) (by decide)) (iv_lit (l := 0) (h := 0) (by decide)) (by decide)) (by decide)).elim
      · skip
        refine ⟨fun h => absurd h (by decide), fun _ => ?_, fun h0 h1 => absurd rfl h1⟩
        refine ⟨fun c29 => ?_, fun c29 => ?_⟩
        · skip
          refine ⟨fun c30 => ?_, fun c30 => ?_⟩
          · skip
            refine ⟨fun c31 => ?_, fun c31 => ?_⟩
            · skip
              exact (iv_emp (iv_ne (l := 1) (h := 0) c31 (iv_lit (l := 0) (h := 0) (by decide)) (iv_lit (l := 0) (h := 0) (by decide)) (by decide)) (by decide)).elim
            · skip
              exact hpost _ _ (iv_w (iv_lit (l := (-2)) (h := (-2)) (by decide)) (by decide)) k_pa_next
          · skip
            exact (iv_emp (iv_ne (l := 1) (h := 0) c30 (iv_lit (l := 0) (h := 0) (by decide)) (iv_lit (l := 0) (h := 0) (by decide)) (by decide)) (by decide)).elim
        · skip
          refine ⟨fun c32 => ?_, fun c32 => ?_⟩
          · skip
            refine ⟨fun c33 => ?_, fun c33 => ?_⟩
            · skip
              refine ⟨fun c34 => ?_, fun c34 => ?_⟩
              · skip
                exact (iv_emp (iv_ne (l := 1) (h := 0) c34 (iv_lit (l := 0) (h := 0) (by decide)) (iv_lit (l := 0) (h := 0) (by decide)) (by decide)) (by decide)).elim
              · skip
                exact hpost _ _ (iv_w (iv_lit (l := (-2)) (h := (-2)) (by decide)) (by decide)) k_pa_next
            · skip
              exact (iv_emp (iv_ne (l := 1) (h := 0) c33 (iv_lit (l := 0) (h := 0) (by decide)) (iv_lit (l := 0) (h := 0) (by decide)) (by decide)) (by decide)).elim
          · skip
            refine ⟨fun c35 => ?_, fun c35 => ?_⟩
            · skip
              exact (iv_emp (iv_eqa (l := 1) (h := 0) c35 (iv_lit (l := 1) (h := 1) (by decide)) (iv_lit (l := 0) (h := 0) (by decide)) (by decide)) (by decide)).elim
            · skip
              refine ⟨fun c36 => ?_, fun c36 => ?_⟩
              · skip
                refine ⟨fun c37 => ?_, fun c37 => ?_⟩
                · skip
                  exact (iv_emp (iv_ne (l := 1) (h := 0) c37 (iv_lit (l := 0) (h := 0) (by decide)) (iv_lit (l := 0) (h := 0) (by decide)) (by decide)) (by decide)).elim
                · skip
                  refine ⟨fun c38 => ?_, fun c38 => ?_⟩
                  · skip
                    refine ⟨fun c39 => ?_, fun c39 => ?_⟩
                    · skip
                      exact s_wx_X10_mutes_46k1 k_ta_counts k_tl0f_huts k_tl0f_dams k_tl0f_echoes k_tl0a_heights k_tl0a_minutes k_tl0a_echoFrom k_tl0a_echoTo (iv_ltb (l := 1) (h := 9) (r_nle c32) (iv_leb (l := 0) (h := 2147483647) (r_nlt c29) (iv_lit (l := 0) (h := 0) (by decide)) (iv_top x2) (by decide)) k_tl1f_huts (by decide)) k_tl1f_dams k_tl1f_echoes k_tl1a_heights k_tl1a_minutes k_tl1a_echoFrom k_tl1a_echoTo k_pa_next (iv_lta (l := 0) (h := 8) (r_nle c32) (iv_leb (l := 0) (h := 2147483647) (r_nlt c29) (iv_lit (l := 0) (h := 0) (by decide)) (iv_top x2) (by decide)) k_tl1f_huts (by decide)) (iv_w (iv_eqa (l := (-1)) (h := (-1)) c39 (iv_top x3) (iv_lit (l := (-1)) (h := (-1)) (by decide)) (by decide)) (by decide)) hpost
                    · skip
                      refine ⟨fun c40 => ?_, fun c40 => ?_⟩
                      · skip
                        refine ⟨fun c41 => ?_, fun c41 => ?_⟩
                        · skip
                          refine ⟨fun c42 => ?_, fun c42 => ?_⟩
                          · skip
                            exact hpost _ _ (iv_w (iv_lit (l := (-2)) (h := (-2)) (by decide)) (by decide)) k_pa_next
                          · skip
                            exact (iv_emp (iv_ne (l := 1) (h := 0) c42 (iv_lit (l := 0) (h := 0) (by decide)) (iv_lit (l := 0) (h := 0) (by decide)) (by decide)) (by decide)).elim
                        · skip
                          exact (iv_emp (iv_ne (l := 1) (h := 0) c41 (iv_lit (l := 0) (h := 0) (by decide)) (iv_lit (l := 0) (h := 0) (by decide)) (by decide)) (by decide)).elim
                      · skip
                        refine ⟨fun c43 => ?_, fun c43 => ?_⟩
                        · skip
                          refine ⟨fun c44 => ?_, fun c44 => ?_⟩
                          · skip
                            refine ⟨fun c45 => ?_, fun c45 => ?_⟩
                            · skip
                              exact hpost _ _ (iv_w (iv_lit (l := (-2)) (h := (-2)) (by decide)) (by decide)) k_pa_next
                            · skip
                              exact (iv_emp (iv_ne (l := 1) (h := 0) c45 (iv_lit (l := 0) (h := 0) (by decide)) (iv_lit (l := 0) (h := 0) (by decide)) (by decide)) (by decide)).elim
                          · skip
                            exact (iv_emp (iv_ne (l := 1) (h := 0) c44 (iv_lit (l := 0) (h := 0) (by decide)) (iv_lit (l := 0) (h := 0) (by decide)) (by decide)) (by decide)).elim
                        · skip
                          refine ⟨fun c46 => ?_, fun c46 => ?_⟩
                          · skip
                            exact (iv_emp (iv_eqa (l := 1) (h := 0) c46 (iv_lit (l := 1) (h := 1) (by decide)) (iv_lit (l := 0) (h := 0) (by decide)) (by decide)) (by decide)).elim
                          · skip
                            refine ⟨fun c47 => ?_, fun c47 => ?_⟩
                            · skip
                              refine ⟨fun c48 => ?_, fun c48 => ?_⟩
                              · skip
                                exact (iv_emp (iv_ne (l := 1) (h := 0) c48 (iv_lit (l := 0) (h := 0) (by decide)) (iv_lit (l := 0) (h := 0) (by decide)) (by decide)) (by decide)).elim
                              · skip
                                refine ⟨fun c49 => ?_, fun c49 => ?_⟩
                                · skip
                                  exact (iv_emp (iv_eqa (l := 1) (h := 0) c49 (iv_lit (l := 1) (h := 1) (by decide)) (iv_lit (l := 0) (h := 0) (by decide)) (by decide)) (by decide)).elim
                                · skip
                                  refine ⟨fun c50 => ?_, fun c50 => ?_⟩
                                  · skip
                                    exact s_wx_X10_mutes_46k1 k_ta_counts k_tl0f_huts k_tl0f_dams k_tl0f_echoes k_tl0a_heights k_tl0a_minutes k_tl0a_echoFrom k_tl0a_echoTo (iv_ltb (l := 1) (h := 9) (r_nle c32) (iv_leb (l := 0) (h := 2147483647) (r_nlt c29) (iv_lit (l := 0) (h := 0) (by decide)) (iv_top x2) (by decide)) k_tl1f_huts (by decide)) k_tl1f_dams k_tl1f_echoes k_tl1a_heights k_tl1a_minutes k_tl1a_echoFrom k_tl1a_echoTo k_pa_next (iv_lta (l := 0) (h := 8) (r_nle c32) (iv_leb (l := 0) (h := 2147483647) (r_nlt c29) (iv_lit (l := 0) (h := 0) (by decide)) (iv_top x2) (by decide)) k_tl1f_huts (by decide)) (iv_w (iv_lta (l := 0) (h := 8) (r_nle c43) (iv_leb (l := 0) (h := 2147483647) (r_nlt c40) (iv_lit (l := 0) (h := 0) (by decide)) (iv_top x3) (by decide)) (iv_ltb (l := 1) (h := 9) (r_nle c32) (iv_leb (l := 0) (h := 2147483647) (r_nlt c29) (iv_lit (l := 0) (h := 0) (by decide)) (iv_top x2) (by decide)) k_tl1f_huts (by decide)) (by decide)) (by decide)) hpost
                                  · skip
                                    exact hpost _ _ (iv_w (iv_lit (l := (-2)) (h := (-2)) (by decide)) (by decide)) k_pa_next
                            · skip
                              refine ⟨fun c51 => ?_, fun c51 => ?_⟩
                              · skip
                                refine ⟨fun c52 => ?_, fun c52 => ?_⟩
                                · skip
                                  exact hpost _ _ (iv_w (iv_lit (l := (-2)) (h := (-2)) (by decide)) (by decide)) k_pa_next
                                · skip
                                  exact (iv_emp (iv_ne (l := 1) (h := 0) c52 (iv_lit (l := 0) (h := 0) (by decide)) (iv_lit (l := 0) (h := 0) (by decide)) (by decide)) (by decide)).elim
                              · skip
                                exact (iv_emp (iv_eqa (l := 1) (h := 0) c51 (iv_lit (l := 1) (h := 1) (by decide)) (iv_lit (l := 0) (h := 0) (by decide)) (by decide)) (by decide)).elim
                  · skip
                    exact (iv_emp (iv_eqa (l := 1) (h := 0) c38 (iv_lit (l := 1) (h := 1) (by decide)) (iv_lit (l := 0) (h := 0) (by decide)) (by decide)) (by decide)).elim
              · skip
                refine ⟨fun c53 => ?_, fun c53 => ?_⟩
                · skip
                  refine ⟨fun c54 => ?_, fun c54 => ?_⟩
                  · skip
                    exact (iv_emp (iv_ne (l := 1) (h := 0) c54 (iv_lit (l := 0) (h := 0) (by decide)) (iv_lit (l := 0) (h := 0) (by decide)) (by decide)) (by decide)).elim
                  · skip
                    exact hpost _ _ (iv_w (iv_lit (l := (-2)) (h := (-2)) (by decide)) (by decide)) k_pa_next
                · skip
                  exact (iv_emp (iv_eqa (l := 1) (h := 0) c53 (iv_lit (l := 1) (h := 1) (by decide)) (iv_lit (l := 0) (h := 0) (by decide)) (by decide)) (by decide)).elim
-- wx_X10_masses
set_option maxRecDepth 20000 in
theorem s_wx_X10_masses_0 {ta_counts : Nat → Int32} {tl0f_huts : Int32} {tl0f_villages : Int32} {tl0a_minutes : Nat → Int32} {tl1f_huts : Int32} {tl1f_villages : Int32} {tl1a_minutes : Nat → Int32} {pa_walked : Nat → Int32} {pa_cover : Nat → Int32} {x1 : Int32} {x2 : Int32} {x3 : Int32} {post : Int32 → (Nat → Int32) → (Nat → Int32) → Prop} (k_ta_counts : ∀ j, iv 0 2 (ta_counts j)) (k_tl0f_huts : iv 0 9 tl0f_huts) (k_tl0f_villages : iv 0 511 tl0f_villages) (k_tl0a_minutes : ∀ j, iv 0 9 (tl0a_minutes j)) (k_tl1f_huts : iv 0 9 tl1f_huts) (k_tl1f_villages : iv 0 511 tl1f_villages) (k_tl1a_minutes : ∀ j, iv 0 9 (tl1a_minutes j)) (k_pa_walked : ∀ j, iv 0 1000 (pa_walked j)) (k_pa_cover : ∀ j, iv 0 511 (pa_cover j)) (hpost : ∀ (r : Int32) (pa_walked : Nat → Int32) (pa_cover : Nat → Int32), iv (-1) 2147483647 r → (∀ j, iv 0 1000 (pa_walked j)) → (∀ j, iv 0 511 (pa_cover j)) → post r pa_walked pa_cover) : q_wx_X10_masses_0 ta_counts tl0f_huts tl0f_villages tl0a_minutes tl1f_huts tl1f_villages tl1a_minutes pa_walked pa_cover x1 x2 x3 post := by
  refine ⟨fun c1 => ?_, fun c1 => ?_⟩
  · skip
    refine ⟨fun _ => ?_, fun h => absurd h (by decide), fun h0 h1 => absurd rfl h0⟩
    exact hpost _ _ _ (iv_w (iv_lit (l := (-1)) (h := (-1)) (by decide)) (by decide)) k_pa_walked k_pa_cover
  · skip
    refine ⟨fun c2 => ?_, fun c2 => ?_⟩
    · skip
      refine ⟨fun _ => ?_, fun h => absurd h (by decide), fun h0 h1 => absurd rfl h0⟩
      exact hpost _ _ _ (iv_w (iv_lit (l := (-1)) (h := (-1)) (by decide)) (by decide)) k_pa_walked k_pa_cover
    · skip
      refine ⟨iv_in (iv_lta (l := 0) (h := 1) (r_nle c2) (iv_leb (l := 0) (h := 2147483647) (r_nlt c1) (iv_lit (l := 0) (h := 0) (by decide)) (iv_top x1) (by decide)) (k_ta_counts _) (by decide)) (by decide), fun hc => ?_, fun hc => ?_⟩
      · skip
        refine ⟨fun h => absurd h (by decide), fun h => absurd h (by decide), fun h0 h1 => ?_⟩
        refine ⟨fun c3 => ?_, fun c3 => ?_⟩
        · skip
          exact hpost _ _ _ (iv_w (iv_lit (l := (-1)) (h := (-1)) (by decide)) (by decide)) k_pa_walked k_pa_cover
        · skip
          refine ⟨fun c4 => ?_, fun c4 => ?_⟩
          · skip
            refine s_wp_X7_walk_9_0 k_pa_walked k_tl0f_huts k_tl0a_minutes (fun o5 k_o5 => ?_)
            refine s_wp_X7_coverBy_2_0 k_o5 k_pa_cover k_tl0f_huts (iv_lea (l := 0) (h := 99) (r_le c4) (iv_leb (l := 0) (h := 2147483647) (r_nlt c3) (iv_lit (l := 0) (h := 0) (by decide)) (iv_top x2) (by decide)) (iv_lit (l := 99) (h := 99) (by decide)) (by decide)) (fun o6 k_o6 => ?_)
            refine s_wp_X7_fewestCovering_0 k_o6 k_tl0f_villages k_tl0f_huts (fun r7 hr7 => ?_)
            refine ⟨fun c8 => ?_, fun c8 => ?_⟩
            · skip
              refine s_z_J6_bitCount_0f7a4_0 hr7 (fun r9 hr9 => ?_)
              exact hpost _ _ _ (iv_w hr9 (by decide)) k_o5 k_o6
            · skip
              exact hpost _ _ _ hr7 k_o5 k_o6
          · skip
            exact hpost _ _ _ (iv_w (iv_lit (l := (-1)) (h := (-1)) (by decide)) (by decide)) k_pa_walked k_pa_cover
      · skip
        refine ⟨fun h => absurd h (by decide), fun _ => ?_, fun h0 h1 => absurd rfl h1⟩
        refine ⟨fun c10 => ?_, fun c10 => ?_⟩
        · skip
          exact hpost _ _ _ (iv_w (iv_lit (l := (-1)) (h := (-1)) (by decide)) (by decide)) k_pa_walked k_pa_cover
        · skip
          refine ⟨fun c11 => ?_, fun c11 => ?_⟩
          · skip
            refine s_wp_X7_walk_9_0 k_pa_walked k_tl1f_huts k_tl1a_minutes (fun o12 k_o12 => ?_)
            refine s_wp_X7_coverBy_2_0 k_o12 k_pa_cover k_tl1f_huts (iv_lea (l := 0) (h := 99) (r_le c11) (iv_leb (l := 0) (h := 2147483647) (r_nlt c10) (iv_lit (l := 0) (h := 0) (by decide)) (iv_top x2) (by decide)) (iv_lit (l := 99) (h := 99) (by decide)) (by decide)) (fun o13 k_o13 => ?_)
            refine s_wp_X7_fewestCovering_0 k_o13 k_tl1f_villages k_tl1f_huts (fun r14 hr14 => ?_)
            refine ⟨fun c15 => ?_, fun c15 => ?_⟩
            · skip
              refine s_z_J6_bitCount_0f7a4_0 hr14 (fun r16 hr16 => ?_)
              exact hpost _ _ _ (iv_w hr16 (by decide)) k_o12 k_o13
            · skip
              exact hpost _ _ _ hr14 k_o12 k_o13
          · skip
            exact hpost _ _ _ (iv_w (iv_lit (l := (-1)) (h := (-1)) (by decide)) (by decide)) k_pa_walked k_pa_cover
-- wx_X10_fact
set_option maxRecDepth 20000 in
theorem s_wx_X10_fact_43 {ta_counts : Nat → Int32} {ts0f_facts : Int32} {ts0a_heard : Nat → Int32} {ts0a_huts : Nat → Int32} {ts0a_minutes : Nat → Int32} {ts1f_facts : Int32} {ts1a_heard : Nat → Int32} {ts1a_huts : Nat → Int32} {ts1a_minutes : Nat → Int32} {post : Int32 → Prop} (k_ta_counts : ∀ j, iv 0 2 (ta_counts j)) (k_ts0f_facts : iv 0 10 ts0f_facts) (k_ts0a_heard : ∀ j, iv 0 1 (ts0a_heard j)) (k_ts0a_huts : ∀ j, iv 0 8 (ts0a_huts j)) (k_ts0a_minutes : ∀ j, iv 0 60 (ts0a_minutes j)) (k_ts1f_facts : iv 0 10 ts1f_facts) (k_ts1a_heard : ∀ j, iv 0 1 (ts1a_heard j)) (k_ts1a_huts : ∀ j, iv 0 8 (ts1a_huts j)) (k_ts1a_minutes : ∀ j, iv 0 60 (ts1a_minutes j)) (hpost : ∀ (r : Int32), iv (-2) 60 r → post r) : q_wx_X10_fact_43 ta_counts ts0f_facts ts0a_heard ts0a_huts ts0a_minutes ts1f_facts ts1a_heard ts1a_huts ts1a_minutes post := by
  exact hpost _ (iv_w (iv_lit (l := (-2)) (h := (-2)) (by decide)) (by decide))
set_option maxRecDepth 20000 in
theorem s_wx_X10_fact_30k0 {ta_counts : Nat → Int32} {ts0f_facts : Int32} {ts0a_heard : Nat → Int32} {ts0a_huts : Nat → Int32} {ts0a_minutes : Nat → Int32} {ts1f_facts : Int32} {ts1a_heard : Nat → Int32} {ts1a_huts : Nat → Int32} {ts1a_minutes : Nat → Int32} {x2 : Int32} {x3 : Int32} {post : Int32 → Prop} (k_ta_counts : ∀ j, iv 0 2 (ta_counts j)) (k_ts0f_facts : iv 0 10 ts0f_facts) (k_ts0a_heard : ∀ j, iv 0 1 (ts0a_heard j)) (k_ts0a_huts : ∀ j, iv 0 8 (ts0a_huts j)) (k_ts0a_minutes : ∀ j, iv 0 60 (ts0a_minutes j)) (k_ts1f_facts : iv 0 10 ts1f_facts) (k_ts1a_heard : ∀ j, iv 0 1 (ts1a_heard j)) (k_ts1a_huts : ∀ j, iv 0 8 (ts1a_huts j)) (k_ts1a_minutes : ∀ j, iv 0 60 (ts1a_minutes j)) (hpost : ∀ (r : Int32), iv (-2) 60 r → post r) : q_wx_X10_fact_30k0 ta_counts ts0f_facts ts0a_heard ts0a_huts ts0a_minutes ts1f_facts ts1a_heard ts1a_huts ts1a_minutes x2 x3 post := by
  refine ⟨fun c1 => ?_, fun c1 => ?_⟩
  · skip
    exact s_wx_X10_fact_43 k_ta_counts k_ts0f_facts k_ts0a_heard k_ts0a_huts k_ts0a_minutes k_ts1f_facts k_ts1a_heard k_ts1a_huts k_ts1a_minutes hpost
  · skip
    refine ⟨fun c2 => ?_, fun c2 => ?_⟩
    · skip
      refine ⟨fun c3 => ?_, fun c3 => ?_, fun c3 => ?_, fun c3 => ?_⟩
      · skip
        exact hpost _ (iv_w (iv_lit (l := (-2)) (h := (-2)) (by decide)) (by decide))
      · skip
        refine ⟨iv_in (iv_lta (l := 0) (h := 9) (r_lt c2) (iv_leb (l := 0) (h := 2147483647) (r_nlt c1) (iv_lit (l := 0) (h := 0) (by decide)) (iv_top x2) (by decide)) k_ts0f_facts (by decide)) (by decide), ?_⟩
        exact hpost _ (iv_w (k_ts0a_heard _) (by decide))
      · skip
        refine ⟨iv_in (iv_lta (l := 0) (h := 9) (r_lt c2) (iv_leb (l := 0) (h := 2147483647) (r_nlt c1) (iv_lit (l := 0) (h := 0) (by decide)) (iv_top x2) (by decide)) k_ts0f_facts (by decide)) (by decide), ?_⟩
        exact hpost _ (iv_w (k_ts0a_huts _) (by decide))
      · skip
        refine ⟨iv_in (iv_lta (l := 0) (h := 9) (r_lt c2) (iv_leb (l := 0) (h := 2147483647) (r_nlt c1) (iv_lit (l := 0) (h := 0) (by decide)) (iv_top x2) (by decide)) k_ts0f_facts (by decide)) (by decide), ?_⟩
        exact hpost _ (iv_w (k_ts0a_minutes _) (by decide))
    · skip
      exact s_wx_X10_fact_43 k_ta_counts k_ts0f_facts k_ts0a_heard k_ts0a_huts k_ts0a_minutes k_ts1f_facts k_ts1a_heard k_ts1a_huts k_ts1a_minutes hpost
set_option maxRecDepth 20000 in
theorem s_wx_X10_fact_30k1 {ta_counts : Nat → Int32} {ts0f_facts : Int32} {ts0a_heard : Nat → Int32} {ts0a_huts : Nat → Int32} {ts0a_minutes : Nat → Int32} {ts1f_facts : Int32} {ts1a_heard : Nat → Int32} {ts1a_huts : Nat → Int32} {ts1a_minutes : Nat → Int32} {x2 : Int32} {x3 : Int32} {post : Int32 → Prop} (k_ta_counts : ∀ j, iv 0 2 (ta_counts j)) (k_ts0f_facts : iv 0 10 ts0f_facts) (k_ts0a_heard : ∀ j, iv 0 1 (ts0a_heard j)) (k_ts0a_huts : ∀ j, iv 0 8 (ts0a_huts j)) (k_ts0a_minutes : ∀ j, iv 0 60 (ts0a_minutes j)) (k_ts1f_facts : iv 0 10 ts1f_facts) (k_ts1a_heard : ∀ j, iv 0 1 (ts1a_heard j)) (k_ts1a_huts : ∀ j, iv 0 8 (ts1a_huts j)) (k_ts1a_minutes : ∀ j, iv 0 60 (ts1a_minutes j)) (hpost : ∀ (r : Int32), iv (-2) 60 r → post r) : q_wx_X10_fact_30k1 ta_counts ts0f_facts ts0a_heard ts0a_huts ts0a_minutes ts1f_facts ts1a_heard ts1a_huts ts1a_minutes x2 x3 post := by
  refine ⟨fun c1 => ?_, fun c1 => ?_⟩
  · skip
    exact s_wx_X10_fact_43 k_ta_counts k_ts0f_facts k_ts0a_heard k_ts0a_huts k_ts0a_minutes k_ts1f_facts k_ts1a_heard k_ts1a_huts k_ts1a_minutes hpost
  · skip
    refine ⟨fun c2 => ?_, fun c2 => ?_⟩
    · skip
      refine ⟨fun c3 => ?_, fun c3 => ?_, fun c3 => ?_, fun c3 => ?_⟩
      · skip
        exact hpost _ (iv_w (iv_lit (l := (-2)) (h := (-2)) (by decide)) (by decide))
      · skip
        refine ⟨iv_in (iv_lta (l := 0) (h := 9) (r_lt c2) (iv_leb (l := 0) (h := 2147483647) (r_nlt c1) (iv_lit (l := 0) (h := 0) (by decide)) (iv_top x2) (by decide)) k_ts1f_facts (by decide)) (by decide), ?_⟩
        exact hpost _ (iv_w (k_ts1a_heard _) (by decide))
      · skip
        refine ⟨iv_in (iv_lta (l := 0) (h := 9) (r_lt c2) (iv_leb (l := 0) (h := 2147483647) (r_nlt c1) (iv_lit (l := 0) (h := 0) (by decide)) (iv_top x2) (by decide)) k_ts1f_facts (by decide)) (by decide), ?_⟩
        exact hpost _ (iv_w (k_ts1a_huts _) (by decide))
      · skip
        refine ⟨iv_in (iv_lta (l := 0) (h := 9) (r_lt c2) (iv_leb (l := 0) (h := 2147483647) (r_nlt c1) (iv_lit (l := 0) (h := 0) (by decide)) (iv_top x2) (by decide)) k_ts1f_facts (by decide)) (by decide), ?_⟩
        exact hpost _ (iv_w (k_ts1a_minutes _) (by decide))
    · skip
      exact s_wx_X10_fact_43 k_ta_counts k_ts0f_facts k_ts0a_heard k_ts0a_huts k_ts0a_minutes k_ts1f_facts k_ts1a_heard k_ts1a_huts k_ts1a_minutes hpost
set_option maxRecDepth 20000 in
theorem s_wx_X10_fact_0 {ta_counts : Nat → Int32} {ts0f_facts : Int32} {ts0a_heard : Nat → Int32} {ts0a_huts : Nat → Int32} {ts0a_minutes : Nat → Int32} {ts1f_facts : Int32} {ts1a_heard : Nat → Int32} {ts1a_huts : Nat → Int32} {ts1a_minutes : Nat → Int32} {x1 : Int32} {x2 : Int32} {x3 : Int32} {post : Int32 → Prop} (k_ta_counts : ∀ j, iv 0 2 (ta_counts j)) (k_ts0f_facts : iv 0 10 ts0f_facts) (k_ts0a_heard : ∀ j, iv 0 1 (ts0a_heard j)) (k_ts0a_huts : ∀ j, iv 0 8 (ts0a_huts j)) (k_ts0a_minutes : ∀ j, iv 0 60 (ts0a_minutes j)) (k_ts1f_facts : iv 0 10 ts1f_facts) (k_ts1a_heard : ∀ j, iv 0 1 (ts1a_heard j)) (k_ts1a_huts : ∀ j, iv 0 8 (ts1a_huts j)) (k_ts1a_minutes : ∀ j, iv 0 60 (ts1a_minutes j)) (hpost : ∀ (r : Int32), iv (-2) 60 r → post r) : q_wx_X10_fact_0 ta_counts ts0f_facts ts0a_heard ts0a_huts ts0a_minutes ts1f_facts ts1a_heard ts1a_huts ts1a_minutes x1 x2 x3 post := by
  refine ⟨fun c1 => ?_, fun c1 => ?_⟩
  · skip
    refine ⟨fun _ => ?_, fun h => absurd h (by decide), fun h0 h1 => absurd rfl h0⟩
    exact hpost _ (iv_w (iv_lit (l := (-2)) (h := (-2)) (by decide)) (by decide))
  · skip
    refine ⟨fun c2 => ?_, fun c2 => ?_⟩
    · skip
      refine ⟨fun _ => ?_, fun h => absurd h (by decide), fun h0 h1 => absurd rfl h0⟩
      exact hpost _ (iv_w (iv_lit (l := (-2)) (h := (-2)) (by decide)) (by decide))
    · skip
      refine ⟨iv_in (iv_lta (l := 0) (h := 1) (r_nle c2) (iv_leb (l := 0) (h := 2147483647) (r_nlt c1) (iv_lit (l := 0) (h := 0) (by decide)) (iv_top x1) (by decide)) (k_ta_counts _) (by decide)) (by decide), fun hc => ?_, fun hc => ?_⟩
      · skip
        refine ⟨fun h => absurd h (by decide), fun h => absurd h (by decide), fun h0 h1 => ?_⟩
        refine ⟨fun c3 => ?_, fun c3 => ?_⟩
        · skip
          exact s_wx_X10_fact_30k0 k_ta_counts k_ts0f_facts k_ts0a_heard k_ts0a_huts k_ts0a_minutes k_ts1f_facts k_ts1a_heard k_ts1a_huts k_ts1a_minutes hpost
        · skip
          refine ⟨fun c4 => ?_, fun c4 => ?_⟩
          · skip
            exact s_wx_X10_fact_30k0 k_ta_counts k_ts0f_facts k_ts0a_heard k_ts0a_huts k_ts0a_minutes k_ts1f_facts k_ts1a_heard k_ts1a_huts k_ts1a_minutes hpost
          · skip
            exact hpost _ (iv_w k_ts0f_facts (by decide))
      · skip
        refine ⟨fun h => absurd h (by decide), fun _ => ?_, fun h0 h1 => absurd rfl h1⟩
        refine ⟨fun c5 => ?_, fun c5 => ?_⟩
        · skip
          exact s_wx_X10_fact_30k1 k_ta_counts k_ts0f_facts k_ts0a_heard k_ts0a_huts k_ts0a_minutes k_ts1f_facts k_ts1a_heard k_ts1a_huts k_ts1a_minutes hpost
        · skip
          refine ⟨fun c6 => ?_, fun c6 => ?_⟩
          · skip
            exact s_wx_X10_fact_30k1 k_ta_counts k_ts0f_facts k_ts0a_heard k_ts0a_huts k_ts0a_minutes k_ts1f_facts k_ts1a_heard k_ts1a_huts k_ts1a_minutes hpost
          · skip
            exact hpost _ (iv_w k_ts1f_facts (by decide))
-- wx_X10_fits
set_option maxRecDepth 20000 in
theorem s_wx_X10_fits_0 {ta_counts : Nat → Int32} {tl0f_huts : Int32} {tl0f_dams : Int32} {tl0f_echoes : Int32} {tl0a_heights : Nat → Int32} {tl0a_minutes : Nat → Int32} {tl0a_echoFrom : Nat → Int32} {tl0a_echoTo : Nat → Int32} {tl1f_huts : Int32} {tl1f_dams : Int32} {tl1f_echoes : Int32} {tl1a_heights : Nat → Int32} {tl1a_minutes : Nat → Int32} {tl1a_echoFrom : Nat → Int32} {tl1a_echoTo : Nat → Int32} {ts0f_facts : Int32} {ts0a_heard : Nat → Int32} {ts0a_huts : Nat → Int32} {ts0a_minutes : Nat → Int32} {ts1f_facts : Int32} {ts1a_heard : Nat → Int32} {ts1a_huts : Nat → Int32} {ts1a_minutes : Nat → Int32} {pa_heard : Nat → Int32} {x1 : Int32} {x2 : Int32} {x3 : Int32} {post : Int32 → (Nat → Int32) → Prop} (k_ta_counts : ∀ j, iv 0 2 (ta_counts j)) (k_tl0f_huts : iv 0 9 tl0f_huts) (k_tl0f_dams : iv 0 511 tl0f_dams) (k_tl0f_echoes : iv 0 4 tl0f_echoes) (k_tl0a_heights : ∀ j, iv 0 99 (tl0a_heights j)) (k_tl0a_minutes : ∀ j, iv 0 9 (tl0a_minutes j)) (k_tl0a_echoFrom : ∀ j, iv 0 8 (tl0a_echoFrom j)) (k_tl0a_echoTo : ∀ j, iv 0 8 (tl0a_echoTo j)) (k_tl1f_huts : iv 0 9 tl1f_huts) (k_tl1f_dams : iv 0 511 tl1f_dams) (k_tl1f_echoes : iv 0 4 tl1f_echoes) (k_tl1a_heights : ∀ j, iv 0 99 (tl1a_heights j)) (k_tl1a_minutes : ∀ j, iv 0 9 (tl1a_minutes j)) (k_tl1a_echoFrom : ∀ j, iv 0 8 (tl1a_echoFrom j)) (k_tl1a_echoTo : ∀ j, iv 0 8 (tl1a_echoTo j)) (k_ts0f_facts : iv 0 10 ts0f_facts) (k_ts0a_heard : ∀ j, iv 0 1 (ts0a_heard j)) (k_ts0a_huts : ∀ j, iv 0 8 (ts0a_huts j)) (k_ts0a_minutes : ∀ j, iv 0 60 (ts0a_minutes j)) (k_ts1f_facts : iv 0 10 ts1f_facts) (k_ts1a_heard : ∀ j, iv 0 1 (ts1a_heard j)) (k_ts1a_huts : ∀ j, iv 0 8 (ts1a_huts j)) (k_ts1a_minutes : ∀ j, iv 0 60 (ts1a_minutes j)) (k_pa_heard : ∀ j, iv 0 1000 (pa_heard j)) (hpost : ∀ (r : Int32) (pa_heard : Nat → Int32), iv (-2) 2147483647 r → (∀ j, iv 0 1000 (pa_heard j)) → post r pa_heard) : q_wx_X10_fits_0 ta_counts tl0f_huts tl0f_dams tl0f_echoes tl0a_heights tl0a_minutes tl0a_echoFrom tl0a_echoTo tl1f_huts tl1f_dams tl1f_echoes tl1a_heights tl1a_minutes tl1a_echoFrom tl1a_echoTo ts0f_facts ts0a_heard ts0a_huts ts0a_minutes ts1f_facts ts1a_heard ts1a_huts ts1a_minutes pa_heard x1 x2 x3 post := by
  refine ⟨fun c1 => ?_, fun c1 => ?_⟩
  · skip
    refine ⟨fun _ => ?_, fun h => absurd h (by decide), fun h0 h1 => absurd rfl h0⟩
    refine ⟨fun c2 => ?_, fun c2 => ?_⟩
    · skip
      refine ⟨fun _ => ?_, fun h => absurd h (by decide), fun h0 h1 => absurd rfl h0⟩
      exact hpost _ _ (iv_w (iv_lit (l := (-2)) (h := (-2)) (by decide)) (by decide)) k_pa_heard
    · skip
      refine ⟨fun c3 => ?_, fun c3 => ?_⟩
      · skip
        refine ⟨fun _ => ?_, fun h => absurd h (by decide), fun h0 h1 => absurd rfl h0⟩
        exact hpost _ _ (iv_w (iv_lit (l := (-2)) (h := (-2)) (by decide)) (by decide)) k_pa_heard
      · skip
        refine ⟨iv_in (iv_lta (l := 0) (h := 1) (r_nle c3) (iv_leb (l := 0) (h := 2147483647) (r_nlt c2) (iv_lit (l := 0) (h := 0) (by decide)) (iv_top x2) (by decide)) (k_ta_counts _) (by decide)) (by decide), fun hc => ?_, fun hc => ?_⟩
        · skip
          refine ⟨fun h => absurd h (by decide), fun h => absurd h (by decide), fun h0 h1 => ?_⟩
          exact hpost _ _ (iv_w (iv_lit (l := (-2)) (h := (-2)) (by decide)) (by decide)) k_pa_heard
        · skip
          refine ⟨fun h => absurd h (by decide), fun _ => ?_, fun h0 h1 => absurd rfl h1⟩
          exact hpost _ _ (iv_w (iv_lit (l := (-2)) (h := (-2)) (by decide)) (by decide)) k_pa_heard
  · skip
    refine ⟨fun c4 => ?_, fun c4 => ?_⟩
    · skip
      refine ⟨fun _ => ?_, fun h => absurd h (by decide), fun h0 h1 => absurd rfl h0⟩
      refine ⟨fun c5 => ?_, fun c5 => ?_⟩
      · skip
        refine ⟨fun _ => ?_, fun h => absurd h (by decide), fun h0 h1 => absurd rfl h0⟩
        exact hpost _ _ (iv_w (iv_lit (l := (-2)) (h := (-2)) (by decide)) (by decide)) k_pa_heard
      · skip
        refine ⟨fun c6 => ?_, fun c6 => ?_⟩
        · skip
          refine ⟨fun _ => ?_, fun h => absurd h (by decide), fun h0 h1 => absurd rfl h0⟩
          exact hpost _ _ (iv_w (iv_lit (l := (-2)) (h := (-2)) (by decide)) (by decide)) k_pa_heard
        · skip
          refine ⟨iv_in (iv_lta (l := 0) (h := 1) (r_nle c6) (iv_leb (l := 0) (h := 2147483647) (r_nlt c5) (iv_lit (l := 0) (h := 0) (by decide)) (iv_top x2) (by decide)) (k_ta_counts _) (by decide)) (by decide), fun hc => ?_, fun hc => ?_⟩
          · skip
            refine ⟨fun h => absurd h (by decide), fun h => absurd h (by decide), fun h0 h1 => ?_⟩
            exact hpost _ _ (iv_w (iv_lit (l := (-2)) (h := (-2)) (by decide)) (by decide)) k_pa_heard
          · skip
            refine ⟨fun h => absurd h (by decide), fun _ => ?_, fun h0 h1 => absurd rfl h1⟩
            exact hpost _ _ (iv_w (iv_lit (l := (-2)) (h := (-2)) (by decide)) (by decide)) k_pa_heard
    · skip
      refine ⟨iv_in (iv_lta (l := 0) (h := 1) (r_nle c4) (iv_leb (l := 0) (h := 2147483647) (r_nlt c1) (iv_lit (l := 0) (h := 0) (by decide)) (iv_top x1) (by decide)) (k_ta_counts _) (by decide)) (by decide), fun hc => ?_, fun hc => ?_⟩
      · skip
        refine ⟨fun h => absurd h (by decide), fun h => absurd h (by decide), fun h0 h1 => ?_⟩
        refine ⟨fun c7 => ?_, fun c7 => ?_⟩
        · skip
          refine ⟨fun _ => ?_, fun h => absurd h (by decide), fun h0 h1 => absurd rfl h0⟩
          exact hpost _ _ (iv_w (iv_lit (l := (-2)) (h := (-2)) (by decide)) (by decide)) k_pa_heard
        · skip
          refine ⟨fun c8 => ?_, fun c8 => ?_⟩
          · skip
            refine ⟨fun _ => ?_, fun h => absurd h (by decide), fun h0 h1 => absurd rfl h0⟩
            exact hpost _ _ (iv_w (iv_lit (l := (-2)) (h := (-2)) (by decide)) (by decide)) k_pa_heard
          · skip
            refine ⟨iv_in (iv_lta (l := 0) (h := 1) (r_nle c8) (iv_leb (l := 0) (h := 2147483647) (r_nlt c7) (iv_lit (l := 0) (h := 0) (by decide)) (iv_top x2) (by decide)) (k_ta_counts _) (by decide)) (by decide), fun hc => ?_, fun hc => ?_⟩
            · skip
              refine ⟨fun h => absurd h (by decide), fun h => absurd h (by decide), fun h0 h1 => ?_⟩
              refine s_ws_X6_staysWithin_0 k_ts0f_facts k_ts0a_huts k_tl0f_huts (fun r9 hr9 => ?_)
              refine ⟨fun c10 => ?_, fun c10 => ?_⟩
              · skip
                refine s_wp_X7_hear_9_0 k_pa_heard k_tl0f_huts k_tl0f_dams k_tl0f_echoes k_tl0a_heights k_tl0a_minutes k_tl0a_echoFrom k_tl0a_echoTo (fun o11 k_o11 => ?_)
                refine s_wp_X7_fitting_9_18_0 k_o11 k_tl0f_huts k_tl0f_dams k_ts0f_facts k_ts0a_heard k_ts0a_huts k_ts0a_minutes (fun r12 hr12 => ?_)
                refine ⟨fun c13 => ?_, fun c13 => ?_⟩
                · skip
                  exact hpost _ _ (iv_w hr12 (by decide)) k_o11
                · skip
                  refine s_wp_X7_question_9_0 k_o11 k_tl0f_huts hr12 (fun r14 hr14 => ?_)
                  exact hpost _ _ (iv_w hr14 (by decide)) k_o11
              · skip
                exact hpost _ _ (iv_w (iv_lit (l := (-2)) (h := (-2)) (by decide)) (by decide)) k_pa_heard
            · skip
              refine ⟨fun h => absurd h (by decide), fun _ => ?_, fun h0 h1 => absurd rfl h1⟩
              refine s_ws_X6_staysWithin_0 k_ts1f_facts k_ts1a_huts k_tl0f_huts (fun r15 hr15 => ?_)
              refine ⟨fun c16 => ?_, fun c16 => ?_⟩
              · skip
                refine s_wp_X7_hear_9_0 k_pa_heard k_tl0f_huts k_tl0f_dams k_tl0f_echoes k_tl0a_heights k_tl0a_minutes k_tl0a_echoFrom k_tl0a_echoTo (fun o17 k_o17 => ?_)
                refine s_wp_X7_fitting_9_18_0 k_o17 k_tl0f_huts k_tl0f_dams k_ts1f_facts k_ts1a_heard k_ts1a_huts k_ts1a_minutes (fun r18 hr18 => ?_)
                refine ⟨fun c19 => ?_, fun c19 => ?_⟩
                · skip
                  exact hpost _ _ (iv_w hr18 (by decide)) k_o17
                · skip
                  refine s_wp_X7_question_9_0 k_o17 k_tl0f_huts hr18 (fun r20 hr20 => ?_)
                  exact hpost _ _ (iv_w hr20 (by decide)) k_o17
              · skip
                exact hpost _ _ (iv_w (iv_lit (l := (-2)) (h := (-2)) (by decide)) (by decide)) k_pa_heard
      · skip
        refine ⟨fun h => absurd h (by decide), fun _ => ?_, fun h0 h1 => absurd rfl h1⟩
        refine ⟨fun c21 => ?_, fun c21 => ?_⟩
        · skip
          refine ⟨fun _ => ?_, fun h => absurd h (by decide), fun h0 h1 => absurd rfl h0⟩
          exact hpost _ _ (iv_w (iv_lit (l := (-2)) (h := (-2)) (by decide)) (by decide)) k_pa_heard
        · skip
          refine ⟨fun c22 => ?_, fun c22 => ?_⟩
          · skip
            refine ⟨fun _ => ?_, fun h => absurd h (by decide), fun h0 h1 => absurd rfl h0⟩
            exact hpost _ _ (iv_w (iv_lit (l := (-2)) (h := (-2)) (by decide)) (by decide)) k_pa_heard
          · skip
            refine ⟨iv_in (iv_lta (l := 0) (h := 1) (r_nle c22) (iv_leb (l := 0) (h := 2147483647) (r_nlt c21) (iv_lit (l := 0) (h := 0) (by decide)) (iv_top x2) (by decide)) (k_ta_counts _) (by decide)) (by decide), fun hc => ?_, fun hc => ?_⟩
            · skip
              refine ⟨fun h => absurd h (by decide), fun h => absurd h (by decide), fun h0 h1 => ?_⟩
              refine s_ws_X6_staysWithin_0 k_ts0f_facts k_ts0a_huts k_tl1f_huts (fun r23 hr23 => ?_)
              refine ⟨fun c24 => ?_, fun c24 => ?_⟩
              · skip
                refine s_wp_X7_hear_9_0 k_pa_heard k_tl1f_huts k_tl1f_dams k_tl1f_echoes k_tl1a_heights k_tl1a_minutes k_tl1a_echoFrom k_tl1a_echoTo (fun o25 k_o25 => ?_)
                refine s_wp_X7_fitting_9_18_0 k_o25 k_tl1f_huts k_tl1f_dams k_ts0f_facts k_ts0a_heard k_ts0a_huts k_ts0a_minutes (fun r26 hr26 => ?_)
                refine ⟨fun c27 => ?_, fun c27 => ?_⟩
                · skip
                  exact hpost _ _ (iv_w hr26 (by decide)) k_o25
                · skip
                  refine s_wp_X7_question_9_0 k_o25 k_tl1f_huts hr26 (fun r28 hr28 => ?_)
                  exact hpost _ _ (iv_w hr28 (by decide)) k_o25
              · skip
                exact hpost _ _ (iv_w (iv_lit (l := (-2)) (h := (-2)) (by decide)) (by decide)) k_pa_heard
            · skip
              refine ⟨fun h => absurd h (by decide), fun _ => ?_, fun h0 h1 => absurd rfl h1⟩
              refine s_ws_X6_staysWithin_0 k_ts1f_facts k_ts1a_huts k_tl1f_huts (fun r29 hr29 => ?_)
              refine ⟨fun c30 => ?_, fun c30 => ?_⟩
              · skip
                refine s_wp_X7_hear_9_0 k_pa_heard k_tl1f_huts k_tl1f_dams k_tl1f_echoes k_tl1a_heights k_tl1a_minutes k_tl1a_echoFrom k_tl1a_echoTo (fun o31 k_o31 => ?_)
                refine s_wp_X7_fitting_9_18_0 k_o31 k_tl1f_huts k_tl1f_dams k_ts1f_facts k_ts1a_heard k_ts1a_huts k_ts1a_minutes (fun r32 hr32 => ?_)
                refine ⟨fun c33 => ?_, fun c33 => ?_⟩
                · skip
                  exact hpost _ _ (iv_w hr32 (by decide)) k_o31
                · skip
                  refine s_wp_X7_question_9_0 k_o31 k_tl1f_huts hr32 (fun r34 hr34 => ?_)
                  exact hpost _ _ (iv_w hr34 (by decide)) k_o31
              · skip
                exact hpost _ _ (iv_w (iv_lit (l := (-2)) (h := (-2)) (by decide)) (by decide)) k_pa_heard
-- wx_X10_odds
set_option maxRecDepth 20000 in
theorem s_wx_X10_odds_117 {ta_counts : Nat → Int32} {tl0f_huts : Int32} {tl0f_singers : Int32} {tl0f_dams : Int32} {tl0f_echoes : Int32} {tl0f_deep : Int32} {tl0f_slide : Int32} {tl0a_heights : Nat → Int32} {tl0a_ladders : Nat → Int32} {tl0a_minutes : Nat → Int32} {tl0a_echoFrom : Nat → Int32} {tl0a_echoTo : Nat → Int32} {tl0a_homes : Nat → Int32} {tl0a_talls : Nat → Int32} {tl0a_known : Nat → Int32} {tl1f_huts : Int32} {tl1f_singers : Int32} {tl1f_dams : Int32} {tl1f_echoes : Int32} {tl1f_deep : Int32} {tl1f_slide : Int32} {tl1a_heights : Nat → Int32} {tl1a_ladders : Nat → Int32} {tl1a_minutes : Nat → Int32} {tl1a_echoFrom : Nat → Int32} {tl1a_echoTo : Nat → Int32} {tl1a_homes : Nat → Int32} {tl1a_talls : Nat → Int32} {tl1a_known : Nat → Int32} {tv0f_deeds : Int32} {tv0a_kinds : Nat → Int32} {tv0a_firsts : Nat → Int32} {tv0a_seconds : Nat → Int32} {tv1f_deeds : Int32} {tv1a_kinds : Nat → Int32} {tv1a_firsts : Nat → Int32} {tv1a_seconds : Nat → Int32} {nf_minute : Int32} {nf_avalanches : Int32} {nf_begun : Int32} {nf_climbed : Int32} {na_huts : Nat → Int32} {na_known : Nat → Int32} {na_levels : Nat → Int32} {na_snow : Nat → Int32} {x6 : Int32} {y0 : Int32} {post : Int64 → (Int32) → (Int32) → (Int32) → (Int32) → (Nat → Int32) → (Nat → Int32) → (Nat → Int32) → (Nat → Int32) → Prop} (k_ta_counts : ∀ j, iv 0 2 (ta_counts j)) (k_tl0f_huts : iv 0 9 tl0f_huts) (k_tl0f_singers : iv 0 6 tl0f_singers) (k_tl0f_dams : iv 0 511 tl0f_dams) (k_tl0f_echoes : iv 0 4 tl0f_echoes) (k_tl0f_deep : iv 1 9 tl0f_deep) (k_tl0f_slide : iv 0 10 tl0f_slide) (k_tl0a_heights : ∀ j, iv 0 99 (tl0a_heights j)) (k_tl0a_ladders : ∀ j, iv 0 9 (tl0a_ladders j)) (k_tl0a_minutes : ∀ j, iv 0 9 (tl0a_minutes j)) (k_tl0a_echoFrom : ∀ j, iv 0 8 (tl0a_echoFrom j)) (k_tl0a_echoTo : ∀ j, iv 0 8 (tl0a_echoTo j)) (k_tl0a_homes : ∀ j, iv 0 8 (tl0a_homes j)) (k_tl0a_talls : ∀ j, iv 0 9 (tl0a_talls j)) (k_tl0a_known : ∀ j, iv 0 31 (tl0a_known j)) (k_tl1f_huts : iv 0 9 tl1f_huts) (k_tl1f_singers : iv 0 6 tl1f_singers) (k_tl1f_dams : iv 0 511 tl1f_dams) (k_tl1f_echoes : iv 0 4 tl1f_echoes) (k_tl1f_deep : iv 1 9 tl1f_deep) (k_tl1f_slide : iv 0 10 tl1f_slide) (k_tl1a_heights : ∀ j, iv 0 99 (tl1a_heights j)) (k_tl1a_ladders : ∀ j, iv 0 9 (tl1a_ladders j)) (k_tl1a_minutes : ∀ j, iv 0 9 (tl1a_minutes j)) (k_tl1a_echoFrom : ∀ j, iv 0 8 (tl1a_echoFrom j)) (k_tl1a_echoTo : ∀ j, iv 0 8 (tl1a_echoTo j)) (k_tl1a_homes : ∀ j, iv 0 8 (tl1a_homes j)) (k_tl1a_talls : ∀ j, iv 0 9 (tl1a_talls j)) (k_tl1a_known : ∀ j, iv 0 31 (tl1a_known j)) (k_tv0f_deeds : iv 0 40 tv0f_deeds) (k_tv0a_kinds : ∀ j, iv 0 5 (tv0a_kinds j)) (k_tv0a_firsts : ∀ j, iv 0 5 (tv0a_firsts j)) (k_tv0a_seconds : ∀ j, iv (-1) 8 (tv0a_seconds j)) (k_tv1f_deeds : iv 0 40 tv1f_deeds) (k_tv1a_kinds : ∀ j, iv 0 5 (tv1a_kinds j)) (k_tv1a_firsts : ∀ j, iv 0 5 (tv1a_firsts j)) (k_tv1a_seconds : ∀ j, iv (-1) 8 (tv1a_seconds j)) (k_nf_avalanches : iv (-2147483648) 18 nf_avalanches) (k_nf_begun : iv 0 31 nf_begun) (k_nf_climbed : iv 0 63 nf_climbed) (k_na_huts : ∀ j, iv 0 8 (na_huts j)) (k_na_known : ∀ j, iv 0 31 (na_known j)) (k_na_levels : ∀ j, iv (-9) 122 (na_levels j)) (hx6 : iv 1 10 x6) (hy0 : iv 0 10 y0) (hpost : ∀ (r : Int64) (nf_minute : Int32) (nf_avalanches : Int32) (nf_begun : Int32) (nf_climbed : Int32) (na_huts : Nat → Int32) (na_known : Nat → Int32) (na_levels : Nat → Int32) (na_snow : Nat → Int32), (iv 0 31 nf_begun) → (iv 0 63 nf_climbed) → (∀ j, iv 0 8 (na_huts j)) → (∀ j, iv 0 31 (na_known j)) → (∀ j, iv (-9) 122 (na_levels j)) → post r nf_minute nf_avalanches nf_begun nf_climbed na_huts na_known na_levels na_snow) : q_wx_X10_odds_117 ta_counts tl0f_huts tl0f_singers tl0f_dams tl0f_echoes tl0f_deep tl0f_slide tl0a_heights tl0a_ladders tl0a_minutes tl0a_echoFrom tl0a_echoTo tl0a_homes tl0a_talls tl0a_known tl1f_huts tl1f_singers tl1f_dams tl1f_echoes tl1f_deep tl1f_slide tl1a_heights tl1a_ladders tl1a_minutes tl1a_echoFrom tl1a_echoTo tl1a_homes tl1a_talls tl1a_known tv0f_deeds tv0a_kinds tv0a_firsts tv0a_seconds tv1f_deeds tv1a_kinds tv1a_firsts tv1a_seconds nf_minute nf_avalanches nf_begun nf_climbed na_huts na_known na_levels na_snow x6 y0 post := by
  refine ⟨iv_ne0 hx6 (by decide), ?_⟩
  refine s_z_X10_power_0 (iv_div (l := 0) (h := 10) hy0 hx6 (by decide)) k_nf_avalanches (fun r1 => ?_)
  exact hpost _ _ _ _ _ _ _ _ _ k_nf_begun k_nf_climbed k_na_huts k_na_known k_na_levels
set_option maxRecDepth 20000 in
theorem s_wx_X10_odds_0 {ta_counts : Nat → Int32} {tl0f_huts : Int32} {tl0f_singers : Int32} {tl0f_dams : Int32} {tl0f_echoes : Int32} {tl0f_deep : Int32} {tl0f_slide : Int32} {tl0a_heights : Nat → Int32} {tl0a_ladders : Nat → Int32} {tl0a_minutes : Nat → Int32} {tl0a_echoFrom : Nat → Int32} {tl0a_echoTo : Nat → Int32} {tl0a_homes : Nat → Int32} {tl0a_talls : Nat → Int32} {tl0a_known : Nat → Int32} {tl1f_huts : Int32} {tl1f_singers : Int32} {tl1f_dams : Int32} {tl1f_echoes : Int32} {tl1f_deep : Int32} {tl1f_slide : Int32} {tl1a_heights : Nat → Int32} {tl1a_ladders : Nat → Int32} {tl1a_minutes : Nat → Int32} {tl1a_echoFrom : Nat → Int32} {tl1a_echoTo : Nat → Int32} {tl1a_homes : Nat → Int32} {tl1a_talls : Nat → Int32} {tl1a_known : Nat → Int32} {tv0f_deeds : Int32} {tv0a_kinds : Nat → Int32} {tv0a_firsts : Nat → Int32} {tv0a_seconds : Nat → Int32} {tv1f_deeds : Int32} {tv1a_kinds : Nat → Int32} {tv1a_firsts : Nat → Int32} {tv1a_seconds : Nat → Int32} {nf_minute : Int32} {nf_avalanches : Int32} {nf_begun : Int32} {nf_climbed : Int32} {na_huts : Nat → Int32} {na_known : Nat → Int32} {na_levels : Nat → Int32} {na_snow : Nat → Int32} {x1 : Int32} {x2 : Int32} {x3 : Int32} {post : Int64 → (Int32) → (Int32) → (Int32) → (Int32) → (Nat → Int32) → (Nat → Int32) → (Nat → Int32) → (Nat → Int32) → Prop} (k_ta_counts : ∀ j, iv 0 2 (ta_counts j)) (k_tl0f_huts : iv 0 9 tl0f_huts) (k_tl0f_singers : iv 0 6 tl0f_singers) (k_tl0f_dams : iv 0 511 tl0f_dams) (k_tl0f_echoes : iv 0 4 tl0f_echoes) (k_tl0f_deep : iv 1 9 tl0f_deep) (k_tl0f_slide : iv 0 10 tl0f_slide) (k_tl0a_heights : ∀ j, iv 0 99 (tl0a_heights j)) (k_tl0a_ladders : ∀ j, iv 0 9 (tl0a_ladders j)) (k_tl0a_minutes : ∀ j, iv 0 9 (tl0a_minutes j)) (k_tl0a_echoFrom : ∀ j, iv 0 8 (tl0a_echoFrom j)) (k_tl0a_echoTo : ∀ j, iv 0 8 (tl0a_echoTo j)) (k_tl0a_homes : ∀ j, iv 0 8 (tl0a_homes j)) (k_tl0a_talls : ∀ j, iv 0 9 (tl0a_talls j)) (k_tl0a_known : ∀ j, iv 0 31 (tl0a_known j)) (k_tl1f_huts : iv 0 9 tl1f_huts) (k_tl1f_singers : iv 0 6 tl1f_singers) (k_tl1f_dams : iv 0 511 tl1f_dams) (k_tl1f_echoes : iv 0 4 tl1f_echoes) (k_tl1f_deep : iv 1 9 tl1f_deep) (k_tl1f_slide : iv 0 10 tl1f_slide) (k_tl1a_heights : ∀ j, iv 0 99 (tl1a_heights j)) (k_tl1a_ladders : ∀ j, iv 0 9 (tl1a_ladders j)) (k_tl1a_minutes : ∀ j, iv 0 9 (tl1a_minutes j)) (k_tl1a_echoFrom : ∀ j, iv 0 8 (tl1a_echoFrom j)) (k_tl1a_echoTo : ∀ j, iv 0 8 (tl1a_echoTo j)) (k_tl1a_homes : ∀ j, iv 0 8 (tl1a_homes j)) (k_tl1a_talls : ∀ j, iv 0 9 (tl1a_talls j)) (k_tl1a_known : ∀ j, iv 0 31 (tl1a_known j)) (k_tv0f_deeds : iv 0 40 tv0f_deeds) (k_tv0a_kinds : ∀ j, iv 0 5 (tv0a_kinds j)) (k_tv0a_firsts : ∀ j, iv 0 5 (tv0a_firsts j)) (k_tv0a_seconds : ∀ j, iv (-1) 8 (tv0a_seconds j)) (k_tv1f_deeds : iv 0 40 tv1f_deeds) (k_tv1a_kinds : ∀ j, iv 0 5 (tv1a_kinds j)) (k_tv1a_firsts : ∀ j, iv 0 5 (tv1a_firsts j)) (k_tv1a_seconds : ∀ j, iv (-1) 8 (tv1a_seconds j)) (k_nf_begun : iv 0 31 nf_begun) (k_nf_climbed : iv 0 63 nf_climbed) (k_na_huts : ∀ j, iv 0 8 (na_huts j)) (k_na_known : ∀ j, iv 0 31 (na_known j)) (k_na_levels : ∀ j, iv (-9) 122 (na_levels j)) (hpost : ∀ (r : Int64) (nf_minute : Int32) (nf_avalanches : Int32) (nf_begun : Int32) (nf_climbed : Int32) (na_huts : Nat → Int32) (na_known : Nat → Int32) (na_levels : Nat → Int32) (na_snow : Nat → Int32), (iv 0 31 nf_begun) → (iv 0 63 nf_climbed) → (∀ j, iv 0 8 (na_huts j)) → (∀ j, iv 0 31 (na_known j)) → (∀ j, iv (-9) 122 (na_levels j)) → post r nf_minute nf_avalanches nf_begun nf_climbed na_huts na_known na_levels na_snow) : q_wx_X10_odds_0 ta_counts tl0f_huts tl0f_singers tl0f_dams tl0f_echoes tl0f_deep tl0f_slide tl0a_heights tl0a_ladders tl0a_minutes tl0a_echoFrom tl0a_echoTo tl0a_homes tl0a_talls tl0a_known tl1f_huts tl1f_singers tl1f_dams tl1f_echoes tl1f_deep tl1f_slide tl1a_heights tl1a_ladders tl1a_minutes tl1a_echoFrom tl1a_echoTo tl1a_homes tl1a_talls tl1a_known tv0f_deeds tv0a_kinds tv0a_firsts tv0a_seconds tv1f_deeds tv1a_kinds tv1a_firsts tv1a_seconds nf_minute nf_avalanches nf_begun nf_climbed na_huts na_known na_levels na_snow x1 x2 x3 post := by
  refine ⟨fun c1 => ?_, fun c1 => ?_⟩
  · skip
    refine ⟨fun _ => ?_, fun h => absurd h (by decide), fun h0 h1 => absurd rfl h0⟩
    refine ⟨fun c2 => ?_, fun c2 => ?_⟩
    · skip
      refine ⟨fun _ => ?_, fun h => absurd h (by decide), fun h0 h1 => absurd rfl h0⟩
      exact hpost _ _ _ _ _ _ _ _ _ k_nf_begun k_nf_climbed k_na_huts k_na_known k_na_levels
    · skip
      refine ⟨fun c3 => ?_, fun c3 => ?_⟩
      · skip
        refine ⟨fun _ => ?_, fun h => absurd h (by decide), fun h0 h1 => absurd rfl h0⟩
        exact hpost _ _ _ _ _ _ _ _ _ k_nf_begun k_nf_climbed k_na_huts k_na_known k_na_levels
      · skip
        refine ⟨iv_in (iv_lta (l := 0) (h := 1) (r_nle c3) (iv_leb (l := 0) (h := 2147483647) (r_nlt c2) (iv_lit (l := 0) (h := 0) (by decide)) (iv_top x2) (by decide)) (k_ta_counts _) (by decide)) (by decide), fun hc => ?_, fun hc => ?_⟩
        · skip
          refine ⟨fun h => absurd h (by decide), fun h => absurd h (by decide), fun h0 h1 => ?_⟩
          exact hpost _ _ _ _ _ _ _ _ _ k_nf_begun k_nf_climbed k_na_huts k_na_known k_na_levels
        · skip
          refine ⟨fun h => absurd h (by decide), fun _ => ?_, fun h0 h1 => absurd rfl h1⟩
          exact hpost _ _ _ _ _ _ _ _ _ k_nf_begun k_nf_climbed k_na_huts k_na_known k_na_levels
  · skip
    refine ⟨fun c4 => ?_, fun c4 => ?_⟩
    · skip
      refine ⟨fun _ => ?_, fun h => absurd h (by decide), fun h0 h1 => absurd rfl h0⟩
      refine ⟨fun c5 => ?_, fun c5 => ?_⟩
      · skip
        refine ⟨fun _ => ?_, fun h => absurd h (by decide), fun h0 h1 => absurd rfl h0⟩
        exact hpost _ _ _ _ _ _ _ _ _ k_nf_begun k_nf_climbed k_na_huts k_na_known k_na_levels
      · skip
        refine ⟨fun c6 => ?_, fun c6 => ?_⟩
        · skip
          refine ⟨fun _ => ?_, fun h => absurd h (by decide), fun h0 h1 => absurd rfl h0⟩
          exact hpost _ _ _ _ _ _ _ _ _ k_nf_begun k_nf_climbed k_na_huts k_na_known k_na_levels
        · skip
          refine ⟨iv_in (iv_lta (l := 0) (h := 1) (r_nle c6) (iv_leb (l := 0) (h := 2147483647) (r_nlt c5) (iv_lit (l := 0) (h := 0) (by decide)) (iv_top x2) (by decide)) (k_ta_counts _) (by decide)) (by decide), fun hc => ?_, fun hc => ?_⟩
          · skip
            refine ⟨fun h => absurd h (by decide), fun h => absurd h (by decide), fun h0 h1 => ?_⟩
            exact hpost _ _ _ _ _ _ _ _ _ k_nf_begun k_nf_climbed k_na_huts k_na_known k_na_levels
          · skip
            refine ⟨fun h => absurd h (by decide), fun _ => ?_, fun h0 h1 => absurd rfl h1⟩
            exact hpost _ _ _ _ _ _ _ _ _ k_nf_begun k_nf_climbed k_na_huts k_na_known k_na_levels
    · skip
      refine ⟨iv_in (iv_lta (l := 0) (h := 1) (r_nle c4) (iv_leb (l := 0) (h := 2147483647) (r_nlt c1) (iv_lit (l := 0) (h := 0) (by decide)) (iv_top x1) (by decide)) (k_ta_counts _) (by decide)) (by decide), fun hc => ?_, fun hc => ?_⟩
      · skip
        refine ⟨fun h => absurd h (by decide), fun h => absurd h (by decide), fun h0 h1 => ?_⟩
        refine ⟨fun c7 => ?_, fun c7 => ?_⟩
        · skip
          refine ⟨fun _ => ?_, fun h => absurd h (by decide), fun h0 h1 => absurd rfl h0⟩
          exact hpost _ _ _ _ _ _ _ _ _ k_nf_begun k_nf_climbed k_na_huts k_na_known k_na_levels
        · skip
          refine ⟨fun c8 => ?_, fun c8 => ?_⟩
          · skip
            refine ⟨fun _ => ?_, fun h => absurd h (by decide), fun h0 h1 => absurd rfl h0⟩
            exact hpost _ _ _ _ _ _ _ _ _ k_nf_begun k_nf_climbed k_na_huts k_na_known k_na_levels
          · skip
            refine ⟨iv_in (iv_lta (l := 0) (h := 1) (r_nle c8) (iv_leb (l := 0) (h := 2147483647) (r_nlt c7) (iv_lit (l := 0) (h := 0) (by decide)) (iv_top x2) (by decide)) (k_ta_counts _) (by decide)) (by decide), fun hc => ?_, fun hc => ?_⟩
            · skip
              refine ⟨fun h => absurd h (by decide), fun h => absurd h (by decide), fun h0 h1 => ?_⟩
              refine ⟨fun c9 => ?_, fun c9 => ?_⟩
              · skip
                exact hpost _ _ _ _ _ _ _ _ _ k_nf_begun k_nf_climbed k_na_huts k_na_known k_na_levels
              · skip
                refine ⟨fun c10 => ?_, fun c10 => ?_⟩
                · skip
                  refine s_wn_X3_play_6_15_0 k_nf_begun k_nf_climbed k_na_huts k_na_known k_na_levels k_tl0f_huts k_tl0f_singers k_tl0f_dams k_tl0f_echoes k_tl0f_deep k_tl0a_heights k_tl0a_ladders k_tl0a_minutes k_tl0a_echoFrom k_tl0a_echoTo k_tl0a_homes k_tl0a_talls k_tl0a_known k_tv0f_deeds k_tv0a_kinds k_tv0a_firsts k_tv0a_seconds k_tv0f_deeds (fun r11 o12 o13 o14 o15 o16 o17 o18 o19 hr11 k_o14 k_o15 k_o16 k_o17 k_o18 => ?_)
                  refine ⟨fun c20 => ?_, fun c20 => ?_⟩
                  · skip
                    refine ⟨fun c21 => ?_, fun c21 => ?_⟩
                    · skip
                      refine ⟨fun c22 => ?_, fun c22 => ?_⟩
                      · skip
                        refine ⟨fun c23 => ?_, fun c23 => ?_⟩
                        · skip
                          refine ⟨fun c24 => ?_, fun c24 => ?_⟩
                          · skip
                            refine ⟨fun c25 => ?_, fun c25 => ?_⟩
                            · skip
                              exact s_wx_X10_odds_117 k_ta_counts k_tl0f_huts k_tl0f_singers k_tl0f_dams k_tl0f_echoes k_tl0f_deep k_tl0f_slide k_tl0a_heights k_tl0a_ladders k_tl0a_minutes k_tl0a_echoFrom k_tl0a_echoTo k_tl0a_homes k_tl0a_talls k_tl0a_known k_tl1f_huts k_tl1f_singers k_tl1f_dams k_tl1f_echoes k_tl1f_deep k_tl1f_slide k_tl1a_heights k_tl1a_ladders k_tl1a_minutes k_tl1a_echoFrom k_tl1a_echoTo k_tl1a_homes k_tl1a_talls k_tl1a_known k_tv0f_deeds k_tv0a_kinds k_tv0a_firsts k_tv0a_seconds k_tv1f_deeds k_tv1a_kinds k_tv1a_firsts k_tv1a_seconds (iv_lea (l := (-2147483648)) (h := 18) (r_le c21) (iv_top o13) (iv_lit (l := 18) (h := 18) (by decide)) (by decide)) k_o14 k_o15 k_o16 k_o17 k_o18 (iv_w (iv_lit (l := 1) (h := 1) (by decide)) (by decide)) (iv_w (iv_lit (l := 10) (h := 10) (by decide)) (by decide)) hpost
                            · skip
                              exact s_wx_X10_odds_117 k_ta_counts k_tl0f_huts k_tl0f_singers k_tl0f_dams k_tl0f_echoes k_tl0f_deep k_tl0f_slide k_tl0a_heights k_tl0a_ladders k_tl0a_minutes k_tl0a_echoFrom k_tl0a_echoTo k_tl0a_homes k_tl0a_talls k_tl0a_known k_tl1f_huts k_tl1f_singers k_tl1f_dams k_tl1f_echoes k_tl1f_deep k_tl1f_slide k_tl1a_heights k_tl1a_ladders k_tl1a_minutes k_tl1a_echoFrom k_tl1a_echoTo k_tl1a_homes k_tl1a_talls k_tl1a_known k_tv0f_deeds k_tv0a_kinds k_tv0a_firsts k_tv0a_seconds k_tv1f_deeds k_tv1a_kinds k_tv1a_firsts k_tv1a_seconds (iv_lea (l := (-2147483648)) (h := 18) (r_le c21) (iv_top o13) (iv_lit (l := 18) (h := 18) (by decide)) (by decide)) k_o14 k_o15 k_o16 k_o17 k_o18 (iv_w (iv_lit (l := 1) (h := 1) (by decide)) (by decide)) k_tl0f_slide hpost
                          · skip
                            refine ⟨fun c26 => ?_, fun c26 => ?_⟩
                            · skip
                              exact s_wx_X10_odds_117 k_ta_counts k_tl0f_huts k_tl0f_singers k_tl0f_dams k_tl0f_echoes k_tl0f_deep k_tl0f_slide k_tl0a_heights k_tl0a_ladders k_tl0a_minutes k_tl0a_echoFrom k_tl0a_echoTo k_tl0a_homes k_tl0a_talls k_tl0a_known k_tl1f_huts k_tl1f_singers k_tl1f_dams k_tl1f_echoes k_tl1f_deep k_tl1f_slide k_tl1a_heights k_tl1a_ladders k_tl1a_minutes k_tl1a_echoFrom k_tl1a_echoTo k_tl1a_homes k_tl1a_talls k_tl1a_known k_tv0f_deeds k_tv0a_kinds k_tv0a_firsts k_tv0a_seconds k_tv1f_deeds k_tv1a_kinds k_tv1a_firsts k_tv1a_seconds (iv_lea (l := (-2147483648)) (h := 18) (r_le c21) (iv_top o13) (iv_lit (l := 18) (h := 18) (by decide)) (by decide)) k_o14 k_o15 k_o16 k_o17 k_o18 (iv_w (iv_lit (l := 2) (h := 2) (by decide)) (by decide)) (iv_w (iv_lit (l := 10) (h := 10) (by decide)) (by decide)) hpost
                            · skip
                              exact s_wx_X10_odds_117 k_ta_counts k_tl0f_huts k_tl0f_singers k_tl0f_dams k_tl0f_echoes k_tl0f_deep k_tl0f_slide k_tl0a_heights k_tl0a_ladders k_tl0a_minutes k_tl0a_echoFrom k_tl0a_echoTo k_tl0a_homes k_tl0a_talls k_tl0a_known k_tl1f_huts k_tl1f_singers k_tl1f_dams k_tl1f_echoes k_tl1f_deep k_tl1f_slide k_tl1a_heights k_tl1a_ladders k_tl1a_minutes k_tl1a_echoFrom k_tl1a_echoTo k_tl1a_homes k_tl1a_talls k_tl1a_known k_tv0f_deeds k_tv0a_kinds k_tv0a_firsts k_tv0a_seconds k_tv1f_deeds k_tv1a_kinds k_tv1a_firsts k_tv1a_seconds (iv_lea (l := (-2147483648)) (h := 18) (r_le c21) (iv_top o13) (iv_lit (l := 18) (h := 18) (by decide)) (by decide)) k_o14 k_o15 k_o16 k_o17 k_o18 (iv_w (iv_lit (l := 2) (h := 2) (by decide)) (by decide)) k_tl0f_slide hpost
                        · skip
                          refine ⟨fun c27 => ?_, fun c27 => ?_⟩
                          · skip
                            exact s_wx_X10_odds_117 k_ta_counts k_tl0f_huts k_tl0f_singers k_tl0f_dams k_tl0f_echoes k_tl0f_deep k_tl0f_slide k_tl0a_heights k_tl0a_ladders k_tl0a_minutes k_tl0a_echoFrom k_tl0a_echoTo k_tl0a_homes k_tl0a_talls k_tl0a_known k_tl1f_huts k_tl1f_singers k_tl1f_dams k_tl1f_echoes k_tl1f_deep k_tl1f_slide k_tl1a_heights k_tl1a_ladders k_tl1a_minutes k_tl1a_echoFrom k_tl1a_echoTo k_tl1a_homes k_tl1a_talls k_tl1a_known k_tv0f_deeds k_tv0a_kinds k_tv0a_firsts k_tv0a_seconds k_tv1f_deeds k_tv1a_kinds k_tv1a_firsts k_tv1a_seconds (iv_lea (l := (-2147483648)) (h := 18) (r_le c21) (iv_top o13) (iv_lit (l := 18) (h := 18) (by decide)) (by decide)) k_o14 k_o15 k_o16 k_o17 k_o18 (iv_w (iv_lit (l := 5) (h := 5) (by decide)) (by decide)) (iv_w (iv_lit (l := 10) (h := 10) (by decide)) (by decide)) hpost
                          · skip
                            exact s_wx_X10_odds_117 k_ta_counts k_tl0f_huts k_tl0f_singers k_tl0f_dams k_tl0f_echoes k_tl0f_deep k_tl0f_slide k_tl0a_heights k_tl0a_ladders k_tl0a_minutes k_tl0a_echoFrom k_tl0a_echoTo k_tl0a_homes k_tl0a_talls k_tl0a_known k_tl1f_huts k_tl1f_singers k_tl1f_dams k_tl1f_echoes k_tl1f_deep k_tl1f_slide k_tl1a_heights k_tl1a_ladders k_tl1a_minutes k_tl1a_echoFrom k_tl1a_echoTo k_tl1a_homes k_tl1a_talls k_tl1a_known k_tv0f_deeds k_tv0a_kinds k_tv0a_firsts k_tv0a_seconds k_tv1f_deeds k_tv1a_kinds k_tv1a_firsts k_tv1a_seconds (iv_lea (l := (-2147483648)) (h := 18) (r_le c21) (iv_top o13) (iv_lit (l := 18) (h := 18) (by decide)) (by decide)) k_o14 k_o15 k_o16 k_o17 k_o18 (iv_w (iv_lit (l := 5) (h := 5) (by decide)) (by decide)) k_tl0f_slide hpost
                      · skip
                        refine ⟨fun c28 => ?_, fun c28 => ?_⟩
                        · skip
                          exact s_wx_X10_odds_117 k_ta_counts k_tl0f_huts k_tl0f_singers k_tl0f_dams k_tl0f_echoes k_tl0f_deep k_tl0f_slide k_tl0a_heights k_tl0a_ladders k_tl0a_minutes k_tl0a_echoFrom k_tl0a_echoTo k_tl0a_homes k_tl0a_talls k_tl0a_known k_tl1f_huts k_tl1f_singers k_tl1f_dams k_tl1f_echoes k_tl1f_deep k_tl1f_slide k_tl1a_heights k_tl1a_ladders k_tl1a_minutes k_tl1a_echoFrom k_tl1a_echoTo k_tl1a_homes k_tl1a_talls k_tl1a_known k_tv0f_deeds k_tv0a_kinds k_tv0a_firsts k_tv0a_seconds k_tv1f_deeds k_tv1a_kinds k_tv1a_firsts k_tv1a_seconds (iv_lea (l := (-2147483648)) (h := 18) (r_le c21) (iv_top o13) (iv_lit (l := 18) (h := 18) (by decide)) (by decide)) k_o14 k_o15 k_o16 k_o17 k_o18 (iv_w (iv_lit (l := 10) (h := 10) (by decide)) (by decide)) (iv_w (iv_lit (l := 10) (h := 10) (by decide)) (by decide)) hpost
                        · skip
                          exact s_wx_X10_odds_117 k_ta_counts k_tl0f_huts k_tl0f_singers k_tl0f_dams k_tl0f_echoes k_tl0f_deep k_tl0f_slide k_tl0a_heights k_tl0a_ladders k_tl0a_minutes k_tl0a_echoFrom k_tl0a_echoTo k_tl0a_homes k_tl0a_talls k_tl0a_known k_tl1f_huts k_tl1f_singers k_tl1f_dams k_tl1f_echoes k_tl1f_deep k_tl1f_slide k_tl1a_heights k_tl1a_ladders k_tl1a_minutes k_tl1a_echoFrom k_tl1a_echoTo k_tl1a_homes k_tl1a_talls k_tl1a_known k_tv0f_deeds k_tv0a_kinds k_tv0a_firsts k_tv0a_seconds k_tv1f_deeds k_tv1a_kinds k_tv1a_firsts k_tv1a_seconds (iv_lea (l := (-2147483648)) (h := 18) (r_le c21) (iv_top o13) (iv_lit (l := 18) (h := 18) (by decide)) (by decide)) k_o14 k_o15 k_o16 k_o17 k_o18 (iv_w (iv_lit (l := 10) (h := 10) (by decide)) (by decide)) k_tl0f_slide hpost
                    · skip
                      exact hpost _ _ _ _ _ _ _ _ _ k_o14 k_o15 k_o16 k_o17 k_o18
                  · skip
                    exact hpost _ _ _ _ _ _ _ _ _ k_o14 k_o15 k_o16 k_o17 k_o18
                · skip
                  exact hpost _ _ _ _ _ _ _ _ _ k_nf_begun k_nf_climbed k_na_huts k_na_known k_na_levels
            · skip
              refine ⟨fun h => absurd h (by decide), fun _ => ?_, fun h0 h1 => absurd rfl h1⟩
              refine ⟨fun c29 => ?_, fun c29 => ?_⟩
              · skip
                exact hpost _ _ _ _ _ _ _ _ _ k_nf_begun k_nf_climbed k_na_huts k_na_known k_na_levels
              · skip
                refine ⟨fun c30 => ?_, fun c30 => ?_⟩
                · skip
                  refine s_wn_X3_play_6_15_0 k_nf_begun k_nf_climbed k_na_huts k_na_known k_na_levels k_tl0f_huts k_tl0f_singers k_tl0f_dams k_tl0f_echoes k_tl0f_deep k_tl0a_heights k_tl0a_ladders k_tl0a_minutes k_tl0a_echoFrom k_tl0a_echoTo k_tl0a_homes k_tl0a_talls k_tl0a_known k_tv1f_deeds k_tv1a_kinds k_tv1a_firsts k_tv1a_seconds k_tv1f_deeds (fun r31 o32 o33 o34 o35 o36 o37 o38 o39 hr31 k_o34 k_o35 k_o36 k_o37 k_o38 => ?_)
                  refine ⟨fun c40 => ?_, fun c40 => ?_⟩
                  · skip
                    refine ⟨fun c41 => ?_, fun c41 => ?_⟩
                    · skip
                      refine ⟨fun c42 => ?_, fun c42 => ?_⟩
                      · skip
                        refine ⟨fun c43 => ?_, fun c43 => ?_⟩
                        · skip
                          refine ⟨fun c44 => ?_, fun c44 => ?_⟩
                          · skip
                            refine ⟨fun c45 => ?_, fun c45 => ?_⟩
                            · skip
                              exact s_wx_X10_odds_117 k_ta_counts k_tl0f_huts k_tl0f_singers k_tl0f_dams k_tl0f_echoes k_tl0f_deep k_tl0f_slide k_tl0a_heights k_tl0a_ladders k_tl0a_minutes k_tl0a_echoFrom k_tl0a_echoTo k_tl0a_homes k_tl0a_talls k_tl0a_known k_tl1f_huts k_tl1f_singers k_tl1f_dams k_tl1f_echoes k_tl1f_deep k_tl1f_slide k_tl1a_heights k_tl1a_ladders k_tl1a_minutes k_tl1a_echoFrom k_tl1a_echoTo k_tl1a_homes k_tl1a_talls k_tl1a_known k_tv0f_deeds k_tv0a_kinds k_tv0a_firsts k_tv0a_seconds k_tv1f_deeds k_tv1a_kinds k_tv1a_firsts k_tv1a_seconds (iv_lea (l := (-2147483648)) (h := 18) (r_le c41) (iv_top o33) (iv_lit (l := 18) (h := 18) (by decide)) (by decide)) k_o34 k_o35 k_o36 k_o37 k_o38 (iv_w (iv_lit (l := 1) (h := 1) (by decide)) (by decide)) (iv_w (iv_lit (l := 10) (h := 10) (by decide)) (by decide)) hpost
                            · skip
                              exact s_wx_X10_odds_117 k_ta_counts k_tl0f_huts k_tl0f_singers k_tl0f_dams k_tl0f_echoes k_tl0f_deep k_tl0f_slide k_tl0a_heights k_tl0a_ladders k_tl0a_minutes k_tl0a_echoFrom k_tl0a_echoTo k_tl0a_homes k_tl0a_talls k_tl0a_known k_tl1f_huts k_tl1f_singers k_tl1f_dams k_tl1f_echoes k_tl1f_deep k_tl1f_slide k_tl1a_heights k_tl1a_ladders k_tl1a_minutes k_tl1a_echoFrom k_tl1a_echoTo k_tl1a_homes k_tl1a_talls k_tl1a_known k_tv0f_deeds k_tv0a_kinds k_tv0a_firsts k_tv0a_seconds k_tv1f_deeds k_tv1a_kinds k_tv1a_firsts k_tv1a_seconds (iv_lea (l := (-2147483648)) (h := 18) (r_le c41) (iv_top o33) (iv_lit (l := 18) (h := 18) (by decide)) (by decide)) k_o34 k_o35 k_o36 k_o37 k_o38 (iv_w (iv_lit (l := 1) (h := 1) (by decide)) (by decide)) k_tl0f_slide hpost
                          · skip
                            refine ⟨fun c46 => ?_, fun c46 => ?_⟩
                            · skip
                              exact s_wx_X10_odds_117 k_ta_counts k_tl0f_huts k_tl0f_singers k_tl0f_dams k_tl0f_echoes k_tl0f_deep k_tl0f_slide k_tl0a_heights k_tl0a_ladders k_tl0a_minutes k_tl0a_echoFrom k_tl0a_echoTo k_tl0a_homes k_tl0a_talls k_tl0a_known k_tl1f_huts k_tl1f_singers k_tl1f_dams k_tl1f_echoes k_tl1f_deep k_tl1f_slide k_tl1a_heights k_tl1a_ladders k_tl1a_minutes k_tl1a_echoFrom k_tl1a_echoTo k_tl1a_homes k_tl1a_talls k_tl1a_known k_tv0f_deeds k_tv0a_kinds k_tv0a_firsts k_tv0a_seconds k_tv1f_deeds k_tv1a_kinds k_tv1a_firsts k_tv1a_seconds (iv_lea (l := (-2147483648)) (h := 18) (r_le c41) (iv_top o33) (iv_lit (l := 18) (h := 18) (by decide)) (by decide)) k_o34 k_o35 k_o36 k_o37 k_o38 (iv_w (iv_lit (l := 2) (h := 2) (by decide)) (by decide)) (iv_w (iv_lit (l := 10) (h := 10) (by decide)) (by decide)) hpost
                            · skip
                              exact s_wx_X10_odds_117 k_ta_counts k_tl0f_huts k_tl0f_singers k_tl0f_dams k_tl0f_echoes k_tl0f_deep k_tl0f_slide k_tl0a_heights k_tl0a_ladders k_tl0a_minutes k_tl0a_echoFrom k_tl0a_echoTo k_tl0a_homes k_tl0a_talls k_tl0a_known k_tl1f_huts k_tl1f_singers k_tl1f_dams k_tl1f_echoes k_tl1f_deep k_tl1f_slide k_tl1a_heights k_tl1a_ladders k_tl1a_minutes k_tl1a_echoFrom k_tl1a_echoTo k_tl1a_homes k_tl1a_talls k_tl1a_known k_tv0f_deeds k_tv0a_kinds k_tv0a_firsts k_tv0a_seconds k_tv1f_deeds k_tv1a_kinds k_tv1a_firsts k_tv1a_seconds (iv_lea (l := (-2147483648)) (h := 18) (r_le c41) (iv_top o33) (iv_lit (l := 18) (h := 18) (by decide)) (by decide)) k_o34 k_o35 k_o36 k_o37 k_o38 (iv_w (iv_lit (l := 2) (h := 2) (by decide)) (by decide)) k_tl0f_slide hpost
                        · skip
                          refine ⟨fun c47 => ?_, fun c47 => ?_⟩
                          · skip
                            exact s_wx_X10_odds_117 k_ta_counts k_tl0f_huts k_tl0f_singers k_tl0f_dams k_tl0f_echoes k_tl0f_deep k_tl0f_slide k_tl0a_heights k_tl0a_ladders k_tl0a_minutes k_tl0a_echoFrom k_tl0a_echoTo k_tl0a_homes k_tl0a_talls k_tl0a_known k_tl1f_huts k_tl1f_singers k_tl1f_dams k_tl1f_echoes k_tl1f_deep k_tl1f_slide k_tl1a_heights k_tl1a_ladders k_tl1a_minutes k_tl1a_echoFrom k_tl1a_echoTo k_tl1a_homes k_tl1a_talls k_tl1a_known k_tv0f_deeds k_tv0a_kinds k_tv0a_firsts k_tv0a_seconds k_tv1f_deeds k_tv1a_kinds k_tv1a_firsts k_tv1a_seconds (iv_lea (l := (-2147483648)) (h := 18) (r_le c41) (iv_top o33) (iv_lit (l := 18) (h := 18) (by decide)) (by decide)) k_o34 k_o35 k_o36 k_o37 k_o38 (iv_w (iv_lit (l := 5) (h := 5) (by decide)) (by decide)) (iv_w (iv_lit (l := 10) (h := 10) (by decide)) (by decide)) hpost
                          · skip
                            exact s_wx_X10_odds_117 k_ta_counts k_tl0f_huts k_tl0f_singers k_tl0f_dams k_tl0f_echoes k_tl0f_deep k_tl0f_slide k_tl0a_heights k_tl0a_ladders k_tl0a_minutes k_tl0a_echoFrom k_tl0a_echoTo k_tl0a_homes k_tl0a_talls k_tl0a_known k_tl1f_huts k_tl1f_singers k_tl1f_dams k_tl1f_echoes k_tl1f_deep k_tl1f_slide k_tl1a_heights k_tl1a_ladders k_tl1a_minutes k_tl1a_echoFrom k_tl1a_echoTo k_tl1a_homes k_tl1a_talls k_tl1a_known k_tv0f_deeds k_tv0a_kinds k_tv0a_firsts k_tv0a_seconds k_tv1f_deeds k_tv1a_kinds k_tv1a_firsts k_tv1a_seconds (iv_lea (l := (-2147483648)) (h := 18) (r_le c41) (iv_top o33) (iv_lit (l := 18) (h := 18) (by decide)) (by decide)) k_o34 k_o35 k_o36 k_o37 k_o38 (iv_w (iv_lit (l := 5) (h := 5) (by decide)) (by decide)) k_tl0f_slide hpost
                      · skip
                        refine ⟨fun c48 => ?_, fun c48 => ?_⟩
                        · skip
                          exact s_wx_X10_odds_117 k_ta_counts k_tl0f_huts k_tl0f_singers k_tl0f_dams k_tl0f_echoes k_tl0f_deep k_tl0f_slide k_tl0a_heights k_tl0a_ladders k_tl0a_minutes k_tl0a_echoFrom k_tl0a_echoTo k_tl0a_homes k_tl0a_talls k_tl0a_known k_tl1f_huts k_tl1f_singers k_tl1f_dams k_tl1f_echoes k_tl1f_deep k_tl1f_slide k_tl1a_heights k_tl1a_ladders k_tl1a_minutes k_tl1a_echoFrom k_tl1a_echoTo k_tl1a_homes k_tl1a_talls k_tl1a_known k_tv0f_deeds k_tv0a_kinds k_tv0a_firsts k_tv0a_seconds k_tv1f_deeds k_tv1a_kinds k_tv1a_firsts k_tv1a_seconds (iv_lea (l := (-2147483648)) (h := 18) (r_le c41) (iv_top o33) (iv_lit (l := 18) (h := 18) (by decide)) (by decide)) k_o34 k_o35 k_o36 k_o37 k_o38 (iv_w (iv_lit (l := 10) (h := 10) (by decide)) (by decide)) (iv_w (iv_lit (l := 10) (h := 10) (by decide)) (by decide)) hpost
                        · skip
                          exact s_wx_X10_odds_117 k_ta_counts k_tl0f_huts k_tl0f_singers k_tl0f_dams k_tl0f_echoes k_tl0f_deep k_tl0f_slide k_tl0a_heights k_tl0a_ladders k_tl0a_minutes k_tl0a_echoFrom k_tl0a_echoTo k_tl0a_homes k_tl0a_talls k_tl0a_known k_tl1f_huts k_tl1f_singers k_tl1f_dams k_tl1f_echoes k_tl1f_deep k_tl1f_slide k_tl1a_heights k_tl1a_ladders k_tl1a_minutes k_tl1a_echoFrom k_tl1a_echoTo k_tl1a_homes k_tl1a_talls k_tl1a_known k_tv0f_deeds k_tv0a_kinds k_tv0a_firsts k_tv0a_seconds k_tv1f_deeds k_tv1a_kinds k_tv1a_firsts k_tv1a_seconds (iv_lea (l := (-2147483648)) (h := 18) (r_le c41) (iv_top o33) (iv_lit (l := 18) (h := 18) (by decide)) (by decide)) k_o34 k_o35 k_o36 k_o37 k_o38 (iv_w (iv_lit (l := 10) (h := 10) (by decide)) (by decide)) k_tl0f_slide hpost
                    · skip
                      exact hpost _ _ _ _ _ _ _ _ _ k_o34 k_o35 k_o36 k_o37 k_o38
                  · skip
                    exact hpost _ _ _ _ _ _ _ _ _ k_o34 k_o35 k_o36 k_o37 k_o38
                · skip
                  exact hpost _ _ _ _ _ _ _ _ _ k_nf_begun k_nf_climbed k_na_huts k_na_known k_na_levels
      · skip
        refine ⟨fun h => absurd h (by decide), fun _ => ?_, fun h0 h1 => absurd rfl h1⟩
        refine ⟨fun c49 => ?_, fun c49 => ?_⟩
        · skip
          refine ⟨fun _ => ?_, fun h => absurd h (by decide), fun h0 h1 => absurd rfl h0⟩
          exact hpost _ _ _ _ _ _ _ _ _ k_nf_begun k_nf_climbed k_na_huts k_na_known k_na_levels
        · skip
          refine ⟨fun c50 => ?_, fun c50 => ?_⟩
          · skip
            refine ⟨fun _ => ?_, fun h => absurd h (by decide), fun h0 h1 => absurd rfl h0⟩
            exact hpost _ _ _ _ _ _ _ _ _ k_nf_begun k_nf_climbed k_na_huts k_na_known k_na_levels
          · skip
            refine ⟨iv_in (iv_lta (l := 0) (h := 1) (r_nle c50) (iv_leb (l := 0) (h := 2147483647) (r_nlt c49) (iv_lit (l := 0) (h := 0) (by decide)) (iv_top x2) (by decide)) (k_ta_counts _) (by decide)) (by decide), fun hc => ?_, fun hc => ?_⟩
            · skip
              refine ⟨fun h => absurd h (by decide), fun h => absurd h (by decide), fun h0 h1 => ?_⟩
              refine ⟨fun c51 => ?_, fun c51 => ?_⟩
              · skip
                exact hpost _ _ _ _ _ _ _ _ _ k_nf_begun k_nf_climbed k_na_huts k_na_known k_na_levels
              · skip
                refine ⟨fun c52 => ?_, fun c52 => ?_⟩
                · skip
                  refine s_wn_X3_play_6_15_0 k_nf_begun k_nf_climbed k_na_huts k_na_known k_na_levels k_tl1f_huts k_tl1f_singers k_tl1f_dams k_tl1f_echoes k_tl1f_deep k_tl1a_heights k_tl1a_ladders k_tl1a_minutes k_tl1a_echoFrom k_tl1a_echoTo k_tl1a_homes k_tl1a_talls k_tl1a_known k_tv0f_deeds k_tv0a_kinds k_tv0a_firsts k_tv0a_seconds k_tv0f_deeds (fun r53 o54 o55 o56 o57 o58 o59 o60 o61 hr53 k_o56 k_o57 k_o58 k_o59 k_o60 => ?_)
                  refine ⟨fun c62 => ?_, fun c62 => ?_⟩
                  · skip
                    refine ⟨fun c63 => ?_, fun c63 => ?_⟩
                    · skip
                      refine ⟨fun c64 => ?_, fun c64 => ?_⟩
                      · skip
                        refine ⟨fun c65 => ?_, fun c65 => ?_⟩
                        · skip
                          refine ⟨fun c66 => ?_, fun c66 => ?_⟩
                          · skip
                            refine ⟨fun c67 => ?_, fun c67 => ?_⟩
                            · skip
                              exact s_wx_X10_odds_117 k_ta_counts k_tl0f_huts k_tl0f_singers k_tl0f_dams k_tl0f_echoes k_tl0f_deep k_tl0f_slide k_tl0a_heights k_tl0a_ladders k_tl0a_minutes k_tl0a_echoFrom k_tl0a_echoTo k_tl0a_homes k_tl0a_talls k_tl0a_known k_tl1f_huts k_tl1f_singers k_tl1f_dams k_tl1f_echoes k_tl1f_deep k_tl1f_slide k_tl1a_heights k_tl1a_ladders k_tl1a_minutes k_tl1a_echoFrom k_tl1a_echoTo k_tl1a_homes k_tl1a_talls k_tl1a_known k_tv0f_deeds k_tv0a_kinds k_tv0a_firsts k_tv0a_seconds k_tv1f_deeds k_tv1a_kinds k_tv1a_firsts k_tv1a_seconds (iv_lea (l := (-2147483648)) (h := 18) (r_le c63) (iv_top o55) (iv_lit (l := 18) (h := 18) (by decide)) (by decide)) k_o56 k_o57 k_o58 k_o59 k_o60 (iv_w (iv_lit (l := 1) (h := 1) (by decide)) (by decide)) (iv_w (iv_lit (l := 10) (h := 10) (by decide)) (by decide)) hpost
                            · skip
                              exact s_wx_X10_odds_117 k_ta_counts k_tl0f_huts k_tl0f_singers k_tl0f_dams k_tl0f_echoes k_tl0f_deep k_tl0f_slide k_tl0a_heights k_tl0a_ladders k_tl0a_minutes k_tl0a_echoFrom k_tl0a_echoTo k_tl0a_homes k_tl0a_talls k_tl0a_known k_tl1f_huts k_tl1f_singers k_tl1f_dams k_tl1f_echoes k_tl1f_deep k_tl1f_slide k_tl1a_heights k_tl1a_ladders k_tl1a_minutes k_tl1a_echoFrom k_tl1a_echoTo k_tl1a_homes k_tl1a_talls k_tl1a_known k_tv0f_deeds k_tv0a_kinds k_tv0a_firsts k_tv0a_seconds k_tv1f_deeds k_tv1a_kinds k_tv1a_firsts k_tv1a_seconds (iv_lea (l := (-2147483648)) (h := 18) (r_le c63) (iv_top o55) (iv_lit (l := 18) (h := 18) (by decide)) (by decide)) k_o56 k_o57 k_o58 k_o59 k_o60 (iv_w (iv_lit (l := 1) (h := 1) (by decide)) (by decide)) k_tl1f_slide hpost
                          · skip
                            refine ⟨fun c68 => ?_, fun c68 => ?_⟩
                            · skip
                              exact s_wx_X10_odds_117 k_ta_counts k_tl0f_huts k_tl0f_singers k_tl0f_dams k_tl0f_echoes k_tl0f_deep k_tl0f_slide k_tl0a_heights k_tl0a_ladders k_tl0a_minutes k_tl0a_echoFrom k_tl0a_echoTo k_tl0a_homes k_tl0a_talls k_tl0a_known k_tl1f_huts k_tl1f_singers k_tl1f_dams k_tl1f_echoes k_tl1f_deep k_tl1f_slide k_tl1a_heights k_tl1a_ladders k_tl1a_minutes k_tl1a_echoFrom k_tl1a_echoTo k_tl1a_homes k_tl1a_talls k_tl1a_known k_tv0f_deeds k_tv0a_kinds k_tv0a_firsts k_tv0a_seconds k_tv1f_deeds k_tv1a_kinds k_tv1a_firsts k_tv1a_seconds (iv_lea (l := (-2147483648)) (h := 18) (r_le c63) (iv_top o55) (iv_lit (l := 18) (h := 18) (by decide)) (by decide)) k_o56 k_o57 k_o58 k_o59 k_o60 (iv_w (iv_lit (l := 2) (h := 2) (by decide)) (by decide)) (iv_w (iv_lit (l := 10) (h := 10) (by decide)) (by decide)) hpost
                            · skip
                              exact s_wx_X10_odds_117 k_ta_counts k_tl0f_huts k_tl0f_singers k_tl0f_dams k_tl0f_echoes k_tl0f_deep k_tl0f_slide k_tl0a_heights k_tl0a_ladders k_tl0a_minutes k_tl0a_echoFrom k_tl0a_echoTo k_tl0a_homes k_tl0a_talls k_tl0a_known k_tl1f_huts k_tl1f_singers k_tl1f_dams k_tl1f_echoes k_tl1f_deep k_tl1f_slide k_tl1a_heights k_tl1a_ladders k_tl1a_minutes k_tl1a_echoFrom k_tl1a_echoTo k_tl1a_homes k_tl1a_talls k_tl1a_known k_tv0f_deeds k_tv0a_kinds k_tv0a_firsts k_tv0a_seconds k_tv1f_deeds k_tv1a_kinds k_tv1a_firsts k_tv1a_seconds (iv_lea (l := (-2147483648)) (h := 18) (r_le c63) (iv_top o55) (iv_lit (l := 18) (h := 18) (by decide)) (by decide)) k_o56 k_o57 k_o58 k_o59 k_o60 (iv_w (iv_lit (l := 2) (h := 2) (by decide)) (by decide)) k_tl1f_slide hpost
                        · skip
                          refine ⟨fun c69 => ?_, fun c69 => ?_⟩
                          · skip
                            exact s_wx_X10_odds_117 k_ta_counts k_tl0f_huts k_tl0f_singers k_tl0f_dams k_tl0f_echoes k_tl0f_deep k_tl0f_slide k_tl0a_heights k_tl0a_ladders k_tl0a_minutes k_tl0a_echoFrom k_tl0a_echoTo k_tl0a_homes k_tl0a_talls k_tl0a_known k_tl1f_huts k_tl1f_singers k_tl1f_dams k_tl1f_echoes k_tl1f_deep k_tl1f_slide k_tl1a_heights k_tl1a_ladders k_tl1a_minutes k_tl1a_echoFrom k_tl1a_echoTo k_tl1a_homes k_tl1a_talls k_tl1a_known k_tv0f_deeds k_tv0a_kinds k_tv0a_firsts k_tv0a_seconds k_tv1f_deeds k_tv1a_kinds k_tv1a_firsts k_tv1a_seconds (iv_lea (l := (-2147483648)) (h := 18) (r_le c63) (iv_top o55) (iv_lit (l := 18) (h := 18) (by decide)) (by decide)) k_o56 k_o57 k_o58 k_o59 k_o60 (iv_w (iv_lit (l := 5) (h := 5) (by decide)) (by decide)) (iv_w (iv_lit (l := 10) (h := 10) (by decide)) (by decide)) hpost
                          · skip
                            exact s_wx_X10_odds_117 k_ta_counts k_tl0f_huts k_tl0f_singers k_tl0f_dams k_tl0f_echoes k_tl0f_deep k_tl0f_slide k_tl0a_heights k_tl0a_ladders k_tl0a_minutes k_tl0a_echoFrom k_tl0a_echoTo k_tl0a_homes k_tl0a_talls k_tl0a_known k_tl1f_huts k_tl1f_singers k_tl1f_dams k_tl1f_echoes k_tl1f_deep k_tl1f_slide k_tl1a_heights k_tl1a_ladders k_tl1a_minutes k_tl1a_echoFrom k_tl1a_echoTo k_tl1a_homes k_tl1a_talls k_tl1a_known k_tv0f_deeds k_tv0a_kinds k_tv0a_firsts k_tv0a_seconds k_tv1f_deeds k_tv1a_kinds k_tv1a_firsts k_tv1a_seconds (iv_lea (l := (-2147483648)) (h := 18) (r_le c63) (iv_top o55) (iv_lit (l := 18) (h := 18) (by decide)) (by decide)) k_o56 k_o57 k_o58 k_o59 k_o60 (iv_w (iv_lit (l := 5) (h := 5) (by decide)) (by decide)) k_tl1f_slide hpost
                      · skip
                        refine ⟨fun c70 => ?_, fun c70 => ?_⟩
                        · skip
                          exact s_wx_X10_odds_117 k_ta_counts k_tl0f_huts k_tl0f_singers k_tl0f_dams k_tl0f_echoes k_tl0f_deep k_tl0f_slide k_tl0a_heights k_tl0a_ladders k_tl0a_minutes k_tl0a_echoFrom k_tl0a_echoTo k_tl0a_homes k_tl0a_talls k_tl0a_known k_tl1f_huts k_tl1f_singers k_tl1f_dams k_tl1f_echoes k_tl1f_deep k_tl1f_slide k_tl1a_heights k_tl1a_ladders k_tl1a_minutes k_tl1a_echoFrom k_tl1a_echoTo k_tl1a_homes k_tl1a_talls k_tl1a_known k_tv0f_deeds k_tv0a_kinds k_tv0a_firsts k_tv0a_seconds k_tv1f_deeds k_tv1a_kinds k_tv1a_firsts k_tv1a_seconds (iv_lea (l := (-2147483648)) (h := 18) (r_le c63) (iv_top o55) (iv_lit (l := 18) (h := 18) (by decide)) (by decide)) k_o56 k_o57 k_o58 k_o59 k_o60 (iv_w (iv_lit (l := 10) (h := 10) (by decide)) (by decide)) (iv_w (iv_lit (l := 10) (h := 10) (by decide)) (by decide)) hpost
                        · skip
                          exact s_wx_X10_odds_117 k_ta_counts k_tl0f_huts k_tl0f_singers k_tl0f_dams k_tl0f_echoes k_tl0f_deep k_tl0f_slide k_tl0a_heights k_tl0a_ladders k_tl0a_minutes k_tl0a_echoFrom k_tl0a_echoTo k_tl0a_homes k_tl0a_talls k_tl0a_known k_tl1f_huts k_tl1f_singers k_tl1f_dams k_tl1f_echoes k_tl1f_deep k_tl1f_slide k_tl1a_heights k_tl1a_ladders k_tl1a_minutes k_tl1a_echoFrom k_tl1a_echoTo k_tl1a_homes k_tl1a_talls k_tl1a_known k_tv0f_deeds k_tv0a_kinds k_tv0a_firsts k_tv0a_seconds k_tv1f_deeds k_tv1a_kinds k_tv1a_firsts k_tv1a_seconds (iv_lea (l := (-2147483648)) (h := 18) (r_le c63) (iv_top o55) (iv_lit (l := 18) (h := 18) (by decide)) (by decide)) k_o56 k_o57 k_o58 k_o59 k_o60 (iv_w (iv_lit (l := 10) (h := 10) (by decide)) (by decide)) k_tl1f_slide hpost
                    · skip
                      exact hpost _ _ _ _ _ _ _ _ _ k_o56 k_o57 k_o58 k_o59 k_o60
                  · skip
                    exact hpost _ _ _ _ _ _ _ _ _ k_o56 k_o57 k_o58 k_o59 k_o60
                · skip
                  exact hpost _ _ _ _ _ _ _ _ _ k_nf_begun k_nf_climbed k_na_huts k_na_known k_na_levels
            · skip
              refine ⟨fun h => absurd h (by decide), fun _ => ?_, fun h0 h1 => absurd rfl h1⟩
              refine ⟨fun c71 => ?_, fun c71 => ?_⟩
              · skip
                exact hpost _ _ _ _ _ _ _ _ _ k_nf_begun k_nf_climbed k_na_huts k_na_known k_na_levels
              · skip
                refine ⟨fun c72 => ?_, fun c72 => ?_⟩
                · skip
                  refine s_wn_X3_play_6_15_0 k_nf_begun k_nf_climbed k_na_huts k_na_known k_na_levels k_tl1f_huts k_tl1f_singers k_tl1f_dams k_tl1f_echoes k_tl1f_deep k_tl1a_heights k_tl1a_ladders k_tl1a_minutes k_tl1a_echoFrom k_tl1a_echoTo k_tl1a_homes k_tl1a_talls k_tl1a_known k_tv1f_deeds k_tv1a_kinds k_tv1a_firsts k_tv1a_seconds k_tv1f_deeds (fun r73 o74 o75 o76 o77 o78 o79 o80 o81 hr73 k_o76 k_o77 k_o78 k_o79 k_o80 => ?_)
                  refine ⟨fun c82 => ?_, fun c82 => ?_⟩
                  · skip
                    refine ⟨fun c83 => ?_, fun c83 => ?_⟩
                    · skip
                      refine ⟨fun c84 => ?_, fun c84 => ?_⟩
                      · skip
                        refine ⟨fun c85 => ?_, fun c85 => ?_⟩
                        · skip
                          refine ⟨fun c86 => ?_, fun c86 => ?_⟩
                          · skip
                            refine ⟨fun c87 => ?_, fun c87 => ?_⟩
                            · skip
                              exact s_wx_X10_odds_117 k_ta_counts k_tl0f_huts k_tl0f_singers k_tl0f_dams k_tl0f_echoes k_tl0f_deep k_tl0f_slide k_tl0a_heights k_tl0a_ladders k_tl0a_minutes k_tl0a_echoFrom k_tl0a_echoTo k_tl0a_homes k_tl0a_talls k_tl0a_known k_tl1f_huts k_tl1f_singers k_tl1f_dams k_tl1f_echoes k_tl1f_deep k_tl1f_slide k_tl1a_heights k_tl1a_ladders k_tl1a_minutes k_tl1a_echoFrom k_tl1a_echoTo k_tl1a_homes k_tl1a_talls k_tl1a_known k_tv0f_deeds k_tv0a_kinds k_tv0a_firsts k_tv0a_seconds k_tv1f_deeds k_tv1a_kinds k_tv1a_firsts k_tv1a_seconds (iv_lea (l := (-2147483648)) (h := 18) (r_le c83) (iv_top o75) (iv_lit (l := 18) (h := 18) (by decide)) (by decide)) k_o76 k_o77 k_o78 k_o79 k_o80 (iv_w (iv_lit (l := 1) (h := 1) (by decide)) (by decide)) (iv_w (iv_lit (l := 10) (h := 10) (by decide)) (by decide)) hpost
                            · skip
                              exact s_wx_X10_odds_117 k_ta_counts k_tl0f_huts k_tl0f_singers k_tl0f_dams k_tl0f_echoes k_tl0f_deep k_tl0f_slide k_tl0a_heights k_tl0a_ladders k_tl0a_minutes k_tl0a_echoFrom k_tl0a_echoTo k_tl0a_homes k_tl0a_talls k_tl0a_known k_tl1f_huts k_tl1f_singers k_tl1f_dams k_tl1f_echoes k_tl1f_deep k_tl1f_slide k_tl1a_heights k_tl1a_ladders k_tl1a_minutes k_tl1a_echoFrom k_tl1a_echoTo k_tl1a_homes k_tl1a_talls k_tl1a_known k_tv0f_deeds k_tv0a_kinds k_tv0a_firsts k_tv0a_seconds k_tv1f_deeds k_tv1a_kinds k_tv1a_firsts k_tv1a_seconds (iv_lea (l := (-2147483648)) (h := 18) (r_le c83) (iv_top o75) (iv_lit (l := 18) (h := 18) (by decide)) (by decide)) k_o76 k_o77 k_o78 k_o79 k_o80 (iv_w (iv_lit (l := 1) (h := 1) (by decide)) (by decide)) k_tl1f_slide hpost
                          · skip
                            refine ⟨fun c88 => ?_, fun c88 => ?_⟩
                            · skip
                              exact s_wx_X10_odds_117 k_ta_counts k_tl0f_huts k_tl0f_singers k_tl0f_dams k_tl0f_echoes k_tl0f_deep k_tl0f_slide k_tl0a_heights k_tl0a_ladders k_tl0a_minutes k_tl0a_echoFrom k_tl0a_echoTo k_tl0a_homes k_tl0a_talls k_tl0a_known k_tl1f_huts k_tl1f_singers k_tl1f_dams k_tl1f_echoes k_tl1f_deep k_tl1f_slide k_tl1a_heights k_tl1a_ladders k_tl1a_minutes k_tl1a_echoFrom k_tl1a_echoTo k_tl1a_homes k_tl1a_talls k_tl1a_known k_tv0f_deeds k_tv0a_kinds k_tv0a_firsts k_tv0a_seconds k_tv1f_deeds k_tv1a_kinds k_tv1a_firsts k_tv1a_seconds (iv_lea (l := (-2147483648)) (h := 18) (r_le c83) (iv_top o75) (iv_lit (l := 18) (h := 18) (by decide)) (by decide)) k_o76 k_o77 k_o78 k_o79 k_o80 (iv_w (iv_lit (l := 2) (h := 2) (by decide)) (by decide)) (iv_w (iv_lit (l := 10) (h := 10) (by decide)) (by decide)) hpost
                            · skip
                              exact s_wx_X10_odds_117 k_ta_counts k_tl0f_huts k_tl0f_singers k_tl0f_dams k_tl0f_echoes k_tl0f_deep k_tl0f_slide k_tl0a_heights k_tl0a_ladders k_tl0a_minutes k_tl0a_echoFrom k_tl0a_echoTo k_tl0a_homes k_tl0a_talls k_tl0a_known k_tl1f_huts k_tl1f_singers k_tl1f_dams k_tl1f_echoes k_tl1f_deep k_tl1f_slide k_tl1a_heights k_tl1a_ladders k_tl1a_minutes k_tl1a_echoFrom k_tl1a_echoTo k_tl1a_homes k_tl1a_talls k_tl1a_known k_tv0f_deeds k_tv0a_kinds k_tv0a_firsts k_tv0a_seconds k_tv1f_deeds k_tv1a_kinds k_tv1a_firsts k_tv1a_seconds (iv_lea (l := (-2147483648)) (h := 18) (r_le c83) (iv_top o75) (iv_lit (l := 18) (h := 18) (by decide)) (by decide)) k_o76 k_o77 k_o78 k_o79 k_o80 (iv_w (iv_lit (l := 2) (h := 2) (by decide)) (by decide)) k_tl1f_slide hpost
                        · skip
                          refine ⟨fun c89 => ?_, fun c89 => ?_⟩
                          · skip
                            exact s_wx_X10_odds_117 k_ta_counts k_tl0f_huts k_tl0f_singers k_tl0f_dams k_tl0f_echoes k_tl0f_deep k_tl0f_slide k_tl0a_heights k_tl0a_ladders k_tl0a_minutes k_tl0a_echoFrom k_tl0a_echoTo k_tl0a_homes k_tl0a_talls k_tl0a_known k_tl1f_huts k_tl1f_singers k_tl1f_dams k_tl1f_echoes k_tl1f_deep k_tl1f_slide k_tl1a_heights k_tl1a_ladders k_tl1a_minutes k_tl1a_echoFrom k_tl1a_echoTo k_tl1a_homes k_tl1a_talls k_tl1a_known k_tv0f_deeds k_tv0a_kinds k_tv0a_firsts k_tv0a_seconds k_tv1f_deeds k_tv1a_kinds k_tv1a_firsts k_tv1a_seconds (iv_lea (l := (-2147483648)) (h := 18) (r_le c83) (iv_top o75) (iv_lit (l := 18) (h := 18) (by decide)) (by decide)) k_o76 k_o77 k_o78 k_o79 k_o80 (iv_w (iv_lit (l := 5) (h := 5) (by decide)) (by decide)) (iv_w (iv_lit (l := 10) (h := 10) (by decide)) (by decide)) hpost
                          · skip
                            exact s_wx_X10_odds_117 k_ta_counts k_tl0f_huts k_tl0f_singers k_tl0f_dams k_tl0f_echoes k_tl0f_deep k_tl0f_slide k_tl0a_heights k_tl0a_ladders k_tl0a_minutes k_tl0a_echoFrom k_tl0a_echoTo k_tl0a_homes k_tl0a_talls k_tl0a_known k_tl1f_huts k_tl1f_singers k_tl1f_dams k_tl1f_echoes k_tl1f_deep k_tl1f_slide k_tl1a_heights k_tl1a_ladders k_tl1a_minutes k_tl1a_echoFrom k_tl1a_echoTo k_tl1a_homes k_tl1a_talls k_tl1a_known k_tv0f_deeds k_tv0a_kinds k_tv0a_firsts k_tv0a_seconds k_tv1f_deeds k_tv1a_kinds k_tv1a_firsts k_tv1a_seconds (iv_lea (l := (-2147483648)) (h := 18) (r_le c83) (iv_top o75) (iv_lit (l := 18) (h := 18) (by decide)) (by decide)) k_o76 k_o77 k_o78 k_o79 k_o80 (iv_w (iv_lit (l := 5) (h := 5) (by decide)) (by decide)) k_tl1f_slide hpost
                      · skip
                        refine ⟨fun c90 => ?_, fun c90 => ?_⟩
                        · skip
                          exact s_wx_X10_odds_117 k_ta_counts k_tl0f_huts k_tl0f_singers k_tl0f_dams k_tl0f_echoes k_tl0f_deep k_tl0f_slide k_tl0a_heights k_tl0a_ladders k_tl0a_minutes k_tl0a_echoFrom k_tl0a_echoTo k_tl0a_homes k_tl0a_talls k_tl0a_known k_tl1f_huts k_tl1f_singers k_tl1f_dams k_tl1f_echoes k_tl1f_deep k_tl1f_slide k_tl1a_heights k_tl1a_ladders k_tl1a_minutes k_tl1a_echoFrom k_tl1a_echoTo k_tl1a_homes k_tl1a_talls k_tl1a_known k_tv0f_deeds k_tv0a_kinds k_tv0a_firsts k_tv0a_seconds k_tv1f_deeds k_tv1a_kinds k_tv1a_firsts k_tv1a_seconds (iv_lea (l := (-2147483648)) (h := 18) (r_le c83) (iv_top o75) (iv_lit (l := 18) (h := 18) (by decide)) (by decide)) k_o76 k_o77 k_o78 k_o79 k_o80 (iv_w (iv_lit (l := 10) (h := 10) (by decide)) (by decide)) (iv_w (iv_lit (l := 10) (h := 10) (by decide)) (by decide)) hpost
                        · skip
                          exact s_wx_X10_odds_117 k_ta_counts k_tl0f_huts k_tl0f_singers k_tl0f_dams k_tl0f_echoes k_tl0f_deep k_tl0f_slide k_tl0a_heights k_tl0a_ladders k_tl0a_minutes k_tl0a_echoFrom k_tl0a_echoTo k_tl0a_homes k_tl0a_talls k_tl0a_known k_tl1f_huts k_tl1f_singers k_tl1f_dams k_tl1f_echoes k_tl1f_deep k_tl1f_slide k_tl1a_heights k_tl1a_ladders k_tl1a_minutes k_tl1a_echoFrom k_tl1a_echoTo k_tl1a_homes k_tl1a_talls k_tl1a_known k_tv0f_deeds k_tv0a_kinds k_tv0a_firsts k_tv0a_seconds k_tv1f_deeds k_tv1a_kinds k_tv1a_firsts k_tv1a_seconds (iv_lea (l := (-2147483648)) (h := 18) (r_le c83) (iv_top o75) (iv_lit (l := 18) (h := 18) (by decide)) (by decide)) k_o76 k_o77 k_o78 k_o79 k_o80 (iv_w (iv_lit (l := 10) (h := 10) (by decide)) (by decide)) k_tl1f_slide hpost
                    · skip
                      exact hpost _ _ _ _ _ _ _ _ _ k_o76 k_o77 k_o78 k_o79 k_o80
                  · skip
                    exact hpost _ _ _ _ _ _ _ _ _ k_o76 k_o77 k_o78 k_o79 k_o80
                · skip
                  exact hpost _ _ _ _ _ _ _ _ _ k_nf_begun k_nf_climbed k_na_huts k_na_known k_na_levels
-- wx_X10_drawn
set_option maxRecDepth 20000 in
theorem s_wx_X10_drawn_0 {ta_counts : Nat → Int32} {tl0f_huts : Int32} {tl0f_singers : Int32} {tl0f_dams : Int32} {tl0f_echoes : Int32} {tl0f_deep : Int32} {tl0a_heights : Nat → Int32} {tl0a_ladders : Nat → Int32} {tl0a_minutes : Nat → Int32} {tl0a_echoFrom : Nat → Int32} {tl0a_echoTo : Nat → Int32} {tl0a_homes : Nat → Int32} {tl0a_talls : Nat → Int32} {tl0a_known : Nat → Int32} {tl1f_huts : Int32} {tl1f_singers : Int32} {tl1f_dams : Int32} {tl1f_echoes : Int32} {tl1f_deep : Int32} {tl1a_heights : Nat → Int32} {tl1a_ladders : Nat → Int32} {tl1a_minutes : Nat → Int32} {tl1a_echoFrom : Nat → Int32} {tl1a_echoTo : Nat → Int32} {tl1a_homes : Nat → Int32} {tl1a_talls : Nat → Int32} {tl1a_known : Nat → Int32} {nf_minute : Int32} {nf_avalanches : Int32} {nf_begun : Int32} {nf_climbed : Int32} {nf_seed : Int32} {na_huts : Nat → Int32} {na_known : Nat → Int32} {na_levels : Nat → Int32} {na_snow : Nat → Int32} {na_open : Nat → Int32} {x1 : Int32} {x2 : Int32} {x3 : Int32} {x4 : Int32} {post : Int32 → (Int32) → (Int32) → (Int32) → (Int32) → (Int32) → (Nat → Int32) → (Nat → Int32) → (Nat → Int32) → (Nat → Int32) → (Nat → Int32) → Prop} (k_ta_counts : ∀ j, iv 0 2 (ta_counts j)) (k_tl0f_huts : iv 0 9 tl0f_huts) (k_tl0f_singers : iv 0 6 tl0f_singers) (k_tl0f_dams : iv 0 511 tl0f_dams) (k_tl0f_echoes : iv 0 4 tl0f_echoes) (k_tl0f_deep : iv 1 9 tl0f_deep) (k_tl0a_heights : ∀ j, iv 0 99 (tl0a_heights j)) (k_tl0a_ladders : ∀ j, iv 0 9 (tl0a_ladders j)) (k_tl0a_minutes : ∀ j, iv 0 9 (tl0a_minutes j)) (k_tl0a_echoFrom : ∀ j, iv 0 8 (tl0a_echoFrom j)) (k_tl0a_echoTo : ∀ j, iv 0 8 (tl0a_echoTo j)) (k_tl0a_homes : ∀ j, iv 0 8 (tl0a_homes j)) (k_tl0a_talls : ∀ j, iv 0 9 (tl0a_talls j)) (k_tl0a_known : ∀ j, iv 0 31 (tl0a_known j)) (k_tl1f_huts : iv 0 9 tl1f_huts) (k_tl1f_singers : iv 0 6 tl1f_singers) (k_tl1f_dams : iv 0 511 tl1f_dams) (k_tl1f_echoes : iv 0 4 tl1f_echoes) (k_tl1f_deep : iv 1 9 tl1f_deep) (k_tl1a_heights : ∀ j, iv 0 99 (tl1a_heights j)) (k_tl1a_ladders : ∀ j, iv 0 9 (tl1a_ladders j)) (k_tl1a_minutes : ∀ j, iv 0 9 (tl1a_minutes j)) (k_tl1a_echoFrom : ∀ j, iv 0 8 (tl1a_echoFrom j)) (k_tl1a_echoTo : ∀ j, iv 0 8 (tl1a_echoTo j)) (k_tl1a_homes : ∀ j, iv 0 8 (tl1a_homes j)) (k_tl1a_talls : ∀ j, iv 0 9 (tl1a_talls j)) (k_tl1a_known : ∀ j, iv 0 31 (tl1a_known j)) (k_nf_begun : iv 0 31 nf_begun) (k_nf_climbed : iv 0 63 nf_climbed) (k_na_huts : ∀ j, iv 0 8 (na_huts j)) (k_na_known : ∀ j, iv 0 31 (na_known j)) (k_na_levels : ∀ j, iv (-9) 122 (na_levels j)) (k_na_open : ∀ j, iv 0 511 (na_open j)) (hpost : ∀ (r : Int32) (nf_minute : Int32) (nf_avalanches : Int32) (nf_begun : Int32) (nf_climbed : Int32) (nf_seed : Int32) (na_huts : Nat → Int32) (na_known : Nat → Int32) (na_levels : Nat → Int32) (na_snow : Nat → Int32) (na_open : Nat → Int32), (iv 0 31 nf_begun) → (iv 0 63 nf_climbed) → (∀ j, iv 0 8 (na_huts j)) → (∀ j, iv 0 31 (na_known j)) → (∀ j, iv (-9) 122 (na_levels j)) → (∀ j, iv 0 511 (na_open j)) → post r nf_minute nf_avalanches nf_begun nf_climbed nf_seed na_huts na_known na_levels na_snow na_open) : q_wx_X10_drawn_0 ta_counts tl0f_huts tl0f_singers tl0f_dams tl0f_echoes tl0f_deep tl0a_heights tl0a_ladders tl0a_minutes tl0a_echoFrom tl0a_echoTo tl0a_homes tl0a_talls tl0a_known tl1f_huts tl1f_singers tl1f_dams tl1f_echoes tl1f_deep tl1a_heights tl1a_ladders tl1a_minutes tl1a_echoFrom tl1a_echoTo tl1a_homes tl1a_talls tl1a_known nf_minute nf_avalanches nf_begun nf_climbed nf_seed na_huts na_known na_levels na_snow na_open x1 x2 x3 x4 post := by
  refine ⟨fun c1 => ?_, fun c1 => ?_⟩
  · skip
    refine ⟨fun _ => ?_, fun h => absurd h (by decide), fun h0 h1 => absurd rfl h0⟩
    exact hpost _ _ _ _ _ _ _ _ _ _ _ k_nf_begun k_nf_climbed k_na_huts k_na_known k_na_levels k_na_open
  · skip
    refine ⟨fun c2 => ?_, fun c2 => ?_⟩
    · skip
      refine ⟨fun _ => ?_, fun h => absurd h (by decide), fun h0 h1 => absurd rfl h0⟩
      exact hpost _ _ _ _ _ _ _ _ _ _ _ k_nf_begun k_nf_climbed k_na_huts k_na_known k_na_levels k_na_open
    · skip
      refine ⟨iv_in (iv_lta (l := 0) (h := 1) (r_nle c2) (iv_leb (l := 0) (h := 2147483647) (r_nlt c1) (iv_lit (l := 0) (h := 0) (by decide)) (iv_top x1) (by decide)) (k_ta_counts _) (by decide)) (by decide), fun hc => ?_, fun hc => ?_⟩
      · skip
        refine ⟨fun h => absurd h (by decide), fun h => absurd h (by decide), fun h0 h1 => ?_⟩
        refine ⟨fun c3 => ?_, fun c3 => ?_⟩
        · skip
          exact hpost _ _ _ _ _ _ _ _ _ _ _ k_nf_begun k_nf_climbed k_na_huts k_na_known k_na_levels k_na_open
        · skip
          refine ⟨fun c4 => ?_, fun c4 => ?_⟩
          · skip
            exact hpost _ _ _ _ _ _ _ _ _ _ _ k_nf_begun k_nf_climbed k_na_huts k_na_known k_na_levels k_na_open
          · skip
            refine ⟨fun c5 => ?_, fun c5 => ?_⟩
            · skip
              refine s_wn_X3_draw_6_0 k_nf_begun k_nf_climbed k_na_huts k_na_known k_na_levels k_tl0f_huts (iv_ne (l := 1) (h := 6) c3 k_tl0f_singers (iv_lit (l := 0) (h := 0) (by decide)) (by decide)) k_tl0f_dams k_tl0f_echoes k_tl0f_deep k_tl0a_heights k_tl0a_ladders k_tl0a_minutes k_tl0a_echoFrom k_tl0a_echoTo k_tl0a_homes k_tl0a_talls k_tl0a_known (iv_lea (l := 0) (h := 60) (r_le c5) (iv_leb (l := 0) (h := 2147483647) (r_nlt c4) (iv_lit (l := 0) (h := 0) (by decide)) (iv_top x3) (by decide)) (iv_lit (l := 60) (h := 60) (by decide)) (by decide)) (fun o6 o7 o8 o9 o10 o11 o12 o13 o14 k_o8 k_o9 k_o11 k_o12 k_o13 => ?_)
              refine s_wn_X3_look_6_0 k_o8 (iv_w k_o9 (by decide)) k_o11 k_o12 k_o13 k_na_open k_tl0f_huts (iv_w (iv_ne (l := 1) (h := 6) c3 k_tl0f_singers (iv_lit (l := 0) (h := 0) (by decide)) (by decide)) (by decide)) k_tl0f_dams k_tl0f_deep k_tl0a_heights k_tl0a_ladders k_tl0a_minutes k_tl0a_talls (fun r15 o16 k_o16 => ?_)
              exact hpost _ _ _ _ _ _ _ _ _ _ _ k_o8 (iv_w k_o9 (by decide)) k_o11 k_o12 k_o13 k_o16
            · skip
              exact hpost _ _ _ _ _ _ _ _ _ _ _ k_nf_begun k_nf_climbed k_na_huts k_na_known k_na_levels k_na_open
      · skip
        refine ⟨fun h => absurd h (by decide), fun _ => ?_, fun h0 h1 => absurd rfl h1⟩
        refine ⟨fun c17 => ?_, fun c17 => ?_⟩
        · skip
          exact hpost _ _ _ _ _ _ _ _ _ _ _ k_nf_begun k_nf_climbed k_na_huts k_na_known k_na_levels k_na_open
        · skip
          refine ⟨fun c18 => ?_, fun c18 => ?_⟩
          · skip
            exact hpost _ _ _ _ _ _ _ _ _ _ _ k_nf_begun k_nf_climbed k_na_huts k_na_known k_na_levels k_na_open
          · skip
            refine ⟨fun c19 => ?_, fun c19 => ?_⟩
            · skip
              refine s_wn_X3_draw_6_0 k_nf_begun k_nf_climbed k_na_huts k_na_known k_na_levels k_tl1f_huts (iv_ne (l := 1) (h := 6) c17 k_tl1f_singers (iv_lit (l := 0) (h := 0) (by decide)) (by decide)) k_tl1f_dams k_tl1f_echoes k_tl1f_deep k_tl1a_heights k_tl1a_ladders k_tl1a_minutes k_tl1a_echoFrom k_tl1a_echoTo k_tl1a_homes k_tl1a_talls k_tl1a_known (iv_lea (l := 0) (h := 60) (r_le c19) (iv_leb (l := 0) (h := 2147483647) (r_nlt c18) (iv_lit (l := 0) (h := 0) (by decide)) (iv_top x3) (by decide)) (iv_lit (l := 60) (h := 60) (by decide)) (by decide)) (fun o20 o21 o22 o23 o24 o25 o26 o27 o28 k_o22 k_o23 k_o25 k_o26 k_o27 => ?_)
              refine s_wn_X3_look_6_0 k_o22 (iv_w k_o23 (by decide)) k_o25 k_o26 k_o27 k_na_open k_tl1f_huts (iv_w (iv_ne (l := 1) (h := 6) c17 k_tl1f_singers (iv_lit (l := 0) (h := 0) (by decide)) (by decide)) (by decide)) k_tl1f_dams k_tl1f_deep k_tl1a_heights k_tl1a_ladders k_tl1a_minutes k_tl1a_talls (fun r29 o30 k_o30 => ?_)
              exact hpost _ _ _ _ _ _ _ _ _ _ _ k_o22 (iv_w k_o23 (by decide)) k_o25 k_o26 k_o27 k_o30
            · skip
              exact hpost _ _ _ _ _ _ _ _ _ _ _ k_nf_begun k_nf_climbed k_na_huts k_na_known k_na_levels k_na_open
-- wx_X10_psalm
set_option maxRecDepth 20000 in
theorem s_wx_X10_psalm_0 {ta_counts : Nat → Int32} {tl0f_huts : Int32} {tl0f_dams : Int32} {tl0f_echoes : Int32} {tl0a_heights : Nat → Int32} {tl0a_minutes : Nat → Int32} {tl0a_echoFrom : Nat → Int32} {tl0a_echoTo : Nat → Int32} {tl1f_huts : Int32} {tl1f_dams : Int32} {tl1f_echoes : Int32} {tl1a_heights : Nat → Int32} {tl1a_minutes : Nat → Int32} {tl1a_echoFrom : Nat → Int32} {tl1a_echoTo : Nat → Int32} {pa_heard : Nat → Int32} {x1 : Int32} {x2 : Int32} {x3 : Int32} {x4 : Int32} {post : Int32 → (Nat → Int32) → Prop} (k_ta_counts : ∀ j, iv 0 2 (ta_counts j)) (k_tl0f_huts : iv 0 9 tl0f_huts) (k_tl0f_dams : iv 0 511 tl0f_dams) (k_tl0f_echoes : iv 0 4 tl0f_echoes) (k_tl0a_heights : ∀ j, iv 0 99 (tl0a_heights j)) (k_tl0a_minutes : ∀ j, iv 0 9 (tl0a_minutes j)) (k_tl0a_echoFrom : ∀ j, iv 0 8 (tl0a_echoFrom j)) (k_tl0a_echoTo : ∀ j, iv 0 8 (tl0a_echoTo j)) (k_tl1f_huts : iv 0 9 tl1f_huts) (k_tl1f_dams : iv 0 511 tl1f_dams) (k_tl1f_echoes : iv 0 4 tl1f_echoes) (k_tl1a_heights : ∀ j, iv 0 99 (tl1a_heights j)) (k_tl1a_minutes : ∀ j, iv 0 9 (tl1a_minutes j)) (k_tl1a_echoFrom : ∀ j, iv 0 8 (tl1a_echoFrom j)) (k_tl1a_echoTo : ∀ j, iv 0 8 (tl1a_echoTo j)) (k_pa_heard : ∀ j, iv 0 1000 (pa_heard j)) (hpost : ∀ (r : Int32) (pa_heard : Nat → Int32), iv (-1000) 511 r → (∀ j, iv 0 1000 (pa_heard j)) → post r pa_heard) : q_wx_X10_psalm_0 ta_counts tl0f_huts tl0f_dams tl0f_echoes tl0a_heights tl0a_minutes tl0a_echoFrom tl0a_echoTo tl1f_huts tl1f_dams tl1f_echoes tl1a_heights tl1a_minutes tl1a_echoFrom tl1a_echoTo pa_heard x1 x2 x3 x4 post := by
  refine ⟨fun c1 => ?_, fun c1 => ?_⟩
  · skip
    refine ⟨fun _ => ?_, fun h => absurd h (by decide), fun h0 h1 => absurd rfl h0⟩
    exact hpost _ _ (iv_w (iv_lit (l := (-2)) (h := (-2)) (by decide)) (by decide)) k_pa_heard
  · skip
    refine ⟨fun c2 => ?_, fun c2 => ?_⟩
    · skip
      refine ⟨fun _ => ?_, fun h => absurd h (by decide), fun h0 h1 => absurd rfl h0⟩
      exact hpost _ _ (iv_w (iv_lit (l := (-2)) (h := (-2)) (by decide)) (by decide)) k_pa_heard
    · skip
      refine ⟨iv_in (iv_lta (l := 0) (h := 1) (r_nle c2) (iv_leb (l := 0) (h := 2147483647) (r_nlt c1) (iv_lit (l := 0) (h := 0) (by decide)) (iv_top x1) (by decide)) (k_ta_counts _) (by decide)) (by decide), fun hc => ?_, fun hc => ?_⟩
      · skip
        refine ⟨fun h => absurd h (by decide), fun h => absurd h (by decide), fun h0 h1 => ?_⟩
        refine ⟨fun c3 => ?_, fun c3 => ?_⟩
        · skip
          refine ⟨fun c4 => ?_, fun c4 => ?_⟩
          · skip
            exact hpost _ _ (iv_w (iv_lit (l := (-2)) (h := (-2)) (by decide)) (by decide)) k_pa_heard
          · skip
            exact (iv_emp (iv_ne (l := 1) (h := 0) c4 (iv_lit (l := 0) (h := 0) (by decide)) (iv_lit (l := 0) (h := 0) (by decide)) (by decide)) (by decide)).elim
        · skip
          refine ⟨fun c5 => ?_, fun c5 => ?_⟩
          · skip
            refine ⟨fun c6 => ?_, fun c6 => ?_⟩
            · skip
              exact hpost _ _ (iv_w (iv_lit (l := (-2)) (h := (-2)) (by decide)) (by decide)) k_pa_heard
            · skip
              exact (iv_emp (iv_ne (l := 1) (h := 0) c6 (iv_lit (l := 0) (h := 0) (by decide)) (iv_lit (l := 0) (h := 0) (by decide)) (by decide)) (by decide)).elim
          · skip
            refine ⟨fun c7 => ?_, fun c7 => ?_⟩
            · skip
              exact (iv_emp (iv_eqa (l := 1) (h := 0) c7 (iv_lit (l := 1) (h := 1) (by decide)) (iv_lit (l := 0) (h := 0) (by decide)) (by decide)) (by decide)).elim
            · skip
              refine ⟨fun c8 => ?_, fun c8 => ?_⟩
              · skip
                exact hpost _ _ (iv_w (iv_lit (l := (-2)) (h := (-2)) (by decide)) (by decide)) k_pa_heard
              · skip
                refine ⟨fun c9 => ?_, fun c9 => ?_⟩
                · skip
                  exact hpost _ _ (iv_w (iv_lit (l := (-2)) (h := (-2)) (by decide)) (by decide)) k_pa_heard
                · skip
                  refine ⟨fun c10 => ?_, fun c10 => ?_⟩
                  · skip
                    exact hpost _ _ (iv_w (iv_lit (l := (-2)) (h := (-2)) (by decide)) (by decide)) k_pa_heard
                  · skip
                    refine ⟨fun c11 => ?_, fun c11 => ?_⟩
                    · skip
                      refine s_wp_X7_hear_9_0 k_pa_heard (iv_w (iv_ltb (l := 1) (h := 9) (r_nle c5) (iv_leb (l := 0) (h := 2147483647) (r_nlt c3) (iv_lit (l := 0) (h := 0) (by decide)) (iv_top x2) (by decide)) k_tl0f_huts (by decide)) (by decide)) k_tl0f_dams k_tl0f_echoes k_tl0a_heights k_tl0a_minutes k_tl0a_echoFrom k_tl0a_echoTo (fun o12 k_o12 => ?_)
                      refine s_wp_X7_fromBy_9_0 k_o12 (iv_ltb (l := 1) (h := 9) (r_nle c5) (iv_leb (l := 0) (h := 2147483647) (r_nlt c3) (iv_lit (l := 0) (h := 0) (by decide)) (iv_top x2) (by decide)) k_tl0f_huts (by decide)) (iv_lta (l := 0) (h := 8) (r_nle c5) (iv_leb (l := 0) (h := 2147483647) (r_nlt c3) (iv_lit (l := 0) (h := 0) (by decide)) (iv_top x2) (by decide)) k_tl0f_huts (by decide)) (iv_w (iv_lea (l := 0) (h := 99) (r_nlt c9) (iv_leb (l := 0) (h := 2147483647) (r_nlt c8) (iv_lit (l := 0) (h := 0) (by decide)) (iv_top x3) (by decide)) (iv_lit (l := 99) (h := 99) (by decide)) (by decide)) (by decide)) (fun r13 hr13 => ?_)
                      refine ⟨fun c14 => ?_, fun c14 => ?_⟩
                      · skip
                        refine ⟨fun c15 => ?_, fun c15 => ?_⟩
                        · skip
                          refine ⟨fun c16 => ?_, fun c16 => ?_⟩
                          · skip
                            refine s_wp_X7_soonest_9_0 k_o12 (iv_ltb (l := 1) (h := 9) (r_nle c5) (iv_leb (l := 0) (h := 2147483647) (r_nlt c3) (iv_lit (l := 0) (h := 0) (by decide)) (iv_top x2) (by decide)) k_tl0f_huts (by decide)) (iv_lta (l := 0) (h := 8) (r_nle c5) (iv_leb (l := 0) (h := 2147483647) (r_nlt c3) (iv_lit (l := 0) (h := 0) (by decide)) (iv_top x2) (by decide)) k_tl0f_huts (by decide)) (fun r17 hr17 => ?_)
                            exact hpost _ _ (iv_w (iv_sub (l := (-1000)) (h := 99) (iv_lea (l := 0) (h := 99) (r_nlt c9) (iv_leb (l := 0) (h := 2147483647) (r_nlt c8) (iv_lit (l := 0) (h := 0) (by decide)) (iv_top x3) (by decide)) (iv_lit (l := 99) (h := 99) (by decide)) (by decide)) hr17 (by decide)) (by decide)) k_o12
                          · skip
                            refine s_wl_X2_highest_0 (iv_ltb (l := 1) (h := 9) (r_nle c5) (iv_leb (l := 0) (h := 2147483647) (r_nlt c3) (iv_lit (l := 0) (h := 0) (by decide)) (iv_top x2) (by decide)) k_tl0f_huts (by decide)) k_tl0a_heights (iv_ne (l := 1) (h := 511) c15 hr13 (iv_lit (l := 0) (h := 0) (by decide)) (by decide)) (fun r18 hr18 => ?_)
                            exact hpost _ _ (iv_w hr18 (by decide)) k_o12
                        · skip
                          exact hpost _ _ (iv_w (iv_lit (l := (-1)) (h := (-1)) (by decide)) (by decide)) k_o12
                      · skip
                        exact hpost _ _ (iv_w hr13 (by decide)) k_o12
                    · skip
                      exact hpost _ _ (iv_w (iv_lit (l := (-2)) (h := (-2)) (by decide)) (by decide)) k_pa_heard
      · skip
        refine ⟨fun h => absurd h (by decide), fun _ => ?_, fun h0 h1 => absurd rfl h1⟩
        refine ⟨fun c19 => ?_, fun c19 => ?_⟩
        · skip
          refine ⟨fun c20 => ?_, fun c20 => ?_⟩
          · skip
            exact hpost _ _ (iv_w (iv_lit (l := (-2)) (h := (-2)) (by decide)) (by decide)) k_pa_heard
          · skip
            exact (iv_emp (iv_ne (l := 1) (h := 0) c20 (iv_lit (l := 0) (h := 0) (by decide)) (iv_lit (l := 0) (h := 0) (by decide)) (by decide)) (by decide)).elim
        · skip
          refine ⟨fun c21 => ?_, fun c21 => ?_⟩
          · skip
            refine ⟨fun c22 => ?_, fun c22 => ?_⟩
            · skip
              exact hpost _ _ (iv_w (iv_lit (l := (-2)) (h := (-2)) (by decide)) (by decide)) k_pa_heard
            · skip
              exact (iv_emp (iv_ne (l := 1) (h := 0) c22 (iv_lit (l := 0) (h := 0) (by decide)) (iv_lit (l := 0) (h := 0) (by decide)) (by decide)) (by decide)).elim
          · skip
            refine ⟨fun c23 => ?_, fun c23 => ?_⟩
            · skip
              exact (iv_emp (iv_eqa (l := 1) (h := 0) c23 (iv_lit (l := 1) (h := 1) (by decide)) (iv_lit (l := 0) (h := 0) (by decide)) (by decide)) (by decide)).elim
            · skip
              refine ⟨fun c24 => ?_, fun c24 => ?_⟩
              · skip
                exact hpost _ _ (iv_w (iv_lit (l := (-2)) (h := (-2)) (by decide)) (by decide)) k_pa_heard
              · skip
                refine ⟨fun c25 => ?_, fun c25 => ?_⟩
                · skip
                  exact hpost _ _ (iv_w (iv_lit (l := (-2)) (h := (-2)) (by decide)) (by decide)) k_pa_heard
                · skip
                  refine ⟨fun c26 => ?_, fun c26 => ?_⟩
                  · skip
                    exact hpost _ _ (iv_w (iv_lit (l := (-2)) (h := (-2)) (by decide)) (by decide)) k_pa_heard
                  · skip
                    refine ⟨fun c27 => ?_, fun c27 => ?_⟩
                    · skip
                      refine s_wp_X7_hear_9_0 k_pa_heard (iv_w (iv_ltb (l := 1) (h := 9) (r_nle c21) (iv_leb (l := 0) (h := 2147483647) (r_nlt c19) (iv_lit (l := 0) (h := 0) (by decide)) (iv_top x2) (by decide)) k_tl1f_huts (by decide)) (by decide)) k_tl1f_dams k_tl1f_echoes k_tl1a_heights k_tl1a_minutes k_tl1a_echoFrom k_tl1a_echoTo (fun o28 k_o28 => ?_)
                      refine s_wp_X7_fromBy_9_0 k_o28 (iv_ltb (l := 1) (h := 9) (r_nle c21) (iv_leb (l := 0) (h := 2147483647) (r_nlt c19) (iv_lit (l := 0) (h := 0) (by decide)) (iv_top x2) (by decide)) k_tl1f_huts (by decide)) (iv_lta (l := 0) (h := 8) (r_nle c21) (iv_leb (l := 0) (h := 2147483647) (r_nlt c19) (iv_lit (l := 0) (h := 0) (by decide)) (iv_top x2) (by decide)) k_tl1f_huts (by decide)) (iv_w (iv_lea (l := 0) (h := 99) (r_nlt c25) (iv_leb (l := 0) (h := 2147483647) (r_nlt c24) (iv_lit (l := 0) (h := 0) (by decide)) (iv_top x3) (by decide)) (iv_lit (l := 99) (h := 99) (by decide)) (by decide)) (by decide)) (fun r29 hr29 => ?_)
                      refine ⟨fun c30 => ?_, fun c30 => ?_⟩
                      · skip
                        refine ⟨fun c31 => ?_, fun c31 => ?_⟩
                        · skip
                          refine ⟨fun c32 => ?_, fun c32 => ?_⟩
                          · skip
                            refine s_wp_X7_soonest_9_0 k_o28 (iv_ltb (l := 1) (h := 9) (r_nle c21) (iv_leb (l := 0) (h := 2147483647) (r_nlt c19) (iv_lit (l := 0) (h := 0) (by decide)) (iv_top x2) (by decide)) k_tl1f_huts (by decide)) (iv_lta (l := 0) (h := 8) (r_nle c21) (iv_leb (l := 0) (h := 2147483647) (r_nlt c19) (iv_lit (l := 0) (h := 0) (by decide)) (iv_top x2) (by decide)) k_tl1f_huts (by decide)) (fun r33 hr33 => ?_)
                            exact hpost _ _ (iv_w (iv_sub (l := (-1000)) (h := 99) (iv_lea (l := 0) (h := 99) (r_nlt c25) (iv_leb (l := 0) (h := 2147483647) (r_nlt c24) (iv_lit (l := 0) (h := 0) (by decide)) (iv_top x3) (by decide)) (iv_lit (l := 99) (h := 99) (by decide)) (by decide)) hr33 (by decide)) (by decide)) k_o28
                          · skip
                            refine s_wl_X2_highest_0 (iv_ltb (l := 1) (h := 9) (r_nle c21) (iv_leb (l := 0) (h := 2147483647) (r_nlt c19) (iv_lit (l := 0) (h := 0) (by decide)) (iv_top x2) (by decide)) k_tl1f_huts (by decide)) k_tl1a_heights (iv_ne (l := 1) (h := 511) c31 hr29 (iv_lit (l := 0) (h := 0) (by decide)) (by decide)) (fun r34 hr34 => ?_)
                            exact hpost _ _ (iv_w hr34 (by decide)) k_o28
                        · skip
                          exact hpost _ _ (iv_w (iv_lit (l := (-1)) (h := (-1)) (by decide)) (by decide)) k_o28
                      · skip
                        exact hpost _ _ (iv_w hr29 (by decide)) k_o28
                    · skip
                      exact hpost _ _ (iv_w (iv_lit (l := (-2)) (h := (-2)) (by decide)) (by decide)) k_pa_heard
-- wx_X10_meet
set_option maxRecDepth 20000 in
theorem s_wx_X10_meet_0 {ta_counts : Nat → Int32} {tl0f_huts : Int32} {tl0f_singers : Int32} {tl0a_minutes : Nat → Int32} {tl0a_homes : Nat → Int32} {tl1f_huts : Int32} {tl1f_singers : Int32} {tl1a_minutes : Nat → Int32} {tl1a_homes : Nat → Int32} {pa_walked : Nat → Int32} {x1 : Int32} {x2 : Int32} {x3 : Int32} {x4 : Int32} {post : Int32 → (Nat → Int32) → Prop} (k_ta_counts : ∀ j, iv 0 2 (ta_counts j)) (k_tl0f_huts : iv 0 9 tl0f_huts) (k_tl0f_singers : iv 0 6 tl0f_singers) (k_tl0a_minutes : ∀ j, iv 0 9 (tl0a_minutes j)) (k_tl0a_homes : ∀ j, iv 0 8 (tl0a_homes j)) (k_tl1f_huts : iv 0 9 tl1f_huts) (k_tl1f_singers : iv 0 6 tl1f_singers) (k_tl1a_minutes : ∀ j, iv 0 9 (tl1a_minutes j)) (k_tl1a_homes : ∀ j, iv 0 8 (tl1a_homes j)) (k_pa_walked : ∀ j, iv 0 1000 (pa_walked j)) (hpost : ∀ (r : Int32) (pa_walked : Nat → Int32), iv (-1) 1000 r → (∀ j, iv 0 1000 (pa_walked j)) → post r pa_walked) : q_wx_X10_meet_0 ta_counts tl0f_huts tl0f_singers tl0a_minutes tl0a_homes tl1f_huts tl1f_singers tl1a_minutes tl1a_homes pa_walked x1 x2 x3 x4 post := by
  refine ⟨fun c1 => ?_, fun c1 => ?_⟩
  · skip
    refine ⟨fun _ => ?_, fun h => absurd h (by decide), fun h0 h1 => absurd rfl h0⟩
    exact hpost _ _ (iv_w (iv_lit (l := (-1)) (h := (-1)) (by decide)) (by decide)) k_pa_walked
  · skip
    refine ⟨fun c2 => ?_, fun c2 => ?_⟩
    · skip
      refine ⟨fun _ => ?_, fun h => absurd h (by decide), fun h0 h1 => absurd rfl h0⟩
      exact hpost _ _ (iv_w (iv_lit (l := (-1)) (h := (-1)) (by decide)) (by decide)) k_pa_walked
    · skip
      refine ⟨iv_in (iv_lta (l := 0) (h := 1) (r_nle c2) (iv_leb (l := 0) (h := 2147483647) (r_nlt c1) (iv_lit (l := 0) (h := 0) (by decide)) (iv_top x1) (by decide)) (k_ta_counts _) (by decide)) (by decide), fun hc => ?_, fun hc => ?_⟩
      · skip
        refine ⟨fun h => absurd h (by decide), fun h => absurd h (by decide), fun h0 h1 => ?_⟩
        refine ⟨fun c3 => ?_, fun c3 => ?_⟩
        · skip
          refine ⟨fun c4 => ?_, fun c4 => ?_⟩
          · skip
            exact hpost _ _ (iv_w (iv_lit (l := (-1)) (h := (-1)) (by decide)) (by decide)) k_pa_walked
          · skip
            exact (iv_emp (iv_ne (l := 1) (h := 0) c4 (iv_lit (l := 0) (h := 0) (by decide)) (iv_lit (l := 0) (h := 0) (by decide)) (by decide)) (by decide)).elim
        · skip
          refine ⟨fun c5 => ?_, fun c5 => ?_⟩
          · skip
            refine ⟨fun c6 => ?_, fun c6 => ?_⟩
            · skip
              exact hpost _ _ (iv_w (iv_lit (l := (-1)) (h := (-1)) (by decide)) (by decide)) k_pa_walked
            · skip
              exact (iv_emp (iv_ne (l := 1) (h := 0) c6 (iv_lit (l := 0) (h := 0) (by decide)) (iv_lit (l := 0) (h := 0) (by decide)) (by decide)) (by decide)).elim
          · skip
            refine ⟨fun c7 => ?_, fun c7 => ?_⟩
            · skip
              exact (iv_emp (iv_eqa (l := 1) (h := 0) c7 (iv_lit (l := 1) (h := 1) (by decide)) (iv_lit (l := 0) (h := 0) (by decide)) (by decide)) (by decide)).elim
            · skip
              refine ⟨fun c8 => ?_, fun c8 => ?_⟩
              · skip
                refine ⟨fun c9 => ?_, fun c9 => ?_⟩
                · skip
                  exact hpost _ _ (iv_w (iv_lit (l := (-1)) (h := (-1)) (by decide)) (by decide)) k_pa_walked
                · skip
                  exact (iv_emp (iv_ne (l := 1) (h := 0) c9 (iv_lit (l := 0) (h := 0) (by decide)) (iv_lit (l := 0) (h := 0) (by decide)) (by decide)) (by decide)).elim
              · skip
                refine ⟨fun c10 => ?_, fun c10 => ?_⟩
                · skip
                  refine ⟨fun c11 => ?_, fun c11 => ?_⟩
                  · skip
                    exact hpost _ _ (iv_w (iv_lit (l := (-1)) (h := (-1)) (by decide)) (by decide)) k_pa_walked
                  · skip
                    exact (iv_emp (iv_ne (l := 1) (h := 0) c11 (iv_lit (l := 0) (h := 0) (by decide)) (iv_lit (l := 0) (h := 0) (by decide)) (by decide)) (by decide)).elim
                · skip
                  refine ⟨fun c12 => ?_, fun c12 => ?_⟩
                  · skip
                    exact (iv_emp (iv_eqa (l := 1) (h := 0) c12 (iv_lit (l := 1) (h := 1) (by decide)) (iv_lit (l := 0) (h := 0) (by decide)) (by decide)) (by decide)).elim
                  · skip
                    refine ⟨fun c13 => ?_, fun c13 => ?_⟩
                    · skip
                      refine s_wp_X7_walk_9_0 k_pa_walked k_tl0f_huts k_tl0a_minutes (fun o14 k_o14 => ?_)
                      refine ⟨iv_in (iv_lta (l := 0) (h := 5) (r_nle c5) (iv_leb (l := 0) (h := 2147483647) (r_nlt c3) (iv_lit (l := 0) (h := 0) (by decide)) (iv_top x2) (by decide)) k_tl0f_singers (by decide)) (by decide), ?_⟩
                      refine ⟨iv_in (iv_lta (l := 0) (h := 5) (r_nle c10) (iv_leb (l := 0) (h := 2147483647) (r_nlt c8) (iv_lit (l := 0) (h := 0) (by decide)) (iv_top x3) (by decide)) (iv_ltb (l := 1) (h := 6) (r_nle c5) (iv_leb (l := 0) (h := 2147483647) (r_nlt c3) (iv_lit (l := 0) (h := 0) (by decide)) (iv_top x2) (by decide)) k_tl0f_singers (by decide)) (by decide)) (by decide), ?_⟩
                      refine s_wp_X7_together_9_2_0 k_o14 k_tl0f_huts (k_tl0a_homes _) (k_tl0a_homes _) (fun r15 hr15 => ?_)
                      exact hpost _ _ hr15 k_o14
                    · skip
                      exact hpost _ _ (iv_w (iv_lit (l := (-1)) (h := (-1)) (by decide)) (by decide)) k_pa_walked
      · skip
        refine ⟨fun h => absurd h (by decide), fun _ => ?_, fun h0 h1 => absurd rfl h1⟩
        refine ⟨fun c16 => ?_, fun c16 => ?_⟩
        · skip
          refine ⟨fun c17 => ?_, fun c17 => ?_⟩
          · skip
            exact hpost _ _ (iv_w (iv_lit (l := (-1)) (h := (-1)) (by decide)) (by decide)) k_pa_walked
          · skip
            exact (iv_emp (iv_ne (l := 1) (h := 0) c17 (iv_lit (l := 0) (h := 0) (by decide)) (iv_lit (l := 0) (h := 0) (by decide)) (by decide)) (by decide)).elim
        · skip
          refine ⟨fun c18 => ?_, fun c18 => ?_⟩
          · skip
            refine ⟨fun c19 => ?_, fun c19 => ?_⟩
            · skip
              exact hpost _ _ (iv_w (iv_lit (l := (-1)) (h := (-1)) (by decide)) (by decide)) k_pa_walked
            · skip
              exact (iv_emp (iv_ne (l := 1) (h := 0) c19 (iv_lit (l := 0) (h := 0) (by decide)) (iv_lit (l := 0) (h := 0) (by decide)) (by decide)) (by decide)).elim
          · skip
            refine ⟨fun c20 => ?_, fun c20 => ?_⟩
            · skip
              exact (iv_emp (iv_eqa (l := 1) (h := 0) c20 (iv_lit (l := 1) (h := 1) (by decide)) (iv_lit (l := 0) (h := 0) (by decide)) (by decide)) (by decide)).elim
            · skip
              refine ⟨fun c21 => ?_, fun c21 => ?_⟩
              · skip
                refine ⟨fun c22 => ?_, fun c22 => ?_⟩
                · skip
                  exact hpost _ _ (iv_w (iv_lit (l := (-1)) (h := (-1)) (by decide)) (by decide)) k_pa_walked
                · skip
                  exact (iv_emp (iv_ne (l := 1) (h := 0) c22 (iv_lit (l := 0) (h := 0) (by decide)) (iv_lit (l := 0) (h := 0) (by decide)) (by decide)) (by decide)).elim
              · skip
                refine ⟨fun c23 => ?_, fun c23 => ?_⟩
                · skip
                  refine ⟨fun c24 => ?_, fun c24 => ?_⟩
                  · skip
                    exact hpost _ _ (iv_w (iv_lit (l := (-1)) (h := (-1)) (by decide)) (by decide)) k_pa_walked
                  · skip
                    exact (iv_emp (iv_ne (l := 1) (h := 0) c24 (iv_lit (l := 0) (h := 0) (by decide)) (iv_lit (l := 0) (h := 0) (by decide)) (by decide)) (by decide)).elim
                · skip
                  refine ⟨fun c25 => ?_, fun c25 => ?_⟩
                  · skip
                    exact (iv_emp (iv_eqa (l := 1) (h := 0) c25 (iv_lit (l := 1) (h := 1) (by decide)) (iv_lit (l := 0) (h := 0) (by decide)) (by decide)) (by decide)).elim
                  · skip
                    refine ⟨fun c26 => ?_, fun c26 => ?_⟩
                    · skip
                      refine s_wp_X7_walk_9_0 k_pa_walked k_tl1f_huts k_tl1a_minutes (fun o27 k_o27 => ?_)
                      refine ⟨iv_in (iv_lta (l := 0) (h := 5) (r_nle c18) (iv_leb (l := 0) (h := 2147483647) (r_nlt c16) (iv_lit (l := 0) (h := 0) (by decide)) (iv_top x2) (by decide)) k_tl1f_singers (by decide)) (by decide), ?_⟩
                      refine ⟨iv_in (iv_lta (l := 0) (h := 5) (r_nle c23) (iv_leb (l := 0) (h := 2147483647) (r_nlt c21) (iv_lit (l := 0) (h := 0) (by decide)) (iv_top x3) (by decide)) (iv_ltb (l := 1) (h := 6) (r_nle c18) (iv_leb (l := 0) (h := 2147483647) (r_nlt c16) (iv_lit (l := 0) (h := 0) (by decide)) (iv_top x2) (by decide)) k_tl1f_singers (by decide)) (by decide)) (by decide), ?_⟩
                      refine s_wp_X7_together_9_2_0 k_o27 k_tl1f_huts (k_tl1a_homes _) (k_tl1a_homes _) (fun r28 hr28 => ?_)
                      exact hpost _ _ hr28 k_o27
                    · skip
                      exact hpost _ _ (iv_w (iv_lit (l := (-1)) (h := (-1)) (by decide)) (by decide)) k_pa_walked
-- wx_X10_carry
set_option maxRecDepth 20000 in
theorem s_wx_X10_carry_0 {ta_counts : Nat → Int32} {tl0f_huts : Int32} {tl0f_singers : Int32} {tl0f_villages : Int32} {tl0f_dams : Int32} {tl0f_echoes : Int32} {tl0a_heights : Nat → Int32} {tl0a_minutes : Nat → Int32} {tl0a_echoFrom : Nat → Int32} {tl0a_echoTo : Nat → Int32} {tl0a_homes : Nat → Int32} {tl1f_huts : Int32} {tl1f_singers : Int32} {tl1f_villages : Int32} {tl1f_dams : Int32} {tl1f_echoes : Int32} {tl1a_heights : Nat → Int32} {tl1a_minutes : Nat → Int32} {tl1a_echoFrom : Nat → Int32} {tl1a_echoTo : Nat → Int32} {tl1a_homes : Nat → Int32} {pa_heard : Nat → Int32} {pa_walked : Nat → Int32} {x1 : Int32} {x2 : Int32} {x3 : Int32} {post : Int32 → (Nat → Int32) → (Nat → Int32) → Prop} (k_ta_counts : ∀ j, iv 0 2 (ta_counts j)) (k_tl0f_huts : iv 0 9 tl0f_huts) (k_tl0f_singers : iv 0 6 tl0f_singers) (k_tl0f_villages : iv 0 511 tl0f_villages) (k_tl0f_dams : iv 0 511 tl0f_dams) (k_tl0f_echoes : iv 0 4 tl0f_echoes) (k_tl0a_heights : ∀ j, iv 0 99 (tl0a_heights j)) (k_tl0a_minutes : ∀ j, iv 0 9 (tl0a_minutes j)) (k_tl0a_echoFrom : ∀ j, iv 0 8 (tl0a_echoFrom j)) (k_tl0a_echoTo : ∀ j, iv 0 8 (tl0a_echoTo j)) (k_tl0a_homes : ∀ j, iv 0 8 (tl0a_homes j)) (k_tl1f_huts : iv 0 9 tl1f_huts) (k_tl1f_singers : iv 0 6 tl1f_singers) (k_tl1f_villages : iv 0 511 tl1f_villages) (k_tl1f_dams : iv 0 511 tl1f_dams) (k_tl1f_echoes : iv 0 4 tl1f_echoes) (k_tl1a_heights : ∀ j, iv 0 99 (tl1a_heights j)) (k_tl1a_minutes : ∀ j, iv 0 9 (tl1a_minutes j)) (k_tl1a_echoFrom : ∀ j, iv 0 8 (tl1a_echoFrom j)) (k_tl1a_echoTo : ∀ j, iv 0 8 (tl1a_echoTo j)) (k_tl1a_homes : ∀ j, iv 0 8 (tl1a_homes j)) (k_pa_heard : ∀ j, iv 0 1000 (pa_heard j)) (k_pa_walked : ∀ j, iv 0 1000 (pa_walked j)) (hpost : ∀ (r : Int32) (pa_heard : Nat → Int32) (pa_walked : Nat → Int32), iv (-1) 1000 r → (∀ j, iv 0 1000 (pa_heard j)) → (∀ j, iv 0 1000 (pa_walked j)) → post r pa_heard pa_walked) : q_wx_X10_carry_0 ta_counts tl0f_huts tl0f_singers tl0f_villages tl0f_dams tl0f_echoes tl0a_heights tl0a_minutes tl0a_echoFrom tl0a_echoTo tl0a_homes tl1f_huts tl1f_singers tl1f_villages tl1f_dams tl1f_echoes tl1a_heights tl1a_minutes tl1a_echoFrom tl1a_echoTo tl1a_homes pa_heard pa_walked x1 x2 x3 post := by
  refine ⟨fun c1 => ?_, fun c1 => ?_⟩
  · skip
    refine ⟨fun _ => ?_, fun h => absurd h (by decide), fun h0 h1 => absurd rfl h0⟩
    exact hpost _ _ _ (iv_w (iv_lit (l := (-1)) (h := (-1)) (by decide)) (by decide)) k_pa_heard k_pa_walked
  · skip
    refine ⟨fun c2 => ?_, fun c2 => ?_⟩
    · skip
      refine ⟨fun _ => ?_, fun h => absurd h (by decide), fun h0 h1 => absurd rfl h0⟩
      exact hpost _ _ _ (iv_w (iv_lit (l := (-1)) (h := (-1)) (by decide)) (by decide)) k_pa_heard k_pa_walked
    · skip
      refine ⟨iv_in (iv_lta (l := 0) (h := 1) (r_nle c2) (iv_leb (l := 0) (h := 2147483647) (r_nlt c1) (iv_lit (l := 0) (h := 0) (by decide)) (iv_top x1) (by decide)) (k_ta_counts _) (by decide)) (by decide), fun hc => ?_, fun hc => ?_⟩
      · skip
        refine ⟨fun h => absurd h (by decide), fun h => absurd h (by decide), fun h0 h1 => ?_⟩
        refine ⟨fun c3 => ?_, fun c3 => ?_⟩
        · skip
          refine ⟨fun c4 => ?_, fun c4 => ?_⟩
          · skip
            exact (iv_emp (iv_ne (l := 1) (h := 0) c4 (iv_lit (l := 0) (h := 0) (by decide)) (iv_lit (l := 0) (h := 0) (by decide)) (by decide)) (by decide)).elim
          · skip
            exact hpost _ _ _ (iv_w (iv_lit (l := (-1)) (h := (-1)) (by decide)) (by decide)) k_pa_heard k_pa_walked
        · skip
          refine ⟨fun c5 => ?_, fun c5 => ?_⟩
          · skip
            refine ⟨fun c6 => ?_, fun c6 => ?_⟩
            · skip
              exact (iv_emp (iv_ne (l := 1) (h := 0) c6 (iv_lit (l := 0) (h := 0) (by decide)) (iv_lit (l := 0) (h := 0) (by decide)) (by decide)) (by decide)).elim
            · skip
              exact hpost _ _ _ (iv_w (iv_lit (l := (-1)) (h := (-1)) (by decide)) (by decide)) k_pa_heard k_pa_walked
          · skip
            refine ⟨fun c7 => ?_, fun c7 => ?_⟩
            · skip
              refine s_wp_X7_hear_9_0 k_pa_heard k_tl0f_huts k_tl0f_dams k_tl0f_echoes k_tl0a_heights k_tl0a_minutes k_tl0a_echoFrom k_tl0a_echoTo (fun o8 k_o8 => ?_)
              refine s_wp_X7_walk_9_0 k_pa_walked k_tl0f_huts k_tl0a_minutes (fun o9 k_o9 => ?_)
              refine ⟨iv_in (iv_lta (l := 0) (h := 5) (r_nle c5) (iv_leb (l := 0) (h := 2147483647) (r_nlt c3) (iv_lit (l := 0) (h := 0) (by decide)) (iv_top x2) (by decide)) k_tl0f_singers (by decide)) (by decide), ?_⟩
              refine s_wp_X7_carried_9_0 k_o8 k_o9 k_tl0f_huts k_tl0f_villages k_tl0f_dams (k_tl0a_homes _) (fun r10 hr10 => ?_)
              exact hpost _ _ _ hr10 k_o8 k_o9
            · skip
              exact (iv_emp (iv_eqa (l := 1) (h := 0) c7 (iv_lit (l := 1) (h := 1) (by decide)) (iv_lit (l := 0) (h := 0) (by decide)) (by decide)) (by decide)).elim
      · skip
        refine ⟨fun h => absurd h (by decide), fun _ => ?_, fun h0 h1 => absurd rfl h1⟩
        refine ⟨fun c11 => ?_, fun c11 => ?_⟩
        · skip
          refine ⟨fun c12 => ?_, fun c12 => ?_⟩
          · skip
            exact (iv_emp (iv_ne (l := 1) (h := 0) c12 (iv_lit (l := 0) (h := 0) (by decide)) (iv_lit (l := 0) (h := 0) (by decide)) (by decide)) (by decide)).elim
          · skip
            exact hpost _ _ _ (iv_w (iv_lit (l := (-1)) (h := (-1)) (by decide)) (by decide)) k_pa_heard k_pa_walked
        · skip
          refine ⟨fun c13 => ?_, fun c13 => ?_⟩
          · skip
            refine ⟨fun c14 => ?_, fun c14 => ?_⟩
            · skip
              exact (iv_emp (iv_ne (l := 1) (h := 0) c14 (iv_lit (l := 0) (h := 0) (by decide)) (iv_lit (l := 0) (h := 0) (by decide)) (by decide)) (by decide)).elim
            · skip
              exact hpost _ _ _ (iv_w (iv_lit (l := (-1)) (h := (-1)) (by decide)) (by decide)) k_pa_heard k_pa_walked
          · skip
            refine ⟨fun c15 => ?_, fun c15 => ?_⟩
            · skip
              refine s_wp_X7_hear_9_0 k_pa_heard k_tl1f_huts k_tl1f_dams k_tl1f_echoes k_tl1a_heights k_tl1a_minutes k_tl1a_echoFrom k_tl1a_echoTo (fun o16 k_o16 => ?_)
              refine s_wp_X7_walk_9_0 k_pa_walked k_tl1f_huts k_tl1a_minutes (fun o17 k_o17 => ?_)
              refine ⟨iv_in (iv_lta (l := 0) (h := 5) (r_nle c13) (iv_leb (l := 0) (h := 2147483647) (r_nlt c11) (iv_lit (l := 0) (h := 0) (by decide)) (iv_top x2) (by decide)) k_tl1f_singers (by decide)) (by decide), ?_⟩
              refine s_wp_X7_carried_9_0 k_o16 k_o17 k_tl1f_huts k_tl1f_villages k_tl1f_dams (k_tl1a_homes _) (fun r18 hr18 => ?_)
              exact hpost _ _ _ hr18 k_o16 k_o17
            · skip
              exact (iv_emp (iv_eqa (l := 1) (h := 0) c15 (iv_lit (l := 1) (h := 1) (by decide)) (iv_lit (l := 0) (h := 0) (by decide)) (by decide)) (by decide)).elim
end
