section
set_option maxRecDepth 40000 in
set_option maxHeartbeats 4000000 in
theorem gx_teach {p : Program} {l : Launch} {e : Env} {s : State} {m : MethodId} {below : List Frame} {meth : Method} {c : Code} {E : zE} {G : zG} {b L bx bm cells slots : Nat} {xs : Nat → Int32} {mi : Nat → Option Nat} {ko : Option Nat} {T : TT} {M : Nat → Nat → Int32} {I : Nat → TT} {H : Heap} {locs : List Loc} {ls : Array Slot} {pc idx : Nat} {a1 a2 a3 a4 : Int32} (rest : List Value) (hcs : cells + 47 ≤ room_1.cells ∧ slots + 4608 ≤ room_1.slots) (C0 : lw_At p s m meth c b L xs) (hbx : s.heap.size ≤ bx) (hbm : bx + 93 ≤ bm) (hK : zK E s) (hO : zO s ∧ zZ G (fun q => s.heap.size ≤ q) s s.heap) (hG : GG E bx bm mi ko T M I H) (hS : va_S (fun q => s.heap.size ≤ q) s.heap H locs) (hls : ls.size = 4) (hW : (rest.map fun v => v.category).sum ≤ 8) (hlk : Cond.methodLink RL idx yX10_teach ∈ zb) (hd : decode cL_law pc = .ok (.invokevirtual idx, 3))
    (kk : ∀ (r : Int32) (mi' : Nat → Option Nat) (ko' : Option Nat) (T' : TT) (I' : Nat → TT) (H : Heap) (locs : List Loc) (cells' slots' : Nat), (mi' = mi ∧ T' = T ∧ I' = I) → cells' ≤ cells + 47 → slots' ≤ slots + 4608 → GG E bx bm mi' ko' T' M I' H → va_S (fun q => s.heap.size ≤ q) s.heap H locs → W p l e room_1 s m #[Value.ref b] below meth c H locs cells' slots' (lw_Z below #[Value.ref b] s) (F0 m (pc + 3) ls (.int r :: rest))) : W p l e room_1 s m #[Value.ref b] below meth c H locs cells slots (lw_Z below #[Value.ref b] s) (F0 m pc ls (.int a4 :: .int a3 :: .int a2 :: .int a1 :: .ref bx :: rest)) := by
  obtain ⟨hx, hb, hr, hml, hown, hts, hX0, hbl, hlocks, hgv⟩ := id C0
  have zc : zC p s m #[Value.ref b] meth c cL_law 4 RL ret := ⟨hx, hb, hml, hown, fun w hw => hts w (zb_in hw), hr, hlocks⟩
  obtain ⟨hXS, hMS, hE, hT, hMT⟩ := hG
  obtain ⟨S, V, hI, hX⟩ := id hXS
  refine zVx_i [.int a1, .int a2, .int a3, .int a4] rest zc ky_X10_teach kz_X10_teach hlk (c_wx_X10_teach l (post := (fun r nf_minute nf_avalanches nf_begun nf_climbed na_huts na_known na_levels na_snow => (iv 0 31 nf_begun) ∧ (iv 0 63 nf_climbed) ∧ (∀ j, iv 0 8 (na_huts j)) ∧ (∀ j, iv 0 31 (na_known j)) ∧ (∀ j, iv (-9) 122 (na_levels j)))) (s_wx_X10_teach_0 (hT.2 1) (hT.1 3) (hT.1 4) (hT.1 6) (hT.1 7) (hT.1 8) (hT.2 2) (hT.2 3) (hT.2 4) (hT.2 5) (hT.2 6) (hT.2 7) (hT.2 8) (hT.2 9) (hT.1 10) (hT.1 11) (hT.1 13) (hT.1 14) (hT.1 15) (hT.2 10) (hT.2 11) (hT.2 12) (hT.2 13) (hT.2 14) (hT.2 15) (hT.2 16) (hT.2 17) (hT.1 17) (hT.2 18) (hT.2 19) (hT.2 20) (hT.1 18) (hT.2 21) (hT.2 22) (hT.2 23) (hI.1 22) (hI.1 23) (hI.2 18) (hI.2 19) (hI.2 20) (fun _ _ _ _ _ _ _ _ _ _ h1 h2 h3 h4 h5 => ⟨h1, h2, h3, h4, h5⟩))) (wxPreV0 hK hX) hS (fun q (h : wxA bx q) => Nat.le_trans hbx h.1) rfl rfl hls hW ⟨rfl, rfl⟩ ⟨(Nat.le_of_ble_eq_true rfl), (Nat.le_of_ble_eq_true rfl)⟩ ⟨Nat.le_trans (Nat.le_add_right _ _) hcs.1, Nat.le_trans (Nat.le_add_right _ _) hcs.2⟩ hd (fun r u H1 locs1 hw h9 hk hS => ?_)
  obtain ⟨nf_minute, nf_avalanches, nf_begun, nf_climbed, na_huts, na_known, na_levels, na_snow⟩ := u
  obtain ⟨n_nf_begun, n_nf_climbed, n_na_huts, n_na_known, n_na_levels⟩ := hw
  exact kk r _ _ _ _ _ _ _ _ ⟨rfl, rfl, rfl⟩ (Nat.le_add_right _ _) (Nat.le_add_right _ _) ⟨XS_of (T := T) h9 (hI.1 0) (hI.1 1) (hI.1 2) (hI.1 3) (hI.1 4) (hI.1 5) (hI.1 6) (hI.2 0) (hI.2 1) (hI.2 2) (hI.2 3) (hI.2 4) (hI.2 5) (hI.2 6) (hI.2 7) (hI.1 7) (hI.2 8) (hI.2 9) (hI.2 10) (hI.1 8) (hI.2 11) (hI.2 12) (hI.2 13) (hI.1 9) (hI.1 10) (hI.2 14) (hI.2 15) (hI.1 11) (hI.1 12) (hI.2 17) (hI.1 13) (hI.1 14) (hI.1 15) (hI.1 16) n_nf_begun n_nf_climbed n_na_huts n_na_known n_na_levels (hI.2 22) (hI.2 23) (hI.2 24) (hI.2 26) (hI.2 27) (hI.2 28) (hI.2 32), MS_kp hMS (fun z h1 h2 h3 => hk z h1 (fun (hA : wxA bx z) => zap hbm h2 hA.2)), lE_kp hE (fun z h1 h2 => hk z h1 (fun (hA : wxA bx z) => zap hbm (Nat.le_trans (Nat.le_add_right _ _) h2) hA.2)), hT, hMT⟩ hS

set_option maxRecDepth 40000 in
set_option maxHeartbeats 4000000 in
theorem gx_text {p : Program} {l : Launch} {e : Env} {s : State} {m : MethodId} {below : List Frame} {meth : Method} {c : Code} {E : zE} {G : zG} {b L bx bm cells slots : Nat} {xs : Nat → Int32} {mi : Nat → Option Nat} {ko : Option Nat} {T : TT} {M : Nat → Nat → Int32} {I : Nat → TT} {H : Heap} {locs : List Loc} {ls : Array Slot} {pc idx : Nat} {a1 a2 : Int32} (rest : List Value) (hcs : cells + 47 ≤ room_1.cells ∧ slots + 4608 ≤ room_1.slots) (C0 : lw_At p s m meth c b L xs) (hbx : s.heap.size ≤ bx) (hbm : bx + 93 ≤ bm) (hK : zK E s) (hO : zO s ∧ zZ G (fun q => s.heap.size ≤ q) s s.heap) (hG : GG E bx bm mi ko T M I H) (hS : va_S (fun q => s.heap.size ≤ q) s.heap H locs) (hls : ls.size = 4) (hW : (rest.map fun v => v.category).sum ≤ 8) (hlk : Cond.methodLink RL idx yX10_text ∈ zb) (hd : decode cL_law pc = .ok (.invokevirtual idx, 3))
    (kk : ∀ (r : Int32) (mi' : Nat → Option Nat) (ko' : Option Nat) (T' : TT) (I' : Nat → TT) (H : Heap) (locs : List Loc) (cells' slots' : Nat), (mi' = mi ∧ I' = I ∧ xTX T T' a1 a2 r) → cells' ≤ cells + 47 → slots' ≤ slots + 4608 → GG E bx bm mi' ko' T' M I' H → va_S (fun q => s.heap.size ≤ q) s.heap H locs → W p l e room_1 s m #[Value.ref b] below meth c H locs cells' slots' (lw_Z below #[Value.ref b] s) (F0 m (pc + 3) ls (.int r :: rest))) : W p l e room_1 s m #[Value.ref b] below meth c H locs cells slots (lw_Z below #[Value.ref b] s) (F0 m pc ls (.int a2 :: .int a1 :: .ref bx :: rest)) := by
  obtain ⟨hx, hb, hr, hml, hown, hts, hX0, hbl, hlocks, hgv⟩ := id C0
  have zc : zC p s m #[Value.ref b] meth c cL_law 4 RL ret := ⟨hx, hb, hml, hown, fun w hw => hts w (zb_in hw), hr, hlocks⟩
  obtain ⟨hXS, hMS, hE, hT, hMT⟩ := hG
  obtain ⟨S, V, hI, hX⟩ := id hXS
  refine zVx_i [.int a1, .int a2] rest zc ky_X10_text kz_X10_text hlk (c_wx_X10_text l (post := (fun r tf_length tf_fault tf_place ta_counts tl0f_huts tl0f_singers tl0f_villages tl0f_dams tl0f_echoes tl0f_deep tl0f_slide tl0a_heights tl0a_ladders tl0a_minutes tl0a_echoFrom tl0a_echoTo tl0a_homes tl0a_talls tl0a_known tl1f_huts tl1f_singers tl1f_villages tl1f_dams tl1f_echoes tl1f_deep tl1f_slide tl1a_heights tl1a_ladders tl1a_minutes tl1a_echoFrom tl1a_echoTo tl1a_homes tl1a_talls tl1a_known tv0f_deeds tv0a_kinds tv0a_firsts tv0a_seconds tv1f_deeds tv1a_kinds tv1a_firsts tv1a_seconds ts0f_facts ts0a_heard ts0a_huts ts0a_minutes ts1f_facts ts1a_heard ts1a_huts ts1a_minutes tc0f_voices tc0f_step tc0a_parts tc0a_heights tc1f_voices tc1f_step tc1a_parts tc1a_heights rlf_huts rlf_singers rlf_villages rlf_dams rlf_echoes rlf_deep rlf_slide rla_heights rla_ladders rla_minutes rla_echoFrom rla_echoTo rla_homes rla_talls rla_known rvf_deeds rva_kinds rva_firsts rva_seconds rsf_facts rsa_heard rsa_huts rsa_minutes rcf_voices rcf_step rca_parts rca_heights rf_fault rf_faultPlace ra_numbers ra_tape rf_length rf_behind rf_kind rf_first rf_value rf_hutsToldOf rf_singersToldOf => (xTX T (tmk (T.2 0) tf_length tf_fault tf_place ta_counts tl0f_huts tl0f_singers tl0f_villages tl0f_dams tl0f_echoes tl0f_deep tl0f_slide tl0a_heights tl0a_ladders tl0a_minutes tl0a_echoFrom tl0a_echoTo tl0a_homes tl0a_talls tl0a_known tl1f_huts tl1f_singers tl1f_villages tl1f_dams tl1f_echoes tl1f_deep tl1f_slide tl1a_heights tl1a_ladders tl1a_minutes tl1a_echoFrom tl1a_echoTo tl1a_homes tl1a_talls tl1a_known tv0f_deeds tv0a_kinds tv0a_firsts tv0a_seconds tv1f_deeds tv1a_kinds tv1a_firsts tv1a_seconds ts0f_facts ts0a_heard ts0a_huts ts0a_minutes ts1f_facts ts1a_heard ts1a_huts ts1a_minutes tc0f_voices tc0f_step tc0a_parts tc0a_heights tc1f_voices tc1f_step tc1a_parts tc1a_heights) a1 a2 r) ∧ (iv 0 0 tf_length) ∧ (iv 0 4 tf_fault) ∧ (iv (-1) 600 tf_place) ∧ (∀ j, iv 0 2 (ta_counts j)) ∧ (iv 0 9 tl0f_huts) ∧ (iv 0 6 tl0f_singers) ∧ (iv 0 511 tl0f_villages) ∧ (iv 0 511 tl0f_dams) ∧ (iv 0 4 tl0f_echoes) ∧ (iv 1 9 tl0f_deep) ∧ (iv 0 10 tl0f_slide) ∧ (∀ j, iv 0 99 (tl0a_heights j)) ∧ (∀ j, iv 0 9 (tl0a_ladders j)) ∧ (∀ j, iv 0 9 (tl0a_minutes j)) ∧ (∀ j, iv 0 8 (tl0a_echoFrom j)) ∧ (∀ j, iv 0 8 (tl0a_echoTo j)) ∧ (∀ j, iv 0 8 (tl0a_homes j)) ∧ (∀ j, iv 0 9 (tl0a_talls j)) ∧ (∀ j, iv 0 31 (tl0a_known j)) ∧ (iv 0 9 tl1f_huts) ∧ (iv 0 6 tl1f_singers) ∧ (iv 0 511 tl1f_villages) ∧ (iv 0 511 tl1f_dams) ∧ (iv 0 4 tl1f_echoes) ∧ (iv 1 9 tl1f_deep) ∧ (iv 0 10 tl1f_slide) ∧ (∀ j, iv 0 99 (tl1a_heights j)) ∧ (∀ j, iv 0 9 (tl1a_ladders j)) ∧ (∀ j, iv 0 9 (tl1a_minutes j)) ∧ (∀ j, iv 0 8 (tl1a_echoFrom j)) ∧ (∀ j, iv 0 8 (tl1a_echoTo j)) ∧ (∀ j, iv 0 8 (tl1a_homes j)) ∧ (∀ j, iv 0 9 (tl1a_talls j)) ∧ (∀ j, iv 0 31 (tl1a_known j)) ∧ (iv 0 40 tv0f_deeds) ∧ (∀ j, iv 0 5 (tv0a_kinds j)) ∧ (∀ j, iv 0 5 (tv0a_firsts j)) ∧ (∀ j, iv (-1) 8 (tv0a_seconds j)) ∧ (iv 0 40 tv1f_deeds) ∧ (∀ j, iv 0 5 (tv1a_kinds j)) ∧ (∀ j, iv 0 5 (tv1a_firsts j)) ∧ (∀ j, iv (-1) 8 (tv1a_seconds j)) ∧ (iv 0 10 ts0f_facts) ∧ (∀ j, iv 0 1 (ts0a_heard j)) ∧ (∀ j, iv 0 8 (ts0a_huts j)) ∧ (∀ j, iv 0 60 (ts0a_minutes j)) ∧ (iv 0 10 ts1f_facts) ∧ (∀ j, iv 0 1 (ts1a_heard j)) ∧ (∀ j, iv 0 8 (ts1a_huts j)) ∧ (∀ j, iv 0 60 (ts1a_minutes j)) ∧ (iv 0 9 tc0f_voices) ∧ (iv 0 9 tc0f_step) ∧ (∀ j, iv 0 3 (tc0a_parts j)) ∧ (∀ j, iv 0 9 (tc0a_heights j)) ∧ (iv 0 9 tc1f_voices) ∧ (iv 0 9 tc1f_step) ∧ (∀ j, iv 0 3 (tc1a_parts j)) ∧ (∀ j, iv 0 9 (tc1a_heights j)) ∧ (iv 0 9 rlf_huts) ∧ (iv 0 6 rlf_singers) ∧ (iv 0 511 rlf_villages) ∧ (iv 0 511 rlf_dams) ∧ (iv 0 4 rlf_echoes) ∧ (iv 1 9 rlf_deep) ∧ (iv 0 10 rlf_slide) ∧ (∀ j, iv 0 99 (rla_heights j)) ∧ (∀ j, iv 0 9 (rla_ladders j)) ∧ (∀ j, iv 0 9 (rla_minutes j)) ∧ (∀ j, iv 0 8 (rla_echoFrom j)) ∧ (∀ j, iv 0 8 (rla_echoTo j)) ∧ (∀ j, iv 0 8 (rla_homes j)) ∧ (∀ j, iv 0 9 (rla_talls j)) ∧ (∀ j, iv 0 31 (rla_known j)) ∧ (iv 0 40 rvf_deeds) ∧ (∀ j, iv 0 5 (rva_kinds j)) ∧ (∀ j, iv 0 5 (rva_firsts j)) ∧ (∀ j, iv (-1) 8 (rva_seconds j)) ∧ (iv 0 10 rsf_facts) ∧ (∀ j, iv 0 1 (rsa_heard j)) ∧ (∀ j, iv 0 8 (rsa_huts j)) ∧ (∀ j, iv 0 60 (rsa_minutes j)) ∧ (iv 0 9 rcf_voices) ∧ (iv 0 9 rcf_step) ∧ (∀ j, iv 0 3 (rca_parts j)) ∧ (∀ j, iv 0 9 (rca_heights j)) ∧ (iv 0 4 rf_fault) ∧ (iv (-1) 600 rf_faultPlace) ∧ (∀ j, iv (-128) 127 (ra_tape j)) ∧ (iv 0 600 rf_length) ∧ (iv 0 600 rf_behind) ∧ (iv 0 4 rf_kind) ∧ (iv 0 600 rf_first))) (cj_q_wx_X10_text_0 (post_1 := fun r tf_length tf_fault tf_place ta_counts tl0f_huts tl0f_singers tl0f_villages tl0f_dams tl0f_echoes tl0f_deep tl0f_slide tl0a_heights tl0a_ladders tl0a_minutes tl0a_echoFrom tl0a_echoTo tl0a_homes tl0a_talls tl0a_known tl1f_huts tl1f_singers tl1f_villages tl1f_dams tl1f_echoes tl1f_deep tl1f_slide tl1a_heights tl1a_ladders tl1a_minutes tl1a_echoFrom tl1a_echoTo tl1a_homes tl1a_talls tl1a_known tv0f_deeds tv0a_kinds tv0a_firsts tv0a_seconds tv1f_deeds tv1a_kinds tv1a_firsts tv1a_seconds ts0f_facts ts0a_heard ts0a_huts ts0a_minutes ts1f_facts ts1a_heard ts1a_huts ts1a_minutes tc0f_voices tc0f_step tc0a_parts tc0a_heights tc1f_voices tc1f_step tc1a_parts tc1a_heights rlf_huts rlf_singers rlf_villages rlf_dams rlf_echoes rlf_deep rlf_slide rla_heights rla_ladders rla_minutes rla_echoFrom rla_echoTo rla_homes rla_talls rla_known rvf_deeds rva_kinds rva_firsts rva_seconds rsf_facts rsa_heard rsa_huts rsa_minutes rcf_voices rcf_step rca_parts rca_heights rf_fault rf_faultPlace ra_numbers ra_tape rf_length rf_behind rf_kind rf_first rf_value rf_hutsToldOf rf_singersToldOf => xTX T (tmk (T.2 0) tf_length tf_fault tf_place ta_counts tl0f_huts tl0f_singers tl0f_villages tl0f_dams tl0f_echoes tl0f_deep tl0f_slide tl0a_heights tl0a_ladders tl0a_minutes tl0a_echoFrom tl0a_echoTo tl0a_homes tl0a_talls tl0a_known tl1f_huts tl1f_singers tl1f_villages tl1f_dams tl1f_echoes tl1f_deep tl1f_slide tl1a_heights tl1a_ladders tl1a_minutes tl1a_echoFrom tl1a_echoTo tl1a_homes tl1a_talls tl1a_known tv0f_deeds tv0a_kinds tv0a_firsts tv0a_seconds tv1f_deeds tv1a_kinds tv1a_firsts tv1a_seconds ts0f_facts ts0a_heard ts0a_huts ts0a_minutes ts1f_facts ts1a_heard ts1a_huts ts1a_minutes tc0f_voices tc0f_step tc0a_parts tc0a_heights tc1f_voices tc1f_step tc1a_parts tc1a_heights) a1 a2 r) (post_2 := (fun r tf_length tf_fault tf_place ta_counts tl0f_huts tl0f_singers tl0f_villages tl0f_dams tl0f_echoes tl0f_deep tl0f_slide tl0a_heights tl0a_ladders tl0a_minutes tl0a_echoFrom tl0a_echoTo tl0a_homes tl0a_talls tl0a_known tl1f_huts tl1f_singers tl1f_villages tl1f_dams tl1f_echoes tl1f_deep tl1f_slide tl1a_heights tl1a_ladders tl1a_minutes tl1a_echoFrom tl1a_echoTo tl1a_homes tl1a_talls tl1a_known tv0f_deeds tv0a_kinds tv0a_firsts tv0a_seconds tv1f_deeds tv1a_kinds tv1a_firsts tv1a_seconds ts0f_facts ts0a_heard ts0a_huts ts0a_minutes ts1f_facts ts1a_heard ts1a_huts ts1a_minutes tc0f_voices tc0f_step tc0a_parts tc0a_heights tc1f_voices tc1f_step tc1a_parts tc1a_heights rlf_huts rlf_singers rlf_villages rlf_dams rlf_echoes rlf_deep rlf_slide rla_heights rla_ladders rla_minutes rla_echoFrom rla_echoTo rla_homes rla_talls rla_known rvf_deeds rva_kinds rva_firsts rva_seconds rsf_facts rsa_heard rsa_huts rsa_minutes rcf_voices rcf_step rca_parts rca_heights rf_fault rf_faultPlace ra_numbers ra_tape rf_length rf_behind rf_kind rf_first rf_value rf_hutsToldOf rf_singersToldOf => (iv 0 0 tf_length) ∧ (iv 0 4 tf_fault) ∧ (iv (-1) 600 tf_place) ∧ (∀ j, iv 0 2 (ta_counts j)) ∧ (iv 0 9 tl0f_huts) ∧ (iv 0 6 tl0f_singers) ∧ (iv 0 511 tl0f_villages) ∧ (iv 0 511 tl0f_dams) ∧ (iv 0 4 tl0f_echoes) ∧ (iv 1 9 tl0f_deep) ∧ (iv 0 10 tl0f_slide) ∧ (∀ j, iv 0 99 (tl0a_heights j)) ∧ (∀ j, iv 0 9 (tl0a_ladders j)) ∧ (∀ j, iv 0 9 (tl0a_minutes j)) ∧ (∀ j, iv 0 8 (tl0a_echoFrom j)) ∧ (∀ j, iv 0 8 (tl0a_echoTo j)) ∧ (∀ j, iv 0 8 (tl0a_homes j)) ∧ (∀ j, iv 0 9 (tl0a_talls j)) ∧ (∀ j, iv 0 31 (tl0a_known j)) ∧ (iv 0 9 tl1f_huts) ∧ (iv 0 6 tl1f_singers) ∧ (iv 0 511 tl1f_villages) ∧ (iv 0 511 tl1f_dams) ∧ (iv 0 4 tl1f_echoes) ∧ (iv 1 9 tl1f_deep) ∧ (iv 0 10 tl1f_slide) ∧ (∀ j, iv 0 99 (tl1a_heights j)) ∧ (∀ j, iv 0 9 (tl1a_ladders j)) ∧ (∀ j, iv 0 9 (tl1a_minutes j)) ∧ (∀ j, iv 0 8 (tl1a_echoFrom j)) ∧ (∀ j, iv 0 8 (tl1a_echoTo j)) ∧ (∀ j, iv 0 8 (tl1a_homes j)) ∧ (∀ j, iv 0 9 (tl1a_talls j)) ∧ (∀ j, iv 0 31 (tl1a_known j)) ∧ (iv 0 40 tv0f_deeds) ∧ (∀ j, iv 0 5 (tv0a_kinds j)) ∧ (∀ j, iv 0 5 (tv0a_firsts j)) ∧ (∀ j, iv (-1) 8 (tv0a_seconds j)) ∧ (iv 0 40 tv1f_deeds) ∧ (∀ j, iv 0 5 (tv1a_kinds j)) ∧ (∀ j, iv 0 5 (tv1a_firsts j)) ∧ (∀ j, iv (-1) 8 (tv1a_seconds j)) ∧ (iv 0 10 ts0f_facts) ∧ (∀ j, iv 0 1 (ts0a_heard j)) ∧ (∀ j, iv 0 8 (ts0a_huts j)) ∧ (∀ j, iv 0 60 (ts0a_minutes j)) ∧ (iv 0 10 ts1f_facts) ∧ (∀ j, iv 0 1 (ts1a_heard j)) ∧ (∀ j, iv 0 8 (ts1a_huts j)) ∧ (∀ j, iv 0 60 (ts1a_minutes j)) ∧ (iv 0 9 tc0f_voices) ∧ (iv 0 9 tc0f_step) ∧ (∀ j, iv 0 3 (tc0a_parts j)) ∧ (∀ j, iv 0 9 (tc0a_heights j)) ∧ (iv 0 9 tc1f_voices) ∧ (iv 0 9 tc1f_step) ∧ (∀ j, iv 0 3 (tc1a_parts j)) ∧ (∀ j, iv 0 9 (tc1a_heights j)) ∧ (iv 0 9 rlf_huts) ∧ (iv 0 6 rlf_singers) ∧ (iv 0 511 rlf_villages) ∧ (iv 0 511 rlf_dams) ∧ (iv 0 4 rlf_echoes) ∧ (iv 1 9 rlf_deep) ∧ (iv 0 10 rlf_slide) ∧ (∀ j, iv 0 99 (rla_heights j)) ∧ (∀ j, iv 0 9 (rla_ladders j)) ∧ (∀ j, iv 0 9 (rla_minutes j)) ∧ (∀ j, iv 0 8 (rla_echoFrom j)) ∧ (∀ j, iv 0 8 (rla_echoTo j)) ∧ (∀ j, iv 0 8 (rla_homes j)) ∧ (∀ j, iv 0 9 (rla_talls j)) ∧ (∀ j, iv 0 31 (rla_known j)) ∧ (iv 0 40 rvf_deeds) ∧ (∀ j, iv 0 5 (rva_kinds j)) ∧ (∀ j, iv 0 5 (rva_firsts j)) ∧ (∀ j, iv (-1) 8 (rva_seconds j)) ∧ (iv 0 10 rsf_facts) ∧ (∀ j, iv 0 1 (rsa_heard j)) ∧ (∀ j, iv 0 8 (rsa_huts j)) ∧ (∀ j, iv 0 60 (rsa_minutes j)) ∧ (iv 0 9 rcf_voices) ∧ (iv 0 9 rcf_step) ∧ (∀ j, iv 0 3 (rca_parts j)) ∧ (∀ j, iv 0 9 (rca_heights j)) ∧ (iv 0 4 rf_fault) ∧ (iv (-1) 600 rf_faultPlace) ∧ (∀ j, iv (-128) 127 (ra_tape j)) ∧ (iv 0 600 rf_length) ∧ (iv 0 600 rf_behind) ∧ (iv 0 4 rf_kind) ∧ (iv 0 600 rf_first))) (post_3 := (fun r tf_length tf_fault tf_place ta_counts tl0f_huts tl0f_singers tl0f_villages tl0f_dams tl0f_echoes tl0f_deep tl0f_slide tl0a_heights tl0a_ladders tl0a_minutes tl0a_echoFrom tl0a_echoTo tl0a_homes tl0a_talls tl0a_known tl1f_huts tl1f_singers tl1f_villages tl1f_dams tl1f_echoes tl1f_deep tl1f_slide tl1a_heights tl1a_ladders tl1a_minutes tl1a_echoFrom tl1a_echoTo tl1a_homes tl1a_talls tl1a_known tv0f_deeds tv0a_kinds tv0a_firsts tv0a_seconds tv1f_deeds tv1a_kinds tv1a_firsts tv1a_seconds ts0f_facts ts0a_heard ts0a_huts ts0a_minutes ts1f_facts ts1a_heard ts1a_huts ts1a_minutes tc0f_voices tc0f_step tc0a_parts tc0a_heights tc1f_voices tc1f_step tc1a_parts tc1a_heights rlf_huts rlf_singers rlf_villages rlf_dams rlf_echoes rlf_deep rlf_slide rla_heights rla_ladders rla_minutes rla_echoFrom rla_echoTo rla_homes rla_talls rla_known rvf_deeds rva_kinds rva_firsts rva_seconds rsf_facts rsa_heard rsa_huts rsa_minutes rcf_voices rcf_step rca_parts rca_heights rf_fault rf_faultPlace ra_numbers ra_tape rf_length rf_behind rf_kind rf_first rf_value rf_hutsToldOf rf_singersToldOf => (xTX T (tmk (T.2 0) tf_length tf_fault tf_place ta_counts tl0f_huts tl0f_singers tl0f_villages tl0f_dams tl0f_echoes tl0f_deep tl0f_slide tl0a_heights tl0a_ladders tl0a_minutes tl0a_echoFrom tl0a_echoTo tl0a_homes tl0a_talls tl0a_known tl1f_huts tl1f_singers tl1f_villages tl1f_dams tl1f_echoes tl1f_deep tl1f_slide tl1a_heights tl1a_ladders tl1a_minutes tl1a_echoFrom tl1a_echoTo tl1a_homes tl1a_talls tl1a_known tv0f_deeds tv0a_kinds tv0a_firsts tv0a_seconds tv1f_deeds tv1a_kinds tv1a_firsts tv1a_seconds ts0f_facts ts0a_heard ts0a_huts ts0a_minutes ts1f_facts ts1a_heard ts1a_huts ts1a_minutes tc0f_voices tc0f_step tc0a_parts tc0a_heights tc1f_voices tc1f_step tc1a_parts tc1a_heights) a1 a2 r) ∧ (iv 0 0 tf_length) ∧ (iv 0 4 tf_fault) ∧ (iv (-1) 600 tf_place) ∧ (∀ j, iv 0 2 (ta_counts j)) ∧ (iv 0 9 tl0f_huts) ∧ (iv 0 6 tl0f_singers) ∧ (iv 0 511 tl0f_villages) ∧ (iv 0 511 tl0f_dams) ∧ (iv 0 4 tl0f_echoes) ∧ (iv 1 9 tl0f_deep) ∧ (iv 0 10 tl0f_slide) ∧ (∀ j, iv 0 99 (tl0a_heights j)) ∧ (∀ j, iv 0 9 (tl0a_ladders j)) ∧ (∀ j, iv 0 9 (tl0a_minutes j)) ∧ (∀ j, iv 0 8 (tl0a_echoFrom j)) ∧ (∀ j, iv 0 8 (tl0a_echoTo j)) ∧ (∀ j, iv 0 8 (tl0a_homes j)) ∧ (∀ j, iv 0 9 (tl0a_talls j)) ∧ (∀ j, iv 0 31 (tl0a_known j)) ∧ (iv 0 9 tl1f_huts) ∧ (iv 0 6 tl1f_singers) ∧ (iv 0 511 tl1f_villages) ∧ (iv 0 511 tl1f_dams) ∧ (iv 0 4 tl1f_echoes) ∧ (iv 1 9 tl1f_deep) ∧ (iv 0 10 tl1f_slide) ∧ (∀ j, iv 0 99 (tl1a_heights j)) ∧ (∀ j, iv 0 9 (tl1a_ladders j)) ∧ (∀ j, iv 0 9 (tl1a_minutes j)) ∧ (∀ j, iv 0 8 (tl1a_echoFrom j)) ∧ (∀ j, iv 0 8 (tl1a_echoTo j)) ∧ (∀ j, iv 0 8 (tl1a_homes j)) ∧ (∀ j, iv 0 9 (tl1a_talls j)) ∧ (∀ j, iv 0 31 (tl1a_known j)) ∧ (iv 0 40 tv0f_deeds) ∧ (∀ j, iv 0 5 (tv0a_kinds j)) ∧ (∀ j, iv 0 5 (tv0a_firsts j)) ∧ (∀ j, iv (-1) 8 (tv0a_seconds j)) ∧ (iv 0 40 tv1f_deeds) ∧ (∀ j, iv 0 5 (tv1a_kinds j)) ∧ (∀ j, iv 0 5 (tv1a_firsts j)) ∧ (∀ j, iv (-1) 8 (tv1a_seconds j)) ∧ (iv 0 10 ts0f_facts) ∧ (∀ j, iv 0 1 (ts0a_heard j)) ∧ (∀ j, iv 0 8 (ts0a_huts j)) ∧ (∀ j, iv 0 60 (ts0a_minutes j)) ∧ (iv 0 10 ts1f_facts) ∧ (∀ j, iv 0 1 (ts1a_heard j)) ∧ (∀ j, iv 0 8 (ts1a_huts j)) ∧ (∀ j, iv 0 60 (ts1a_minutes j)) ∧ (iv 0 9 tc0f_voices) ∧ (iv 0 9 tc0f_step) ∧ (∀ j, iv 0 3 (tc0a_parts j)) ∧ (∀ j, iv 0 9 (tc0a_heights j)) ∧ (iv 0 9 tc1f_voices) ∧ (iv 0 9 tc1f_step) ∧ (∀ j, iv 0 3 (tc1a_parts j)) ∧ (∀ j, iv 0 9 (tc1a_heights j)) ∧ (iv 0 9 rlf_huts) ∧ (iv 0 6 rlf_singers) ∧ (iv 0 511 rlf_villages) ∧ (iv 0 511 rlf_dams) ∧ (iv 0 4 rlf_echoes) ∧ (iv 1 9 rlf_deep) ∧ (iv 0 10 rlf_slide) ∧ (∀ j, iv 0 99 (rla_heights j)) ∧ (∀ j, iv 0 9 (rla_ladders j)) ∧ (∀ j, iv 0 9 (rla_minutes j)) ∧ (∀ j, iv 0 8 (rla_echoFrom j)) ∧ (∀ j, iv 0 8 (rla_echoTo j)) ∧ (∀ j, iv 0 8 (rla_homes j)) ∧ (∀ j, iv 0 9 (rla_talls j)) ∧ (∀ j, iv 0 31 (rla_known j)) ∧ (iv 0 40 rvf_deeds) ∧ (∀ j, iv 0 5 (rva_kinds j)) ∧ (∀ j, iv 0 5 (rva_firsts j)) ∧ (∀ j, iv (-1) 8 (rva_seconds j)) ∧ (iv 0 10 rsf_facts) ∧ (∀ j, iv 0 1 (rsa_heard j)) ∧ (∀ j, iv 0 8 (rsa_huts j)) ∧ (∀ j, iv 0 60 (rsa_minutes j)) ∧ (iv 0 9 rcf_voices) ∧ (iv 0 9 rcf_step) ∧ (∀ j, iv 0 3 (rca_parts j)) ∧ (∀ j, iv 0 9 (rca_heights j)) ∧ (iv 0 4 rf_fault) ∧ (iv (-1) 600 rf_faultPlace) ∧ (∀ j, iv (-128) 127 (ra_tape j)) ∧ (iv 0 600 rf_length) ∧ (iv 0 600 rf_behind) ∧ (iv 0 4 rf_kind) ∧ (iv 0 600 rf_first))) (fun _ _ _ _ _ _ _ _ _ _ _ _ _ _ _ _ _ _ _ _ _ _ _ _ _ _ _ _ _ _ _ _ _ _ _ _ _ _ _ _ _ _ _ _ _ _ _ _ _ _ _ _ _ _ _ _ _ _ _ _ _ _ _ _ _ _ _ _ _ _ _ _ _ _ _ _ _ _ _ _ _ _ _ _ _ _ _ _ _ _ _ _ _ _ _ _ _ a b => ⟨a, b⟩) (e_x_text (T := T) (hT.1 0) (hT.2 0) (hT.2 1) (fun _ _ _ _ _ _ _ _ _ _ _ _ _ _ _ _ _ _ _ _ _ _ _ _ _ _ _ _ _ _ _ _ _ _ _ _ _ _ _ _ _ _ _ _ _ _ _ _ _ _ _ _ _ _ _ _ _ _ _ _ _ _ _ _ _ _ _ _ _ _ _ _ _ _ _ _ _ _ _ _ _ _ _ _ _ _ _ _ _ _ _ _ _ _ _ _ _ h => h)) (s_wx_X10_text_0 (hT.2 0) (hT.1 0) (hT.1 1) (hT.1 2) (hT.2 1) (hT.1 3) (hT.1 4) (hT.1 5) (hT.1 6) (hT.1 7) (hT.1 8) (hT.1 9) (hT.2 2) (hT.2 3) (hT.2 4) (hT.2 5) (hT.2 6) (hT.2 7) (hT.2 8) (hT.2 9) (hT.1 10) (hT.1 11) (hT.1 12) (hT.1 13) (hT.1 14) (hT.1 15) (hT.1 16) (hT.2 10) (hT.2 11) (hT.2 12) (hT.2 13) (hT.2 14) (hT.2 15) (hT.2 16) (hT.2 17) (hT.1 17) (hT.2 18) (hT.2 19) (hT.2 20) (hT.1 18) (hT.2 21) (hT.2 22) (hT.2 23) (hT.1 19) (hT.2 24) (hT.2 25) (hT.2 26) (hT.1 20) (hT.2 27) (hT.2 28) (hT.2 29) (hT.1 21) (hT.1 22) (hT.2 30) (hT.2 31) (hT.1 23) (hT.1 24) (hT.2 32) (hT.2 33) (hI.1 0) (hI.1 1) (hI.1 2) (hI.1 3) (hI.1 4) (hI.1 5) (hI.1 6) (hI.2 0) (hI.2 1) (hI.2 2) (hI.2 3) (hI.2 4) (hI.2 5) (hI.2 6) (hI.2 7) (hI.1 7) (hI.2 8) (hI.2 9) (hI.2 10) (hI.1 8) (hI.2 11) (hI.2 12) (hI.2 13) (hI.1 9) (hI.1 10) (hI.2 14) (hI.2 15) (hI.1 11) (hI.1 12) (hI.2 17) (hI.1 13) (hI.1 14) (hI.1 15) (hI.1 16) (fun _ _ _ _ _ _ _ _ _ _ _ _ _ _ _ _ _ _ _ _ _ _ _ _ _ _ _ _ _ _ _ _ _ _ _ _ _ _ _ _ _ _ _ _ _ _ _ _ _ _ _ _ _ _ _ _ _ _ _ _ _ _ _ _ _ _ _ _ _ _ _ _ _ _ _ _ _ _ _ _ _ _ _ _ _ _ _ _ _ _ _ _ _ _ _ _ _ _ h1 h2 h3 h4 h5 h6 h7 h8 h9 h10 h11 h12 h13 h14 h15 h16 h17 h18 h19 h20 h21 h22 h23 h24 h25 h26 h27 h28 h29 h30 h31 h32 h33 h34 h35 h36 h37 h38 h39 h40 h41 h42 h43 h44 h45 h46 h47 h48 h49 h50 h51 h52 h53 h54 h55 h56 h57 h58 h59 h60 h61 h62 h63 h64 h65 h66 h67 h68 h69 h70 h71 h72 h73 h74 h75 h76 h77 h78 h79 h80 h81 h82 h83 h84 h85 h86 h87 h88 h89 h90 h91 h92 => ⟨h1, h2, h3, h4, h5, h6, h7, h8, h9, h10, h11, h12, h13, h14, h15, h16, h17, h18, h19, h20, h21, h22, h23, h24, h25, h26, h27, h28, h29, h30, h31, h32, h33, h34, h35, h36, h37, h38, h39, h40, h41, h42, h43, h44, h45, h46, h47, h48, h49, h50, h51, h52, h53, h54, h55, h56, h57, h58, h59, h60, h61, h62, h63, h64, h65, h66, h67, h68, h69, h70, h71, h72, h73, h74, h75, h76, h77, h78, h79, h80, h81, h82, h83, h84, h85, h86, h87, h88, h89, h90, h91, h92⟩)))) (⟨fun _ _ _ _ h => ⟨h.1, ⟨h.2.1.1, zK_calling h.2.1.2⟩, zZ_calling h.2.2⟩, va_recv hK.1 hX (ci := 10) (q0 := 0) rfl rfl, fun U hU hW => ⟨rfl, ⟨by rw [hU]; exact hX, zK_moved hW hK⟩, zZ_use hO.2 hS (fun q (h : wxA bx q) => Nat.le_trans hbx h.1) hU hW⟩⟩) hS (fun q (h : wxA bx q) => Nat.le_trans hbx h.1) rfl rfl hls hW ⟨rfl, rfl⟩ ⟨(Nat.le_of_ble_eq_true rfl), (Nat.le_of_ble_eq_true rfl)⟩ ⟨Nat.le_trans (Nat.le_add_right _ _) hcs.1, Nat.le_trans (Nat.le_add_right _ _) hcs.2⟩ hd (fun r u H1 locs1 hw h9 hk hS => ?_)
  obtain ⟨tf_length, tf_fault, tf_place, ta_counts, tl0f_huts, tl0f_singers, tl0f_villages, tl0f_dams, tl0f_echoes, tl0f_deep, tl0f_slide, tl0a_heights, tl0a_ladders, tl0a_minutes, tl0a_echoFrom, tl0a_echoTo, tl0a_homes, tl0a_talls, tl0a_known, tl1f_huts, tl1f_singers, tl1f_villages, tl1f_dams, tl1f_echoes, tl1f_deep, tl1f_slide, tl1a_heights, tl1a_ladders, tl1a_minutes, tl1a_echoFrom, tl1a_echoTo, tl1a_homes, tl1a_talls, tl1a_known, tv0f_deeds, tv0a_kinds, tv0a_firsts, tv0a_seconds, tv1f_deeds, tv1a_kinds, tv1a_firsts, tv1a_seconds, ts0f_facts, ts0a_heard, ts0a_huts, ts0a_minutes, ts1f_facts, ts1a_heard, ts1a_huts, ts1a_minutes, tc0f_voices, tc0f_step, tc0a_parts, tc0a_heights, tc1f_voices, tc1f_step, tc1a_parts, tc1a_heights, rlf_huts, rlf_singers, rlf_villages, rlf_dams, rlf_echoes, rlf_deep, rlf_slide, rla_heights, rla_ladders, rla_minutes, rla_echoFrom, rla_echoTo, rla_homes, rla_talls, rla_known, rvf_deeds, rva_kinds, rva_firsts, rva_seconds, rsf_facts, rsa_heard, rsa_huts, rsa_minutes, rcf_voices, rcf_step, rca_parts, rca_heights, rf_fault, rf_faultPlace, ra_numbers, ra_tape, rf_length, rf_behind, rf_kind, rf_first, rf_value, rf_hutsToldOf, rf_singersToldOf⟩ := u
  obtain ⟨hrel, n_tf_length, n_tf_fault, n_tf_place, n_ta_counts, n_tl0f_huts, n_tl0f_singers, n_tl0f_villages, n_tl0f_dams, n_tl0f_echoes, n_tl0f_deep, n_tl0f_slide, n_tl0a_heights, n_tl0a_ladders, n_tl0a_minutes, n_tl0a_echoFrom, n_tl0a_echoTo, n_tl0a_homes, n_tl0a_talls, n_tl0a_known, n_tl1f_huts, n_tl1f_singers, n_tl1f_villages, n_tl1f_dams, n_tl1f_echoes, n_tl1f_deep, n_tl1f_slide, n_tl1a_heights, n_tl1a_ladders, n_tl1a_minutes, n_tl1a_echoFrom, n_tl1a_echoTo, n_tl1a_homes, n_tl1a_talls, n_tl1a_known, n_tv0f_deeds, n_tv0a_kinds, n_tv0a_firsts, n_tv0a_seconds, n_tv1f_deeds, n_tv1a_kinds, n_tv1a_firsts, n_tv1a_seconds, n_ts0f_facts, n_ts0a_heard, n_ts0a_huts, n_ts0a_minutes, n_ts1f_facts, n_ts1a_heard, n_ts1a_huts, n_ts1a_minutes, n_tc0f_voices, n_tc0f_step, n_tc0a_parts, n_tc0a_heights, n_tc1f_voices, n_tc1f_step, n_tc1a_parts, n_tc1a_heights, n_rlf_huts, n_rlf_singers, n_rlf_villages, n_rlf_dams, n_rlf_echoes, n_rlf_deep, n_rlf_slide, n_rla_heights, n_rla_ladders, n_rla_minutes, n_rla_echoFrom, n_rla_echoTo, n_rla_homes, n_rla_talls, n_rla_known, n_rvf_deeds, n_rva_kinds, n_rva_firsts, n_rva_seconds, n_rsf_facts, n_rsa_heard, n_rsa_huts, n_rsa_minutes, n_rcf_voices, n_rcf_step, n_rca_parts, n_rca_heights, n_rf_fault, n_rf_faultPlace, n_ra_tape, n_rf_length, n_rf_behind, n_rf_kind, n_rf_first⟩ := hw
  exact kk r _ _ _ _ _ _ _ _ ⟨rfl, rfl, hrel⟩ (Nat.le_add_right _ _) (Nat.le_add_right _ _) ⟨XS_of2 h9 n_rlf_huts n_rlf_singers n_rlf_villages n_rlf_dams n_rlf_echoes n_rlf_deep n_rlf_slide n_rla_heights n_rla_ladders n_rla_minutes n_rla_echoFrom n_rla_echoTo n_rla_homes n_rla_talls n_rla_known n_rvf_deeds n_rva_kinds n_rva_firsts n_rva_seconds n_rsf_facts n_rsa_heard n_rsa_huts n_rsa_minutes n_rcf_voices n_rcf_step n_rca_parts n_rca_heights n_rf_fault n_rf_faultPlace n_ra_tape n_rf_length n_rf_behind n_rf_kind n_rf_first (hI.1 22) (hI.1 23) (hI.2 18) (hI.2 19) (hI.2 20) (hI.2 22) (hI.2 23) (hI.2 24) (hI.2 26) (hI.2 27) (hI.2 28) (hI.2 32), MS_kp hMS (fun z h1 h2 h3 => hk z h1 (fun (hA : wxA bx z) => zap hbm h2 hA.2)), lE_kp hE (fun z h1 h2 => hk z h1 (fun (hA : wxA bx z) => zap hbm (Nat.le_trans (Nat.le_add_right _ _) h2) hA.2)), tJ_of (hT.2 0) (iv_w n_tf_length (by decide)) n_tf_fault n_tf_place n_ta_counts n_tl0f_huts n_tl0f_singers n_tl0f_villages n_tl0f_dams n_tl0f_echoes n_tl0f_deep n_tl0f_slide n_tl0a_heights n_tl0a_ladders n_tl0a_minutes n_tl0a_echoFrom n_tl0a_echoTo n_tl0a_homes n_tl0a_talls n_tl0a_known n_tl1f_huts n_tl1f_singers n_tl1f_villages n_tl1f_dams n_tl1f_echoes n_tl1f_deep n_tl1f_slide n_tl1a_heights n_tl1a_ladders n_tl1a_minutes n_tl1a_echoFrom n_tl1a_echoTo n_tl1a_homes n_tl1a_talls n_tl1a_known n_tv0f_deeds n_tv0a_kinds n_tv0a_firsts n_tv0a_seconds n_tv1f_deeds n_tv1a_kinds n_tv1a_firsts n_tv1a_seconds n_ts0f_facts n_ts0a_heard n_ts0a_huts n_ts0a_minutes n_ts1f_facts n_ts1a_heard n_ts1a_huts n_ts1a_minutes n_tc0f_voices n_tc0f_step n_tc0a_parts n_tc0a_heights n_tc1f_voices n_tc1f_step n_tc1a_parts n_tc1a_heights, hMT⟩ hS

set_option maxRecDepth 40000 in
set_option maxHeartbeats 4000000 in
theorem gx_trade {p : Program} {l : Launch} {e : Env} {s : State} {m : MethodId} {below : List Frame} {meth : Method} {c : Code} {E : zE} {G : zG} {b L bx bm cells slots : Nat} {xs : Nat → Int32} {mi : Nat → Option Nat} {ko : Option Nat} {T : TT} {M : Nat → Nat → Int32} {I : Nat → TT} {H : Heap} {locs : List Loc} {ls : Array Slot} {pc idx : Nat} {a1 a2 a3 a4 : Int32} (rest : List Value) (hcs : cells + 47 ≤ room_1.cells ∧ slots + 4608 ≤ room_1.slots) (C0 : lw_At p s m meth c b L xs) (hbx : s.heap.size ≤ bx) (hbm : bx + 93 ≤ bm) (hK : zK E s) (hO : zO s ∧ zZ G (fun q => s.heap.size ≤ q) s s.heap) (hG : GG E bx bm mi ko T M I H) (hS : va_S (fun q => s.heap.size ≤ q) s.heap H locs) (hls : ls.size = 4) (hW : (rest.map fun v => v.category).sum ≤ 8) (hlk : Cond.methodLink RL idx yX10_trade ∈ zb) (hd : decode cL_law pc = .ok (.invokevirtual idx, 3))
    (kk : ∀ (r : Int32) (mi' : Nat → Option Nat) (ko' : Option Nat) (T' : TT) (I' : Nat → TT) (H : Heap) (locs : List Loc) (cells' slots' : Nat), (mi' = mi ∧ T' = T ∧ I' = I) → cells' ≤ cells + 47 → slots' ≤ slots + 4608 → GG E bx bm mi' ko' T' M I' H → va_S (fun q => s.heap.size ≤ q) s.heap H locs → W p l e room_1 s m #[Value.ref b] below meth c H locs cells' slots' (lw_Z below #[Value.ref b] s) (F0 m (pc + 3) ls (.int r :: rest))) : W p l e room_1 s m #[Value.ref b] below meth c H locs cells slots (lw_Z below #[Value.ref b] s) (F0 m pc ls (.int a4 :: .int a3 :: .int a2 :: .int a1 :: .ref bx :: rest)) := by
  obtain ⟨hx, hb, hr, hml, hown, hts, hX0, hbl, hlocks, hgv⟩ := id C0
  have zc : zC p s m #[Value.ref b] meth c cL_law 4 RL ret := ⟨hx, hb, hml, hown, fun w hw => hts w (zb_in hw), hr, hlocks⟩
  obtain ⟨hXS, hMS, hE, hT, hMT⟩ := hG
  obtain ⟨S, V, hI, hX⟩ := id hXS
  refine zVx_i [.int a1, .int a2, .int a3, .int a4] rest zc ky_X10_trade kz_X10_trade hlk (c_wx_X10_trade l (post := fun r _ _ => True) (tX (fun _ _ => trivial))) (wxPreV0 hK hX) hS (fun q (h : wxA bx q) => Nat.le_trans hbx h.1) rfl rfl hls hW ⟨rfl, rfl⟩ ⟨(Nat.le_of_ble_eq_true rfl), (Nat.le_of_ble_eq_true rfl)⟩ ⟨Nat.le_trans (Nat.le_add_right _ _) hcs.1, Nat.le_trans (Nat.le_add_right _ _) hcs.2⟩ hd (fun r u H1 locs1 hw h9 hk hS => ?_)
  obtain ⟨ba_less, ba_full⟩ := u
  exact kk r _ _ _ _ _ _ _ _ ⟨rfl, rfl, rfl⟩ (Nat.le_add_right _ _) (Nat.le_add_right _ _) ⟨XS_of (T := T) h9 (hI.1 0) (hI.1 1) (hI.1 2) (hI.1 3) (hI.1 4) (hI.1 5) (hI.1 6) (hI.2 0) (hI.2 1) (hI.2 2) (hI.2 3) (hI.2 4) (hI.2 5) (hI.2 6) (hI.2 7) (hI.1 7) (hI.2 8) (hI.2 9) (hI.2 10) (hI.1 8) (hI.2 11) (hI.2 12) (hI.2 13) (hI.1 9) (hI.1 10) (hI.2 14) (hI.2 15) (hI.1 11) (hI.1 12) (hI.2 17) (hI.1 13) (hI.1 14) (hI.1 15) (hI.1 16) (hI.1 22) (hI.1 23) (hI.2 18) (hI.2 19) (hI.2 20) (hI.2 22) (hI.2 23) (hI.2 24) (hI.2 26) (hI.2 27) (hI.2 28) (hI.2 32), MS_kp hMS (fun z h1 h2 h3 => hk z h1 (fun (hA : wxA bx z) => zap hbm h2 hA.2)), lE_kp hE (fun z h1 h2 => hk z h1 (fun (hA : wxA bx z) => zap hbm (Nat.le_trans (Nat.le_add_right _ _) h2) hA.2)), hT, hMT⟩ hS

set_option maxRecDepth 40000 in
set_option maxHeartbeats 4000000 in
theorem gx_villages {p : Program} {l : Launch} {e : Env} {s : State} {m : MethodId} {below : List Frame} {meth : Method} {c : Code} {E : zE} {G : zG} {b L bx bm cells slots : Nat} {xs : Nat → Int32} {mi : Nat → Option Nat} {ko : Option Nat} {T : TT} {M : Nat → Nat → Int32} {I : Nat → TT} {H : Heap} {locs : List Loc} {ls : Array Slot} {pc idx : Nat} {a1 a2 a3 : Int32} (rest : List Value) (hcs : cells + 47 ≤ room_1.cells ∧ slots + 4608 ≤ room_1.slots) (C0 : lw_At p s m meth c b L xs) (hbx : s.heap.size ≤ bx) (hbm : bx + 93 ≤ bm) (hK : zK E s) (hO : zO s ∧ zZ G (fun q => s.heap.size ≤ q) s s.heap) (hG : GG E bx bm mi ko T M I H) (hS : va_S (fun q => s.heap.size ≤ q) s.heap H locs) (hls : ls.size = 4) (hW : (rest.map fun v => v.category).sum ≤ 8) (hlk : Cond.methodLink RL idx yX10_villages ∈ zb) (hd : decode cL_law pc = .ok (.invokevirtual idx, 3))
    (kk : ∀ (r : Int32) (mi' : Nat → Option Nat) (ko' : Option Nat) (T' : TT) (I' : Nat → TT) (H : Heap) (locs : List Loc) (cells' slots' : Nat), (mi' = mi ∧ T' = T ∧ I' = I) → cells' ≤ cells + 47 → slots' ≤ slots + 4608 → GG E bx bm mi' ko' T' M I' H → va_S (fun q => s.heap.size ≤ q) s.heap H locs → W p l e room_1 s m #[Value.ref b] below meth c H locs cells' slots' (lw_Z below #[Value.ref b] s) (F0 m (pc + 3) ls (.int r :: rest))) : W p l e room_1 s m #[Value.ref b] below meth c H locs cells slots (lw_Z below #[Value.ref b] s) (F0 m pc ls (.int a3 :: .int a2 :: .int a1 :: .ref bx :: rest)) := by
  obtain ⟨hx, hb, hr, hml, hown, hts, hX0, hbl, hlocks, hgv⟩ := id C0
  have zc : zC p s m #[Value.ref b] meth c cL_law 4 RL ret := ⟨hx, hb, hml, hown, fun w hw => hts w (zb_in hw), hr, hlocks⟩
  obtain ⟨hXS, hMS, hE, hT, hMT⟩ := hG
  obtain ⟨S, V, hI, hX⟩ := id hXS
  refine zVx_i [.int a1, .int a2, .int a3] rest zc ky_X10_villages kz_X10_villages hlk (c_wx_X10_villages l (post := (fun r pa_heard pa_cover => (∀ j, iv 0 1000 (pa_heard j)) ∧ (∀ j, iv 0 511 (pa_cover j)))) (s_wx_X10_villages_0 (hT.2 1) (hT.1 3) (hT.1 5) (hT.1 6) (hT.1 7) (hT.2 2) (hT.2 4) (hT.2 5) (hT.2 6) (hT.1 10) (hT.1 12) (hT.1 13) (hT.1 14) (hT.2 10) (hT.2 12) (hT.2 13) (hT.2 14) (hI.2 23) (hI.2 28) (fun _ _ _ _ h1 h2 => ⟨h1, h2⟩))) (wxPreV0 hK hX) hS (fun q (h : wxA bx q) => Nat.le_trans hbx h.1) rfl rfl hls hW ⟨rfl, rfl⟩ ⟨(Nat.le_of_ble_eq_true rfl), (Nat.le_of_ble_eq_true rfl)⟩ ⟨Nat.le_trans (Nat.le_add_right _ _) hcs.1, Nat.le_trans (Nat.le_add_right _ _) hcs.2⟩ hd (fun r u H1 locs1 hw h9 hk hS => ?_)
  obtain ⟨pa_heard, pa_cover⟩ := u
  obtain ⟨n_pa_heard, n_pa_cover⟩ := hw
  exact kk r _ _ _ _ _ _ _ _ ⟨rfl, rfl, rfl⟩ (Nat.le_add_right _ _) (Nat.le_add_right _ _) ⟨XS_of (T := T) h9 (hI.1 0) (hI.1 1) (hI.1 2) (hI.1 3) (hI.1 4) (hI.1 5) (hI.1 6) (hI.2 0) (hI.2 1) (hI.2 2) (hI.2 3) (hI.2 4) (hI.2 5) (hI.2 6) (hI.2 7) (hI.1 7) (hI.2 8) (hI.2 9) (hI.2 10) (hI.1 8) (hI.2 11) (hI.2 12) (hI.2 13) (hI.1 9) (hI.1 10) (hI.2 14) (hI.2 15) (hI.1 11) (hI.1 12) (hI.2 17) (hI.1 13) (hI.1 14) (hI.1 15) (hI.1 16) (hI.1 22) (hI.1 23) (hI.2 18) (hI.2 19) (hI.2 20) (hI.2 22) n_pa_heard (hI.2 24) (hI.2 26) (hI.2 27) n_pa_cover (hI.2 32), MS_kp hMS (fun z h1 h2 h3 => hk z h1 (fun (hA : wxA bx z) => zap hbm h2 hA.2)), lE_kp hE (fun z h1 h2 => hk z h1 (fun (hA : wxA bx z) => zap hbm (Nat.le_trans (Nat.le_add_right _ _) h2) hA.2)), hT, hMT⟩ hS

set_option maxRecDepth 40000 in
set_option maxHeartbeats 4000000 in
theorem gx_choir {p : Program} {l : Launch} {e : Env} {s : State} {m : MethodId} {below : List Frame} {meth : Method} {c : Code} {E : zE} {G : zG} {b L bx bm cells slots : Nat} {xs : Nat → Int32} {mi : Nat → Option Nat} {ko : Option Nat} {T : TT} {M : Nat → Nat → Int32} {I : Nat → TT} {H : Heap} {locs : List Loc} {ls : Array Slot} {pc idx : Nat} {a1 a2 : Int32} (rest : List Value) (hcs : cells + 47 ≤ room_1.cells ∧ slots + 4608 ≤ room_1.slots) (C0 : lw_At p s m meth c b L xs) (hbx : s.heap.size ≤ bx) (hbm : bx + 93 ≤ bm) (hK : zK E s) (hO : zO s ∧ zZ G (fun q => s.heap.size ≤ q) s s.heap) (hG : GG E bx bm mi ko T M I H) (hS : va_S (fun q => s.heap.size ≤ q) s.heap H locs) (hls : ls.size = 4) (hW : (rest.map fun v => v.category).sum ≤ 8) (hlk : Cond.methodLink RL idx yX10_choir ∈ zb) (hd : decode cL_law pc = .ok (.invokevirtual idx, 3))
    (kk : ∀ (r : Int32) (mi' : Nat → Option Nat) (ko' : Option Nat) (T' : TT) (I' : Nat → TT) (H : Heap) (locs : List Loc) (cells' slots' : Nat), (mi' = mi ∧ T' = T ∧ I' = I) → cells' ≤ cells + 47 → slots' ≤ slots + 4608 → GG E bx bm mi' ko' T' M I' H → va_S (fun q => s.heap.size ≤ q) s.heap H locs → W p l e room_1 s m #[Value.ref b] below meth c H locs cells' slots' (lw_Z below #[Value.ref b] s) (F0 m (pc + 3) ls (.int r :: rest))) : W p l e room_1 s m #[Value.ref b] below meth c H locs cells slots (lw_Z below #[Value.ref b] s) (F0 m pc ls (.int a2 :: .int a1 :: .ref bx :: rest)) := by
  obtain ⟨hx, hb, hr, hml, hown, hts, hX0, hbl, hlocks, hgv⟩ := id C0
  have zc : zC p s m #[Value.ref b] meth c cL_law 4 RL ret := ⟨hx, hb, hml, hown, fun w hw => hts w (zb_in hw), hr, hlocks⟩
  have hlo : bx + 93 ≤ bm + 29 := Nat.le_trans hbm (Nat.le_add_right _ _)
  obtain ⟨hXS, hMS, hE, hT, hMT⟩ := hG
  have hloH := MS_lt hMS
  obtain ⟨S, V, hI, hX⟩ := id hXS
  cases ko with
  | none =>
    refine zVa_i [.int a1, .int a2] rest zc ky_X10_choir kz_X10_choir hlk (c0_choir (h := H.size) l (hT.2 1) (hT.1 21) (hT.1 22) (hT.2 30) (hT.2 31) (hT.1 23) (hT.1 24) (hT.2 32) (hT.2 33) (hI.2 32)) (x0PreV ⟨rfl, Nat.le_trans hlo hloH⟩ hX hK) hS (fun q hq => by have := hS.1; unfold zImA zR at hq; omega) rfl rfl hls hW ⟨rfl, rfl⟩ ⟨(Nat.le_of_ble_eq_true rfl), (Nat.le_of_ble_eq_true rfl)⟩ ⟨Nat.le_trans (Nat.add_le_add_left (by decide) _) hcs.1, hcs.2⟩ hd (fun r _ H1 locs1 hrel hB hsz hk hS => ?_)
    obtain ⟨o, ka_gaps, ka_behind, hX1, hbh, ho⟩ := hB
    exact kk r _ _ _ _ _ _ _ _ ⟨rfl, rfl, rfl⟩ (Nat.add_le_add_left (by decide) _) (Nat.le_refl _) ⟨XS_of (T := T) hX1 (hI.1 0) (hI.1 1) (hI.1 2) (hI.1 3) (hI.1 4) (hI.1 5) (hI.1 6) (hI.2 0) (hI.2 1) (hI.2 2) (hI.2 3) (hI.2 4) (hI.2 5) (hI.2 6) (hI.2 7) (hI.1 7) (hI.2 8) (hI.2 9) (hI.2 10) (hI.1 8) (hI.2 11) (hI.2 12) (hI.2 13) (hI.1 9) (hI.1 10) (hI.2 14) (hI.2 15) (hI.1 11) (hI.1 12) (hI.2 17) (hI.1 13) (hI.1 14) (hI.1 15) (hI.1 16) (hI.1 22) (hI.1 23) (hI.2 18) (hI.2 19) (hI.2 20) (hI.2 22) (hI.2 23) (hI.2 24) (hI.2 26) (hI.2 27) (hI.2 28) hbh, MS_kp hMS (fun z h1 h2 h3 => hk z h1 (fun hA => by unfold zImA zR at hA; omega)), lE_tab hE hlo hloH hk ho, hT, hMT⟩ hS
  | some t =>
    obtain ⟨hlt, z, hTb⟩ := hE.2.2.1 t rfl
    have hXt := x0_wxt hX hTb (Nat.le_trans hlo hlt) (Nat.le_refl t)
    refine zVx_i [.int a1, .int a2] rest zc ky_X10_choir kz_X10_choir hlk (c_wxt_X10_choir l (post := (fun r ka_gaps ka_behind z_tab => (∀ j, iv 0 511 (ka_behind j)))) (s_wxt_X10_choir_0 (hT.2 1) (hT.1 21) (hT.1 22) (hT.2 30) (hT.2 31) (hT.1 23) (hT.1 24) (hT.2 32) (hT.2 33) (hI.2 32) (fun _ _ _ _ h0 => h0))) (wxtPreV0 hK hXt) hS (fun q hq => by unfold wxtA at hq; omega) rfl rfl hls hW ⟨rfl, rfl⟩ ⟨(Nat.le_of_ble_eq_true rfl), (Nat.le_of_ble_eq_true rfl)⟩ ⟨Nat.le_trans (Nat.le_add_right _ _) hcs.1, Nat.le_trans (Nat.le_add_right _ _) hcs.2⟩ hd (fun r u H1 locs1 hbh h9 hk hS => ?_)
    obtain ⟨ka_gaps, ka_behind, z_tab⟩ := u
    have hs := x0_split h9
    exact kk r _ _ _ _ _ _ _ _ ⟨rfl, rfl, rfl⟩ (Nat.le_add_right _ _) (Nat.le_add_right _ _) ⟨XS_of (T := T) hs.1 (hI.1 0) (hI.1 1) (hI.1 2) (hI.1 3) (hI.1 4) (hI.1 5) (hI.1 6) (hI.2 0) (hI.2 1) (hI.2 2) (hI.2 3) (hI.2 4) (hI.2 5) (hI.2 6) (hI.2 7) (hI.1 7) (hI.2 8) (hI.2 9) (hI.2 10) (hI.1 8) (hI.2 11) (hI.2 12) (hI.2 13) (hI.1 9) (hI.1 10) (hI.2 14) (hI.2 15) (hI.1 11) (hI.1 12) (hI.2 17) (hI.1 13) (hI.1 14) (hI.1 15) (hI.1 16) (hI.1 22) (hI.1 23) (hI.2 18) (hI.2 19) (hI.2 20) (hI.2 22) (hI.2 23) (hI.2 24) (hI.2 26) (hI.2 27) (hI.2 28) hbh, MS_kp hMS (fun z h1 h2 h3 => hk z h1 (fun hA => by unfold wxtA at hA; omega)), lE_tab2 hE hlo hk hs.2, hT, hMT⟩ hS

set_option maxRecDepth 40000 in
set_option maxHeartbeats 4000000 in
theorem gx_orders {p : Program} {l : Launch} {e : Env} {s : State} {m : MethodId} {below : List Frame} {meth : Method} {c : Code} {E : zE} {G : zG} {b L bx bm cells slots : Nat} {xs : Nat → Int32} {mi : Nat → Option Nat} {ko : Option Nat} {T : TT} {M : Nat → Nat → Int32} {I : Nat → TT} {H : Heap} {locs : List Loc} {ls : Array Slot} {pc idx : Nat} {a1 : Int32} (rest : List Value) (hcs : cells + 47 ≤ room_1.cells ∧ slots + 4608 ≤ room_1.slots) (C0 : lw_At p s m meth c b L xs) (hbx : s.heap.size ≤ bx) (hbm : bx + 93 ≤ bm) (hK : zK E s) (hO : zO s ∧ zZ G (fun q => s.heap.size ≤ q) s s.heap) (hG : GG E bx bm mi ko T M I H) (hS : va_S (fun q => s.heap.size ≤ q) s.heap H locs) (hls : ls.size = 4) (hW : (rest.map fun v => v.category).sum ≤ 8) (hlk : Cond.methodLink RL idx yX10_orders ∈ zb) (hd : decode cL_law pc = .ok (.invokevirtual idx, 3))
    (kk : ∀ (r : Int64) (mi' : Nat → Option Nat) (ko' : Option Nat) (T' : TT) (I' : Nat → TT) (H : Heap) (locs : List Loc) (cells' slots' : Nat), (mi' = mi ∧ T' = T ∧ I' = I) → cells' ≤ cells + 47 → slots' ≤ slots + 4608 → GG E bx bm mi' ko' T' M I' H → va_S (fun q => s.heap.size ≤ q) s.heap H locs → W p l e room_1 s m #[Value.ref b] below meth c H locs cells' slots' (lw_Z below #[Value.ref b] s) (F0 m (pc + 3) ls (.long r :: rest))) : W p l e room_1 s m #[Value.ref b] below meth c H locs cells slots (lw_Z below #[Value.ref b] s) (F0 m pc ls (.int a1 :: .ref bx :: rest)) := by
  obtain ⟨hx, hb, hr, hml, hown, hts, hX0, hbl, hlocks, hgv⟩ := id C0
  have zc : zC p s m #[Value.ref b] meth c cL_law 4 RL ret := ⟨hx, hb, hml, hown, fun w hw => hts w (zb_in hw), hr, hlocks⟩
  have hlo : bx + 93 ≤ bm + 29 := Nat.le_trans hbm (Nat.le_add_right _ _)
  obtain ⟨hXS, hMS, hE, hT, hMT⟩ := hG
  have hloH := MS_lt hMS
  obtain ⟨S, V, hI, hX⟩ := id hXS
  cases ko with
  | none =>
    refine zVa_l [.int a1] rest zc ky_X10_orders kz_X10_orders hlk (c0_orders (h := H.size) l (hT.2 1) (hT.1 21) (hT.1 22) (hT.2 30) (hT.2 31) (hT.1 23) (hT.1 24) (hT.2 32) (hT.2 33) (hI.2 32)) (x0PreV ⟨rfl, Nat.le_trans hlo hloH⟩ hX hK) hS (fun q hq => by have := hS.1; unfold zImA zR at hq; omega) rfl rfl hls hW ⟨rfl, rfl⟩ ⟨(Nat.le_of_ble_eq_true rfl), (Nat.le_of_ble_eq_true rfl)⟩ ⟨Nat.le_trans (Nat.add_le_add_left (by decide) _) hcs.1, hcs.2⟩ hd (fun r _ H1 locs1 hrel hB hsz hk hS => ?_)
    obtain ⟨o, ka_gaps, ka_behind, hX1, hbh, ho⟩ := hB
    exact kk r _ _ _ _ _ _ _ _ ⟨rfl, rfl, rfl⟩ (Nat.add_le_add_left (by decide) _) (Nat.le_refl _) ⟨XS_of (T := T) hX1 (hI.1 0) (hI.1 1) (hI.1 2) (hI.1 3) (hI.1 4) (hI.1 5) (hI.1 6) (hI.2 0) (hI.2 1) (hI.2 2) (hI.2 3) (hI.2 4) (hI.2 5) (hI.2 6) (hI.2 7) (hI.1 7) (hI.2 8) (hI.2 9) (hI.2 10) (hI.1 8) (hI.2 11) (hI.2 12) (hI.2 13) (hI.1 9) (hI.1 10) (hI.2 14) (hI.2 15) (hI.1 11) (hI.1 12) (hI.2 17) (hI.1 13) (hI.1 14) (hI.1 15) (hI.1 16) (hI.1 22) (hI.1 23) (hI.2 18) (hI.2 19) (hI.2 20) (hI.2 22) (hI.2 23) (hI.2 24) (hI.2 26) (hI.2 27) (hI.2 28) hbh, MS_kp hMS (fun z h1 h2 h3 => hk z h1 (fun hA => by unfold zImA zR at hA; omega)), lE_tab hE hlo hloH hk ho, hT, hMT⟩ hS
  | some t =>
    obtain ⟨hlt, z, hTb⟩ := hE.2.2.1 t rfl
    have hXt := x0_wxt hX hTb (Nat.le_trans hlo hlt) (Nat.le_refl t)
    refine zVx_l [.int a1] rest zc ky_X10_orders kz_X10_orders hlk (c_wxt_X10_orders l (post := (fun r ka_gaps ka_behind z_tab => (∀ j, iv 0 511 (ka_behind j)))) (s_wxt_X10_orders_0 (hT.2 1) (hT.1 21) (hT.1 22) (hT.2 30) (hT.2 31) (hT.1 23) (hT.1 24) (hT.2 32) (hT.2 33) (hI.2 32) (fun _ _ _ _ h0 => h0))) (wxtPreV0 hK hXt) hS (fun q hq => by unfold wxtA at hq; omega) rfl rfl hls hW ⟨rfl, rfl⟩ ⟨(Nat.le_of_ble_eq_true rfl), (Nat.le_of_ble_eq_true rfl)⟩ ⟨Nat.le_trans (Nat.le_add_right _ _) hcs.1, Nat.le_trans (Nat.le_add_right _ _) hcs.2⟩ hd (fun r u H1 locs1 hbh h9 hk hS => ?_)
    obtain ⟨ka_gaps, ka_behind, z_tab⟩ := u
    have hs := x0_split h9
    exact kk r _ _ _ _ _ _ _ _ ⟨rfl, rfl, rfl⟩ (Nat.le_add_right _ _) (Nat.le_add_right _ _) ⟨XS_of (T := T) hs.1 (hI.1 0) (hI.1 1) (hI.1 2) (hI.1 3) (hI.1 4) (hI.1 5) (hI.1 6) (hI.2 0) (hI.2 1) (hI.2 2) (hI.2 3) (hI.2 4) (hI.2 5) (hI.2 6) (hI.2 7) (hI.1 7) (hI.2 8) (hI.2 9) (hI.2 10) (hI.1 8) (hI.2 11) (hI.2 12) (hI.2 13) (hI.1 9) (hI.1 10) (hI.2 14) (hI.2 15) (hI.1 11) (hI.1 12) (hI.2 17) (hI.1 13) (hI.1 14) (hI.1 15) (hI.1 16) (hI.1 22) (hI.1 23) (hI.2 18) (hI.2 19) (hI.2 20) (hI.2 22) (hI.2 23) (hI.2 24) (hI.2 26) (hI.2 27) (hI.2 28) hbh, MS_kp hMS (fun z h1 h2 h3 => hk z h1 (fun hA => by unfold wxtA at hA; omega)), lE_tab2 hE hlo hk hs.2, hT, hMT⟩ hS
end
section
set_option maxRecDepth 40000 in
set_option maxHeartbeats 4000000 in
theorem gx_order {p : Program} {l : Launch} {e : Env} {s : State} {m : MethodId} {below : List Frame} {meth : Method} {c : Code} {E : zE} {G : zG} {b L bx bm cells slots : Nat} {xs : Nat → Int32} {mi : Nat → Option Nat} {ko : Option Nat} {T : TT} {M : Nat → Nat → Int32} {I : Nat → TT} {H : Heap} {locs : List Loc} {ls : Array Slot} {pc idx : Nat} {a1 a2 : Int32} (rest : List Value) (hcs : cells + 47 ≤ room_1.cells ∧ slots + 4608 ≤ room_1.slots) (C0 : lw_At p s m meth c b L xs) (hbx : s.heap.size ≤ bx) (hbm : bx + 93 ≤ bm) (hK : zK E s) (hO : zO s ∧ zZ G (fun q => s.heap.size ≤ q) s s.heap) (hG : GG E bx bm mi ko T M I H) (hS : va_S (fun q => s.heap.size ≤ q) s.heap H locs) (hls : ls.size = 4) (hW : (rest.map fun v => v.category).sum ≤ 8) (hlk : Cond.methodLink RL idx yX10_order ∈ zb) (hd : decode cL_law pc = .ok (.invokevirtual idx, 3))
    (kk : ∀ (r : Int32) (mi' : Nat → Option Nat) (ko' : Option Nat) (T' : TT) (I' : Nat → TT) (H : Heap) (locs : List Loc) (cells' slots' : Nat), (mi' = mi ∧ T' = T ∧ I' = I) → cells' ≤ cells + 47 → slots' ≤ slots + 4608 → GG E bx bm mi' ko' T' M I' H → va_S (fun q => s.heap.size ≤ q) s.heap H locs → W p l e room_1 s m #[Value.ref b] below meth c H locs cells' slots' (lw_Z below #[Value.ref b] s) (F0 m (pc + 3) ls (.int r :: rest))) : W p l e room_1 s m #[Value.ref b] below meth c H locs cells slots (lw_Z below #[Value.ref b] s) (F0 m pc ls (.int a2 :: .int a1 :: .ref bx :: rest)) := by
  obtain ⟨hx, hb, hr, hml, hown, hts, hX0, hbl, hlocks, hgv⟩ := id C0
  have zc : zC p s m #[Value.ref b] meth c cL_law 4 RL ret := ⟨hx, hb, hml, hown, fun w hw => hts w (zb_in hw), hr, hlocks⟩
  have hlo : bx + 93 ≤ bm + 29 := Nat.le_trans hbm (Nat.le_add_right _ _)
  obtain ⟨hXS, hMS, hE, hT, hMT⟩ := hG
  have hloH := MS_lt hMS
  obtain ⟨S, V, hI, hX⟩ := id hXS
  cases ko with
  | none =>
    refine zVa_i [.int a1, .int a2] rest zc ky_X10_order kz_X10_order hlk (c0_order (h := H.size) l (hT.2 1) (hT.1 21) (hT.1 22) (hT.2 30) (hT.2 31) (hT.1 23) (hT.1 24) (hT.2 32) (hT.2 33) (hI.2 32)) (x0PreV ⟨rfl, Nat.le_trans hlo hloH⟩ hX hK) hS (fun q hq => by have := hS.1; unfold zImA zR at hq; omega) rfl rfl hls hW ⟨rfl, rfl⟩ ⟨(Nat.le_of_ble_eq_true rfl), (Nat.le_of_ble_eq_true rfl)⟩ ⟨Nat.le_trans (Nat.add_le_add_left (by decide) _) hcs.1, hcs.2⟩ hd (fun r _ H1 locs1 hrel hB hsz hk hS => ?_)
    obtain ⟨o, ka_gaps, ka_behind, hX1, hbh, ho⟩ := hB
    exact kk r _ _ _ _ _ _ _ _ ⟨rfl, rfl, rfl⟩ (Nat.add_le_add_left (by decide) _) (Nat.le_refl _) ⟨XS_of (T := T) hX1 (hI.1 0) (hI.1 1) (hI.1 2) (hI.1 3) (hI.1 4) (hI.1 5) (hI.1 6) (hI.2 0) (hI.2 1) (hI.2 2) (hI.2 3) (hI.2 4) (hI.2 5) (hI.2 6) (hI.2 7) (hI.1 7) (hI.2 8) (hI.2 9) (hI.2 10) (hI.1 8) (hI.2 11) (hI.2 12) (hI.2 13) (hI.1 9) (hI.1 10) (hI.2 14) (hI.2 15) (hI.1 11) (hI.1 12) (hI.2 17) (hI.1 13) (hI.1 14) (hI.1 15) (hI.1 16) (hI.1 22) (hI.1 23) (hI.2 18) (hI.2 19) (hI.2 20) (hI.2 22) (hI.2 23) (hI.2 24) (hI.2 26) (hI.2 27) (hI.2 28) hbh, MS_kp hMS (fun z h1 h2 h3 => hk z h1 (fun hA => by unfold zImA zR at hA; omega)), lE_tab hE hlo hloH hk ho, hT, hMT⟩ hS
  | some t =>
    obtain ⟨hlt, z, hTb⟩ := hE.2.2.1 t rfl
    have hXt := x0_wxt hX hTb (Nat.le_trans hlo hlt) (Nat.le_refl t)
    refine zVx_i [.int a1, .int a2] rest zc ky_X10_order kz_X10_order hlk (c_wxt_X10_order l (post := (fun r ka_gaps ka_behind z_tab => (∀ j, iv 0 511 (ka_behind j)))) (s_wxt_X10_order_0 (hT.2 1) (hT.1 21) (hT.1 22) (hT.2 30) (hT.2 31) (hT.1 23) (hT.1 24) (hT.2 32) (hT.2 33) (hI.2 32) (fun _ _ _ _ _ h1 => h1))) (wxtPreV0 hK hXt) hS (fun q hq => by unfold wxtA at hq; omega) rfl rfl hls hW ⟨rfl, rfl⟩ ⟨(Nat.le_of_ble_eq_true rfl), (Nat.le_of_ble_eq_true rfl)⟩ ⟨Nat.le_trans (Nat.le_add_right _ _) hcs.1, Nat.le_trans (Nat.le_add_right _ _) hcs.2⟩ hd (fun r u H1 locs1 hbh h9 hk hS => ?_)
    obtain ⟨ka_gaps, ka_behind, z_tab⟩ := u
    have hs := x0_split h9
    exact kk r _ _ _ _ _ _ _ _ ⟨rfl, rfl, rfl⟩ (Nat.le_add_right _ _) (Nat.le_add_right _ _) ⟨XS_of (T := T) hs.1 (hI.1 0) (hI.1 1) (hI.1 2) (hI.1 3) (hI.1 4) (hI.1 5) (hI.1 6) (hI.2 0) (hI.2 1) (hI.2 2) (hI.2 3) (hI.2 4) (hI.2 5) (hI.2 6) (hI.2 7) (hI.1 7) (hI.2 8) (hI.2 9) (hI.2 10) (hI.1 8) (hI.2 11) (hI.2 12) (hI.2 13) (hI.1 9) (hI.1 10) (hI.2 14) (hI.2 15) (hI.1 11) (hI.1 12) (hI.2 17) (hI.1 13) (hI.1 14) (hI.1 15) (hI.1 16) (hI.1 22) (hI.1 23) (hI.2 18) (hI.2 19) (hI.2 20) (hI.2 22) (hI.2 23) (hI.2 24) (hI.2 26) (hI.2 27) (hI.2 28) hbh, MS_kp hMS (fun z h1 h2 h3 => hk z h1 (fun hA => by unfold wxtA at hA; omega)), lE_tab2 hE hlo hk hs.2, hT, hMT⟩ hS

set_option maxRecDepth 40000 in
set_option maxHeartbeats 4000000 in
theorem gx_image {p : Program} {l : Launch} {e : Env} {s : State} {m : MethodId} {below : List Frame} {meth : Method} {c : Code} {E : zE} {G : zG} {b L bx bm cells slots : Nat} {xs : Nat → Int32} {mi : Nat → Option Nat} {ko : Option Nat} {T : TT} {M : Nat → Nat → Int32} {I : Nat → TT} {H : Heap} {locs : List Loc} {ls : Array Slot} {pc idx : Nat} {a1 : Int32} (rest : List Value) (hcs : cells + 47 ≤ room_1.cells ∧ slots + 4608 ≤ room_1.slots) (C0 : lw_At p s m meth c b L xs) (hbx : s.heap.size ≤ bx) (hbm : bx + 93 ≤ bm) (hK : zK E s) (hO : zO s ∧ zZ G (fun q => s.heap.size ≤ q) s s.heap) (hG : GG E bx bm mi ko T M I H) (hS : va_S (fun q => s.heap.size ≤ q) s.heap H locs) (hls : ls.size = 4) (hW : (rest.map fun v => v.category).sum ≤ 8) (hlk : Cond.methodLink RL idx yX10_image ∈ zb) (hd : decode cL_law pc = .ok (.invokevirtual idx, 3))
    (kk : ∀ (r : Int32) (mi' : Nat → Option Nat) (ko' : Option Nat) (T' : TT) (I' : Nat → TT) (H : Heap) (locs : List Loc) (cells' slots' : Nat), (T' = T ∧ xIM mi mi' I I' T a1 r) → cells' ≤ cells + 47 → slots' ≤ slots + 4608 → GG E bx bm mi' ko' T' M I' H → va_S (fun q => s.heap.size ≤ q) s.heap H locs → W p l e room_1 s m #[Value.ref b] below meth c H locs cells' slots' (lw_Z below #[Value.ref b] s) (F0 m (pc + 3) ls (.int r :: rest))) : W p l e room_1 s m #[Value.ref b] below meth c H locs cells slots (lw_Z below #[Value.ref b] s) (F0 m pc ls (.int a1 :: .ref bx :: rest)) := by
  obtain ⟨hx, hb, hr, hml, hown, hts, hX0, hbl, hlocks, hgv⟩ := id C0
  have zc : zC p s m #[Value.ref b] meth c cL_law 4 RL ret := ⟨hx, hb, hml, hown, fun w hw => hts w (zb_in hw), hr, hlocks⟩
  have hlo : bx + 93 ≤ bm + 29 := Nat.le_trans hbm (Nat.le_add_right _ _)
  obtain ⟨hXS, hMS, hE, hT, hMT⟩ := hG
  have hloH := MS_lt hMS
  obtain ⟨S, V, hI, hX⟩ := id hXS
  have hnj : ¬ (¬ a1 < 0 ∧ a1 < 3) → ∀ k, k < 3 → ¬ a1 = nI k := fun h k hk e => h (by rw [e]; exact ⟨Int32.not_lt.mpr (nI_pos' (by omega)), by rw [Int32.lt_iff_toInt_lt]; have e3 : (3 : Int32).toInt = 3 := rfl; have e9 : iv k k (nI k) := iv_ofN (by omega) (by omega) (by omega); unfold iv at e9; omega⟩)
  by_cases hr : ¬ a1 < 0 ∧ a1 < 3
  rotate_left
  · exact zV_i [.int a1] rest zc ky_X10_image kz_X10_image hlk (c_image_no (E := E) l (by by_cases h : a1 < 0; exact Or.inl h; exact Or.inr (fun h2 => hr ⟨h, h2⟩))) (⟨fun _ _ _ _ h => ⟨h.1, trivial⟩, va_recv hK.1 hX (ci := 10) (q0 := 0) rfl rfl, fun U hU hW => ⟨rfl, trivial⟩⟩) rfl rfl hls hW ⟨rfl, rfl⟩ ⟨(Nat.le_of_ble_eq_true rfl), (Nat.le_of_ble_eq_true rfl)⟩ ⟨Nat.le_trans (Nat.le_add_right _ _) hcs.1, Nat.le_trans (Nat.le_add_right _ _) hcs.2⟩ hd (fun r hr0 => kk r _ _ _ _ _ _ _ _ ⟨rfl, fun _ => ⟨hr0, rfl, rfl⟩, fun k hk e => absurd e (hnj hr k hk)⟩ (Nat.le_add_right _ _) (Nat.le_add_right _ _) ⟨hXS, hMS, hE, hT, hMT⟩ hS)
  obtain ⟨j, hj, ej⟩ : ∃ j, j < 3 ∧ a1 = nI j := by
    obtain ⟨k, hk, e⟩ := nI_of2 (M := 2) (n := 2) (by decide) hr.1 (by rw [Int32.le_iff_toInt_le]; have := r_lt hr.2; have e3 : (3 : Int32).toInt = 3 := rfl; have e2 : (2 : Int32).toInt = 2 := rfl; omega)
    exact ⟨k, by omega, e⟩
  have ec : Int32.toNatClampNeg a1 = j := by rw [ej]; exact nI_clamp (by omega)
  have hij : imJ a1 := imJ_nI.mpr ⟨j, hj, ej⟩
  have hsame : ∀ k, k < 3 → a1 = nI k → k = j := fun k hk e => (nI_eq (by omega) (by omega)).mp (e.symm.trans ej)
  cases hm : mi (Int32.toNatClampNeg a1) with
  | none =>
    refine zVa_i [.int a1] rest zc ky_X10_image kz_X10_image hlk (c3_image_new (h := H.size) l hr hm (g_tJ hT)) (⟨fun _ _ _ _ h => ⟨h.1, h.2.1, h.2.2.1, zK_calling h.2.2.2.1, zO_calling h.2.2.2.2⟩, va_recv hK.1 hX (ci := 10) (q0 := 0) rfl rfl, fun U hU hW => ⟨rfl, by rw [hU]; exact ⟨rfl, Nat.le_trans hlo hloH⟩, by rw [hU]; exact hX, zK_moved hW hK, zO_moved hW hO.1⟩⟩) hS (fun q hq => by have := hS.1; unfold zImA zR at hq; omega) rfl rfl hls hW ⟨rfl, rfl⟩ ⟨(Nat.le_of_ble_eq_true rfl), (Nat.le_of_ble_eq_true rfl)⟩ ⟨hcs.1, Nat.le_trans (Nat.add_le_add_left (by decide) _) hcs.2⟩ hd (fun r _ H1 locs1 hr1 hB hsz hk hS => ?_)
    refine ex_tt hB (fun na_tape nf_length nf_fault nf_place na_counts nl0f_huts nl0f_singers nl0f_villages nl0f_dams nl0f_echoes nl0f_deep nl0f_slide nl0a_heights nl0a_ladders nl0a_minutes nl0a_echoFrom nl0a_echoTo nl0a_homes nl0a_talls nl0a_known nl1f_huts nl1f_singers nl1f_villages nl1f_dams nl1f_echoes nl1f_deep nl1f_slide nl1a_heights nl1a_ladders nl1a_minutes nl1a_echoFrom nl1a_echoTo nl1a_homes nl1a_talls nl1a_known nv0f_deeds nv0a_kinds nv0a_firsts nv0a_seconds nv1f_deeds nv1a_kinds nv1a_firsts nv1a_seconds ns0f_facts ns0a_heard ns0a_huts ns0a_minutes ns1f_facts ns1a_heard ns1a_huts ns1a_minutes nc0f_voices nc0f_step nc0a_parts nc0a_heights nc1f_voices nc1f_step nc1a_parts nc1a_heights hB => ?_)
    obtain ⟨hN, hlen, hB⟩ := hB
    rw [ec] at hB
    exact kk r _ _ T (va_up I j (tmk na_tape nf_length nf_fault nf_place na_counts nl0f_huts nl0f_singers nl0f_villages nl0f_dams nl0f_echoes nl0f_deep nl0f_slide nl0a_heights nl0a_ladders nl0a_minutes nl0a_echoFrom nl0a_echoTo nl0a_homes nl0a_talls nl0a_known nl1f_huts nl1f_singers nl1f_villages nl1f_dams nl1f_echoes nl1f_deep nl1f_slide nl1a_heights nl1a_ladders nl1a_minutes nl1a_echoFrom nl1a_echoTo nl1a_homes nl1a_talls nl1a_known nv0f_deeds nv0a_kinds nv0a_firsts nv0a_seconds nv1f_deeds nv1a_kinds nv1a_firsts nv1a_seconds ns0f_facts ns0a_heard ns0a_huts ns0a_minutes ns1f_facts ns1a_heard ns1a_huts ns1a_minutes nc0f_voices nc0f_step nc0a_parts nc0a_heights nc1f_voices nc1f_step nc1a_parts nc1a_heights)) _ _ _ _ ⟨rfl, fun hn => absurd hij hn, fun k hk e => by
      have hkj := hsame k hk e
      subst hkj
      exact ⟨hr1, by rw [va_up_self]; exact fun h => by simp at h, fun i hi => ⟨va_up_ne _ _ hi, va_up_ne _ _ hi⟩, by rw [va_up_self]; exact tCP_r hlen⟩⟩ (Nat.le_refl _) (Nat.add_le_add_left (by decide) _) ⟨⟨S, V, hI, xi_x hB⟩, MS_kp hMS (fun z h1 h2 h3 => hk z h1 (fun hA => by unfold zImA zR at hA; omega)), lE_img hE hlo hloH hk (tJ_g hN) (xi_t hB), hT, hMT⟩ hS
  | some q =>
    have hm0 := hm
    rw [ec] at hm
    obtain ⟨hlq, hI2, hX2⟩ := hE.1 _ hj q hm
    have hXi := xi_of hX hX2 (Nat.le_trans hlo hlq)
    refine zVx_i [.int a1] rest zc ky_X10_image kz_X10_image hlk (c3_image_old l hr hm0 (g_tJ hT) (g_tJ hI2)) (⟨fun _ _ _ _ h => ⟨h.1, h.2.1, zK_calling h.2.2⟩, va_recv hK.1 hX (ci := 10) (q0 := 0) rfl rfl, fun U hU hW => ⟨rfl, by rw [hU]; exact hXi, zK_moved hW hK⟩⟩) hS (fun z hz => by unfold wttA at hz; omega) rfl rfl hls hW ⟨rfl, rfl⟩ ⟨(Nat.le_of_ble_eq_true rfl), (Nat.le_of_ble_eq_true rfl)⟩ ⟨Nat.le_trans (Nat.le_add_right _ _) hcs.1, Nat.le_trans (Nat.le_add_right _ _) hcs.2⟩ hd (fun r _ H1 locs1 hr1 hB hk hS => ?_)
    refine ex_tt hB (fun na_tape nf_length nf_fault nf_place na_counts nl0f_huts nl0f_singers nl0f_villages nl0f_dams nl0f_echoes nl0f_deep nl0f_slide nl0a_heights nl0a_ladders nl0a_minutes nl0a_echoFrom nl0a_echoTo nl0a_homes nl0a_talls nl0a_known nl1f_huts nl1f_singers nl1f_villages nl1f_dams nl1f_echoes nl1f_deep nl1f_slide nl1a_heights nl1a_ladders nl1a_minutes nl1a_echoFrom nl1a_echoTo nl1a_homes nl1a_talls nl1a_known nv0f_deeds nv0a_kinds nv0a_firsts nv0a_seconds nv1f_deeds nv1a_kinds nv1a_firsts nv1a_seconds ns0f_facts ns0a_heard ns0a_huts ns0a_minutes ns1f_facts ns1a_heard ns1a_huts ns1a_minutes nc0f_voices nc0f_step nc0a_parts nc0a_heights nc1f_voices nc1f_step nc1a_parts nc1a_heights hB => ?_)
    obtain ⟨hN, hlen, hB⟩ := hB
    exact kk r _ _ T (va_up I j (tmk na_tape nf_length nf_fault nf_place na_counts nl0f_huts nl0f_singers nl0f_villages nl0f_dams nl0f_echoes nl0f_deep nl0f_slide nl0a_heights nl0a_ladders nl0a_minutes nl0a_echoFrom nl0a_echoTo nl0a_homes nl0a_talls nl0a_known nl1f_huts nl1f_singers nl1f_villages nl1f_dams nl1f_echoes nl1f_deep nl1f_slide nl1a_heights nl1a_ladders nl1a_minutes nl1a_echoFrom nl1a_echoTo nl1a_homes nl1a_talls nl1a_known nv0f_deeds nv0a_kinds nv0a_firsts nv0a_seconds nv1f_deeds nv1a_kinds nv1a_firsts nv1a_seconds ns0f_facts ns0a_heard ns0a_huts ns0a_minutes ns1f_facts ns1a_heard ns1a_huts ns1a_minutes nc0f_voices nc0f_step nc0a_parts nc0a_heights nc1f_voices nc1f_step nc1a_parts nc1a_heights)) _ _ _ _ ⟨rfl, fun hn => absurd hij hn, fun k hk e => by
      have hkj := hsame k hk e
      subst hkj
      exact ⟨hr1, (fun h => by rw [hm] at h; cases h), fun i hi => ⟨rfl, va_up_ne _ _ hi⟩, by rw [va_up_self]; exact tCP_r hlen⟩⟩ (Nat.le_add_right _ _) (Nat.le_add_right _ _) ⟨⟨S, V, hI, xi_x hB⟩, MS_kp hMS (fun z h1 h2 h3 => hk z h1 (fun hA => by unfold wttA at hA; omega)), lE_img2 hE hlo hj hm (fun z h1 h2 => hk z h1 (fun hA => h2 (by unfold wttA at hA; omega))) (tJ_g hN) (xi_t hB), hT, hMT⟩ hS

set_option maxRecDepth 40000 in
set_option maxHeartbeats 4000000 in
theorem gx_again {p : Program} {l : Launch} {e : Env} {s : State} {m : MethodId} {below : List Frame} {meth : Method} {c : Code} {E : zE} {G : zG} {b L bx bm cells slots : Nat} {xs : Nat → Int32} {mi : Nat → Option Nat} {ko : Option Nat} {T : TT} {M : Nat → Nat → Int32} {I : Nat → TT} {H : Heap} {locs : List Loc} {ls : Array Slot} {pc idx : Nat} {a1 : Int32} (rest : List Value) (hcs : cells + 47 ≤ room_1.cells ∧ slots + 4608 ≤ room_1.slots) (C0 : lw_At p s m meth c b L xs) (hbx : s.heap.size ≤ bx) (hbm : bx + 93 ≤ bm) (hK : zK E s) (hO : zO s ∧ zZ G (fun q => s.heap.size ≤ q) s s.heap) (hG : GG E bx bm mi ko T M I H) (hS : va_S (fun q => s.heap.size ≤ q) s.heap H locs) (hls : ls.size = 4) (hW : (rest.map fun v => v.category).sum ≤ 8) (hlk : Cond.methodLink RL idx yX10_again ∈ zb) (hd : decode cL_law pc = .ok (.invokevirtual idx, 3))
    (kk : ∀ (r : Int32) (mi' : Nat → Option Nat) (ko' : Option Nat) (T' : TT) (I' : Nat → TT) (H : Heap) (locs : List Loc) (cells' slots' : Nat), (mi' = mi ∧ I' = I ∧ xAG mi I T T' a1 r) → cells' ≤ cells + 47 → slots' ≤ slots + 4608 → GG E bx bm mi' ko' T' M I' H → va_S (fun q => s.heap.size ≤ q) s.heap H locs → W p l e room_1 s m #[Value.ref b] below meth c H locs cells' slots' (lw_Z below #[Value.ref b] s) (F0 m (pc + 3) ls (.int r :: rest))) : W p l e room_1 s m #[Value.ref b] below meth c H locs cells slots (lw_Z below #[Value.ref b] s) (F0 m pc ls (.int a1 :: .ref bx :: rest)) := by
  obtain ⟨hx, hb, hr, hml, hown, hts, hX0, hbl, hlocks, hgv⟩ := id C0
  have zc : zC p s m #[Value.ref b] meth c cL_law 4 RL ret := ⟨hx, hb, hml, hown, fun w hw => hts w (zb_in hw), hr, hlocks⟩
  have hlo : bx + 93 ≤ bm + 29 := Nat.le_trans hbm (Nat.le_add_right _ _)
  obtain ⟨hXS, hMS, hE, hT, hMT⟩ := hG
  have hloH := MS_lt hMS
  obtain ⟨S, V, hI, hX⟩ := id hXS
  have hnj : ¬ (¬ a1 < 0 ∧ a1 < 3) → ∀ k, k < 3 → ¬ a1 = nI k := fun h k hk e => h (by rw [e]; exact ⟨Int32.not_lt.mpr (nI_pos' (by omega)), by rw [Int32.lt_iff_toInt_lt]; have e3 : (3 : Int32).toInt = 3 := rfl; have e9 : iv k k (nI k) := iv_ofN (by omega) (by omega) (by omega); unfold iv at e9; omega⟩)
  by_cases hr : ¬ a1 < 0 ∧ a1 < 3
  rotate_left
  · exact zV_i [.int a1] rest zc ky_X10_again kz_X10_again hlk (c_again_no l (fun h1 h2 => absurd ⟨h1, h2⟩ hr)) (wxPreV0 hK hX) rfl rfl hls hW ⟨rfl, rfl⟩ ⟨(Nat.le_of_ble_eq_true rfl), (Nat.le_of_ble_eq_true rfl)⟩ ⟨Nat.le_trans (Nat.le_add_right _ _) hcs.1, Nat.le_trans (Nat.le_add_right _ _) hcs.2⟩ hd (fun r hr0 => kk r _ _ _ _ _ _ _ _ ⟨rfl, rfl, fun _ => ⟨hr0, rfl⟩, fun k hk e h9 => absurd e (hnj hr k hk)⟩ (Nat.le_add_right _ _) (Nat.le_add_right _ _) ⟨hXS, hMS, hE, hT, hMT⟩ hS)
  obtain ⟨j, hj, ej⟩ : ∃ j, j < 3 ∧ a1 = nI j := by
    obtain ⟨k, hk, e⟩ := nI_of2 (M := 2) (n := 2) (by decide) hr.1 (by rw [Int32.le_iff_toInt_le]; have := r_lt hr.2; have e3 : (3 : Int32).toInt = 3 := rfl; have e2 : (2 : Int32).toInt = 2 := rfl; omega)
    exact ⟨k, by omega, e⟩
  have ec : Int32.toNatClampNeg a1 = j := by rw [ej]; exact nI_clamp (by omega)
  have hsame : ∀ k, k < 3 → a1 = nI k → k = j := fun k hk e => (nI_eq (by omega) (by omega)).mp (e.symm.trans ej)
  cases hm : mi (Int32.toNatClampNeg a1) with
  | none =>
    exact zV_i [.int a1] rest zc ky_X10_again kz_X10_again hlk (c_again_no l (fun _ _ => hm)) (wxPreV0 hK hX) rfl rfl hls hW ⟨rfl, rfl⟩ ⟨(Nat.le_of_ble_eq_true rfl), (Nat.le_of_ble_eq_true rfl)⟩ ⟨Nat.le_trans (Nat.le_add_right _ _) hcs.1, Nat.le_trans (Nat.le_add_right _ _) hcs.2⟩ hd (fun r hr0 => kk r _ _ _ _ _ _ _ _ ⟨rfl, rfl, fun _ => ⟨hr0, rfl⟩, fun k hk e h9 => by rw [hsame k hk e, ← ec] at h9; exact absurd hm h9⟩ (Nat.le_add_right _ _) (Nat.le_add_right _ _) ⟨hXS, hMS, hE, hT, hMT⟩ hS)
  | some q =>
    have hm0 := hm
    rw [ec] at hm
    obtain ⟨hlq, hI2, hX2⟩ := hE.1 _ hj q hm
    have hXi := xi_of hX hX2 (Nat.le_trans hlo hlq)
    refine zVx_i [.int a1] rest zc ky_X10_again kz_X10_again hlk (c3_again_yes l hr hm0 (g_tJ hT) (g_tJ hI2)) (⟨fun _ _ _ _ h => ⟨h.1, h.2.1, zK_calling h.2.2⟩, va_recv hK.1 hX (ci := 10) (q0 := 0) rfl rfl, fun U hU hW => ⟨rfl, by rw [hU]; exact hXi, zK_moved hW hK⟩⟩) hS (fun z hz => by unfold wttA at hz; omega) rfl rfl hls hW ⟨rfl, rfl⟩ ⟨(Nat.le_of_ble_eq_true rfl), (Nat.le_of_ble_eq_true rfl)⟩ ⟨Nat.le_trans (Nat.le_add_right _ _) hcs.1, Nat.le_trans (Nat.le_add_right _ _) hcs.2⟩ hd (fun r _ H1 locs1 hr1 hB hk hS => ?_)
    refine ex_tt hB (fun na_tape nf_length nf_fault nf_place na_counts nl0f_huts nl0f_singers nl0f_villages nl0f_dams nl0f_echoes nl0f_deep nl0f_slide nl0a_heights nl0a_ladders nl0a_minutes nl0a_echoFrom nl0a_echoTo nl0a_homes nl0a_talls nl0a_known nl1f_huts nl1f_singers nl1f_villages nl1f_dams nl1f_echoes nl1f_deep nl1f_slide nl1a_heights nl1a_ladders nl1a_minutes nl1a_echoFrom nl1a_echoTo nl1a_homes nl1a_talls nl1a_known nv0f_deeds nv0a_kinds nv0a_firsts nv0a_seconds nv1f_deeds nv1a_kinds nv1a_firsts nv1a_seconds ns0f_facts ns0a_heard ns0a_huts ns0a_minutes ns1f_facts ns1a_heard ns1a_huts ns1a_minutes nc0f_voices nc0f_step nc0a_parts nc0a_heights nc1f_voices nc1f_step nc1a_parts nc1a_heights hB => ?_)
    obtain ⟨hN, hlen, hB⟩ := hB
    exact kk r _ _ (tmk na_tape nf_length nf_fault nf_place na_counts nl0f_huts nl0f_singers nl0f_villages nl0f_dams nl0f_echoes nl0f_deep nl0f_slide nl0a_heights nl0a_ladders nl0a_minutes nl0a_echoFrom nl0a_echoTo nl0a_homes nl0a_talls nl0a_known nl1f_huts nl1f_singers nl1f_villages nl1f_dams nl1f_echoes nl1f_deep nl1f_slide nl1a_heights nl1a_ladders nl1a_minutes nl1a_echoFrom nl1a_echoTo nl1a_homes nl1a_talls nl1a_known nv0f_deeds nv0a_kinds nv0a_firsts nv0a_seconds nv1f_deeds nv1a_kinds nv1a_firsts nv1a_seconds ns0f_facts ns0a_heard ns0a_huts ns0a_minutes ns1f_facts ns1a_heard ns1a_huts ns1a_minutes nc0f_voices nc0f_step nc0a_parts nc0a_heights nc1f_voices nc1f_step nc1a_parts nc1a_heights) _ _ _ _ _ ⟨rfl, rfl, fun hn => absurd ⟨j, hj, ej, fun h => by rw [hm] at h; cases h⟩ hn, fun k hk e _ => by
      have hkj := hsame k hk e
      subst hkj
      exact ⟨hr1, tCP_r hlen⟩⟩ (Nat.le_add_right _ _) (Nat.le_add_right _ _) ⟨XS_of2 (xi_x hB) (hI.1 0) (hI.1 1) (hI.1 2) (hI.1 3) (hI.1 4) (hI.1 5) (hI.1 6) (hI.2 0) (hI.2 1) (hI.2 2) (hI.2 3) (hI.2 4) (hI.2 5) (hI.2 6) (hI.2 7) (hI.1 7) (hI.2 8) (hI.2 9) (hI.2 10) (hI.1 8) (hI.2 11) (hI.2 12) (hI.2 13) (hI.1 9) (hI.1 10) (hI.2 14) (hI.2 15) (hI.1 11) (hI.1 12) (hI.2 17) (hI.1 13) (hI.1 14) (hI.1 15) (hI.1 16) (hI.1 22) (hI.1 23) (hI.2 18) (hI.2 19) (hI.2 20) (hI.2 22) (hI.2 23) (hI.2 24) (hI.2 26) (hI.2 27) (hI.2 28) (hI.2 32), MS_kp hMS (fun z h1 h2 h3 => hk z h1 (fun hA => by unfold wttA at hA; omega)), lE_ag hE hlo hj hm (fun z h1 h2 => hk z h1 (fun hA => h2 (by unfold wttA at hA; omega))) (xi_t hB), tJ_g hN, hMT⟩ hS
end
section
set_option maxRecDepth 40000 in
set_option maxHeartbeats 4000000 in
theorem gm_again {p : Program} {l : Launch} {e : Env} {s : State} {m : MethodId} {below : List Frame} {meth : Method} {c : Code} {E : zE} {G : zG} {b L bx bm cells slots : Nat} {xs : Nat → Int32} {mi : Nat → Option Nat} {ko : Option Nat} {T : TT} {M : Nat → Nat → Int32} {I : Nat → TT} {H : Heap} {locs : List Loc} {ls : Array Slot} {pc idx : Nat} {a1 : Int32} (rest : List Value) (hcs : cells ≤ room_1.cells ∧ slots ≤ room_1.slots) (C0 : lw_At p s m meth c b L xs) (hbx : s.heap.size ≤ bx) (hbm : bx + 93 ≤ bm) (hK : zK E s) (hO : zO s ∧ zZ G (fun q => s.heap.size ≤ q) s s.heap) (hG : GG E bx bm mi ko T M I H) (hS : va_S (fun q => s.heap.size ≤ q) s.heap H locs) (hls : ls.size = 4) (hW : (rest.map fun v => v.category).sum ≤ 8) (hlk : Cond.methodLink RL idx yX11_again ∈ zb) (hd : decode cL_law pc = .ok (.invokevirtual idx, 3))
    (kk : ∀ (r : Int32) (M' : Nat → Nat → Int32) (H : Heap) (locs : List Loc), (mAG M M' a1 r) → GG E bx bm mi ko T M' I H → va_S (fun q => s.heap.size ≤ q) s.heap H locs → W p l e room_1 s m #[Value.ref b] below meth c H locs cells slots (lw_Z below #[Value.ref b] s) (F0 m (pc + 3) ls (.int r :: rest))) : W p l e room_1 s m #[Value.ref b] below meth c H locs cells slots (lw_Z below #[Value.ref b] s) (F0 m pc ls (.int a1 :: .ref bm :: rest)) := by
  obtain ⟨hx, hb, hr, hml, hown, hts, hX0, hbl, hlocks, hgv⟩ := id C0
  have zc : zC p s m #[Value.ref b] meth c cL_law 4 RL ret := ⟨hx, hb, hml, hown, fun w hw => hts w (zb_in hw), hr, hlocks⟩
  obtain ⟨hXS, hMS, hE, hT, hMT⟩ := hG
  obtain ⟨S, V, f_word, a_rest, hI, hM⟩ := id hMS
  refine zVx_i [.int a1] rest zc ky_X11_again kz_X11_again hlk (c_m_again l (post := (fun r f_code a_tape a_size a_fault a_faultPlace a_many a_lands a_evenings a_sights a_choirs => (mAG M (mmk a_tape a_size a_fault a_faultPlace a_many a_lands a_evenings a_sights a_choirs (M 9)) a1 r) ∧ (iv 0 0 f_code) ∧ (∀ j, iv (-128) 127 (a_tape j)) ∧ (∀ j, iv 0 600 (a_size j)) ∧ (∀ j, iv 0 2 (a_many j)) ∧ (mLand a_lands) ∧ (mEve a_evenings) ∧ (mSig a_sights) ∧ (mCho a_choirs))) (cj_q_m_again_0 (post_1 := fun r f_code a_tape a_size a_fault a_faultPlace a_many a_lands a_evenings a_sights a_choirs => mAG M (mmk a_tape a_size a_fault a_faultPlace a_many a_lands a_evenings a_sights a_choirs (M 9)) a1 r) (post_2 := (fun r f_code a_tape a_size a_fault a_faultPlace a_many a_lands a_evenings a_sights a_choirs => (iv 0 0 f_code) ∧ (∀ j, iv (-128) 127 (a_tape j)) ∧ (∀ j, iv 0 600 (a_size j)) ∧ (∀ j, iv 0 2 (a_many j)) ∧ (mLand a_lands) ∧ (mEve a_evenings) ∧ (mSig a_sights) ∧ (mCho a_choirs))) (post_3 := (fun r f_code a_tape a_size a_fault a_faultPlace a_many a_lands a_evenings a_sights a_choirs => (mAG M (mmk a_tape a_size a_fault a_faultPlace a_many a_lands a_evenings a_sights a_choirs (M 9)) a1 r) ∧ (iv 0 0 f_code) ∧ (∀ j, iv (-128) 127 (a_tape j)) ∧ (∀ j, iv 0 600 (a_size j)) ∧ (∀ j, iv 0 2 (a_many j)) ∧ (mLand a_lands) ∧ (mEve a_evenings) ∧ (mSig a_sights) ∧ (mCho a_choirs))) (fun _ _ _ _ _ _ _ _ _ _ _ a b => ⟨a, b⟩) (e_m_again2 (M := M) (hMT.1) (fun _ _ _ _ _ _ _ _ _ _ h => h)) (e_m_again (hMT.1) (hMT.2.1) (hMT.2.2.1) (hMT.2.2.2.1) (hMT.2.2.2.2.1) (hMT.2.2.2.2.2.1) (hMT.2.2.2.2.2.2.1) (fun _ => ⟨iv_lit (by decide), (hMT.1), (hMT.2.1), (hMT.2.2.1), (hMT.2.2.2.1), (hMT.2.2.2.2.1), (hMT.2.2.2.2.2.1), (hMT.2.2.2.2.2.2.1)⟩) (fun _ _ _ _ t z fa fp mn l e2 s c _ _ g0 g1 g2 g3 g4 g5 g6 => ⟨iv_lit (by decide), g0, g1, g2, g3, g4, g5, g6⟩)))) (mPreV0 hK hM) hS (fun q (h : mA bm q) => Nat.le_trans hbx (Nat.le_trans (Nat.le_trans (Nat.le_add_right bx 93) hbm) h.1)) rfl rfl hls hW ⟨rfl, rfl⟩ ⟨(Nat.le_of_ble_eq_true rfl), (Nat.le_of_ble_eq_true rfl)⟩ hcs hd (fun r u H1 locs1 hw h9 hk hS => ?_)
  obtain ⟨f_code, a_tape, a_size, a_fault, a_faultPlace, a_many, a_lands, a_evenings, a_sights, a_choirs⟩ := u
  obtain ⟨hrel, n_f_code, n_a_tape, n_a_size, n_a_many, n_a_lands, n_a_evenings, n_a_sights, n_a_choirs⟩ := hw
  exact kk r (mmk a_tape a_size a_fault a_faultPlace a_many a_lands a_evenings a_sights a_choirs (M 9)) _ _ hrel ⟨XS_kp hXS (fun z h1 h2 h3 => hk z h1 (fun (hA : mA bm z) => zap hbm hA.1 h3)), MS_of h9 n_f_code (hI.1 12) (hI.1 13) (hI.1 14) (hI.2 2) (hI.2 3) (hI.2 4) (hI.2 6) (hI.1 16) (hI.2 7) (hI.2 8) (hI.2 12) (hI.2 13) (hI.2 14) (hI.1 21) (hI.2 16), lE_kp hE (fun z h1 h2 => hk z h1 (fun (hA : mA bm z) => absurd hA.2 (Nat.not_lt.mpr h2))), hT, ⟨n_a_tape, n_a_size, n_a_many, n_a_lands, n_a_evenings, n_a_sights, n_a_choirs, (hMT.2.2.2.2.2.2.2)⟩⟩ hS

set_option maxRecDepth 40000 in
set_option maxHeartbeats 4000000 in
theorem gm_best {p : Program} {l : Launch} {e : Env} {s : State} {m : MethodId} {below : List Frame} {meth : Method} {c : Code} {E : zE} {G : zG} {b L bx bm cells slots : Nat} {xs : Nat → Int32} {mi : Nat → Option Nat} {ko : Option Nat} {T : TT} {M : Nat → Nat → Int32} {I : Nat → TT} {H : Heap} {locs : List Loc} {ls : Array Slot} {pc idx : Nat} {a1 a2 : Int32} (rest : List Value) (hcs : cells ≤ room_1.cells ∧ slots ≤ room_1.slots) (C0 : lw_At p s m meth c b L xs) (hbx : s.heap.size ≤ bx) (hbm : bx + 93 ≤ bm) (hK : zK E s) (hO : zO s ∧ zZ G (fun q => s.heap.size ≤ q) s s.heap) (hG : GG E bx bm mi ko T M I H) (hS : va_S (fun q => s.heap.size ≤ q) s.heap H locs) (hls : ls.size = 4) (hW : (rest.map fun v => v.category).sum ≤ 8) (hlk : Cond.methodLink RL idx yX11_best ∈ zb) (hd : decode cL_law pc = .ok (.invokevirtual idx, 3))
    (kk : ∀ (r : Int32) (M' : Nat → Nat → Int32) (H : Heap) (locs : List Loc), (M' = M) → GG E bx bm mi ko T M' I H → va_S (fun q => s.heap.size ≤ q) s.heap H locs → W p l e room_1 s m #[Value.ref b] below meth c H locs cells slots (lw_Z below #[Value.ref b] s) (F0 m (pc + 3) ls (.int r :: rest))) : W p l e room_1 s m #[Value.ref b] below meth c H locs cells slots (lw_Z below #[Value.ref b] s) (F0 m pc ls (.int a2 :: .int a1 :: .ref bm :: rest)) := by
  obtain ⟨hx, hb, hr, hml, hown, hts, hX0, hbl, hlocks, hgv⟩ := id C0
  have zc : zC p s m #[Value.ref b] meth c cL_law 4 RL ret := ⟨hx, hb, hml, hown, fun w hw => hts w (zb_in hw), hr, hlocks⟩
  obtain ⟨hXS, hMS, hE, hT, hMT⟩ := hG
  obtain ⟨S, V, f_word, a_rest, hI, hM⟩ := id hMS
  refine zVx_i [.int a1, .int a2] rest zc ky_X11_best kz_X11_best hlk (c_m_best l (post := (fun r f_code f_land f_huts f_singers a_run => (iv 0 0 f_code) ∧ (iv 0 1 f_land) ∧ (iv 0 9 f_huts) ∧ (iv 0 6 f_singers) ∧ (∀ j, iv 0 1000000 (a_run j)))) (s_m_best_0 (hI.1 0) (hMT.2.2.1) (hMT.2.2.2.1) (hI.1 12) (hI.1 13) (hI.1 14) (hI.2 7) (fun _ _ _ _ _ _ _ h1 h2 h3 h4 h5 => ⟨h1, h2, h3, h4, h5⟩))) (mPreV0 hK hM) hS (fun q (h : mA bm q) => Nat.le_trans hbx (Nat.le_trans (Nat.le_trans (Nat.le_add_right bx 93) hbm) h.1)) rfl rfl hls hW ⟨rfl, rfl⟩ ⟨(Nat.le_of_ble_eq_true rfl), (Nat.le_of_ble_eq_true rfl)⟩ hcs hd (fun r u H1 locs1 hw h9 hk hS => ?_)
  obtain ⟨f_code, f_land, f_huts, f_singers, a_run⟩ := u
  obtain ⟨n_f_code, n_f_land, n_f_huts, n_f_singers, n_a_run⟩ := hw
  exact kk r _ _ _ rfl ⟨XS_kp hXS (fun z h1 h2 h3 => hk z h1 (fun (hA : mA bm z) => zap hbm hA.1 h3)), MS_of1 (M := M) h9 n_f_code n_f_land n_f_huts n_f_singers (hI.2 2) (hI.2 3) (hI.2 4) (hI.2 6) (hI.1 16) n_a_run (hI.2 8) (hI.2 12) (hI.2 13) (hI.2 14) (hI.1 21) (hI.2 16), lE_kp hE (fun z h1 h2 => hk z h1 (fun (hA : mA bm z) => absurd hA.2 (Nat.not_lt.mpr h2))), hT, hMT⟩ hS

set_option maxRecDepth 40000 in
set_option maxHeartbeats 4000000 in
theorem gm_carry {p : Program} {l : Launch} {e : Env} {s : State} {m : MethodId} {below : List Frame} {meth : Method} {c : Code} {E : zE} {G : zG} {b L bx bm cells slots : Nat} {xs : Nat → Int32} {mi : Nat → Option Nat} {ko : Option Nat} {T : TT} {M : Nat → Nat → Int32} {I : Nat → TT} {H : Heap} {locs : List Loc} {ls : Array Slot} {pc idx : Nat} {a1 a2 a3 : Int32} (rest : List Value) (hcs : cells ≤ room_1.cells ∧ slots ≤ room_1.slots) (C0 : lw_At p s m meth c b L xs) (hbx : s.heap.size ≤ bx) (hbm : bx + 93 ≤ bm) (hK : zK E s) (hO : zO s ∧ zZ G (fun q => s.heap.size ≤ q) s s.heap) (hG : GG E bx bm mi ko T M I H) (hS : va_S (fun q => s.heap.size ≤ q) s.heap H locs) (hls : ls.size = 4) (hW : (rest.map fun v => v.category).sum ≤ 8) (hlk : Cond.methodLink RL idx yX11_carry ∈ zb) (hd : decode cL_law pc = .ok (.invokevirtual idx, 3))
    (kk : ∀ (r : Int32) (M' : Nat → Nat → Int32) (H : Heap) (locs : List Loc), (M' = M) → GG E bx bm mi ko T M' I H → va_S (fun q => s.heap.size ≤ q) s.heap H locs → W p l e room_1 s m #[Value.ref b] below meth c H locs cells slots (lw_Z below #[Value.ref b] s) (F0 m (pc + 3) ls (.int r :: rest))) : W p l e room_1 s m #[Value.ref b] below meth c H locs cells slots (lw_Z below #[Value.ref b] s) (F0 m pc ls (.int a3 :: .int a2 :: .int a1 :: .ref bm :: rest)) := by
  obtain ⟨hx, hb, hr, hml, hown, hts, hX0, hbl, hlocks, hgv⟩ := id C0
  have zc : zC p s m #[Value.ref b] meth c cL_law 4 RL ret := ⟨hx, hb, hml, hown, fun w hw => hts w (zb_in hw), hr, hlocks⟩
  obtain ⟨hXS, hMS, hE, hT, hMT⟩ := hG
  obtain ⟨S, V, f_word, a_rest, hI, hM⟩ := id hMS
  refine zVx_i [.int a1, .int a2, .int a3] rest zc ky_X11_carry kz_X11_carry hlk (c_m_carry l (post := (fun r f_code f_land f_huts f_singers a_run a_far => (iv 0 0 f_code) ∧ (iv 0 1 f_land) ∧ (iv 0 9 f_huts) ∧ (iv 0 6 f_singers) ∧ (∀ j, iv 0 1000000 (a_run j)) ∧ (∀ j, iv 0 1000000 (a_far j)))) (s_m_carry_0 (hI.1 0) (hMT.2.2.1) (hMT.2.2.2.1) (hI.1 12) (hI.1 13) (hI.1 14) (hI.2 7) (hI.2 13) (fun _ _ _ _ _ _ _ _ h1 h2 h3 h4 h5 h6 => ⟨h1, h2, h3, h4, h5, h6⟩))) (mPreV0 hK hM) hS (fun q (h : mA bm q) => Nat.le_trans hbx (Nat.le_trans (Nat.le_trans (Nat.le_add_right bx 93) hbm) h.1)) rfl rfl hls hW ⟨rfl, rfl⟩ ⟨(Nat.le_of_ble_eq_true rfl), (Nat.le_of_ble_eq_true rfl)⟩ hcs hd (fun r u H1 locs1 hw h9 hk hS => ?_)
  obtain ⟨f_code, f_land, f_huts, f_singers, a_run, a_far⟩ := u
  obtain ⟨n_f_code, n_f_land, n_f_huts, n_f_singers, n_a_run, n_a_far⟩ := hw
  exact kk r _ _ _ rfl ⟨XS_kp hXS (fun z h1 h2 h3 => hk z h1 (fun (hA : mA bm z) => zap hbm hA.1 h3)), MS_of1 (M := M) h9 n_f_code n_f_land n_f_huts n_f_singers (hI.2 2) (hI.2 3) (hI.2 4) (hI.2 6) (hI.1 16) n_a_run (hI.2 8) (hI.2 12) n_a_far (hI.2 14) (hI.1 21) (hI.2 16), lE_kp hE (fun z h1 h2 => hk z h1 (fun (hA : mA bm z) => absurd hA.2 (Nat.not_lt.mpr h2))), hT, hMT⟩ hS

set_option maxRecDepth 40000 in
set_option maxHeartbeats 4000000 in
theorem gm_choir {p : Program} {l : Launch} {e : Env} {s : State} {m : MethodId} {below : List Frame} {meth : Method} {c : Code} {E : zE} {G : zG} {b L bx bm cells slots : Nat} {xs : Nat → Int32} {mi : Nat → Option Nat} {ko : Option Nat} {T : TT} {M : Nat → Nat → Int32} {I : Nat → TT} {H : Heap} {locs : List Loc} {ls : Array Slot} {pc idx : Nat} {a1 a2 : Int32} (rest : List Value) (hcs : cells ≤ room_1.cells ∧ slots ≤ room_1.slots) (C0 : lw_At p s m meth c b L xs) (hbx : s.heap.size ≤ bx) (hbm : bx + 93 ≤ bm) (hK : zK E s) (hO : zO s ∧ zZ G (fun q => s.heap.size ≤ q) s s.heap) (hG : GG E bx bm mi ko T M I H) (hS : va_S (fun q => s.heap.size ≤ q) s.heap H locs) (hls : ls.size = 4) (hW : (rest.map fun v => v.category).sum ≤ 8) (hlk : Cond.methodLink RL idx yX11_choir ∈ zb) (hd : decode cL_law pc = .ok (.invokevirtual idx, 3))
    (kk : ∀ (r : Int32) (M' : Nat → Nat → Int32) (H : Heap) (locs : List Loc), (M' = M) → GG E bx bm mi ko T M' I H → va_S (fun q => s.heap.size ≤ q) s.heap H locs → W p l e room_1 s m #[Value.ref b] below meth c H locs cells slots (lw_Z below #[Value.ref b] s) (F0 m (pc + 3) ls (.int r :: rest))) : W p l e room_1 s m #[Value.ref b] below meth c H locs cells slots (lw_Z below #[Value.ref b] s) (F0 m pc ls (.int a2 :: .int a1 :: .ref bm :: rest)) := by
  obtain ⟨hx, hb, hr, hml, hown, hts, hX0, hbl, hlocks, hgv⟩ := id C0
  have zc : zC p s m #[Value.ref b] meth c cL_law 4 RL ret := ⟨hx, hb, hml, hown, fun w hw => hts w (zb_in hw), hr, hlocks⟩
  obtain ⟨hXS, hMS, hE, hT, hMT⟩ := hG
  obtain ⟨S, V, f_word, a_rest, hI, hM⟩ := id hMS
  refine zVx_i [.int a1, .int a2] rest zc ky_X11_choir kz_X11_choir hlk (c_m_choir l (post := (fun r f_code f_choir f_voices a_rest => (iv 0 0 f_code) ∧ (iv 0 9 f_voices))) (s_m_choir_0 (hI.1 0) (hMT.2.2.1) (hMT.2.2.2.2.2.2.1) (hI.1 21) (fun _ _ _ _ _ h0 h1 => ⟨h0, h1⟩))) (mPreV0 hK hM) hS (fun q (h : mA bm q) => Nat.le_trans hbx (Nat.le_trans (Nat.le_trans (Nat.le_add_right bx 93) hbm) h.1)) rfl rfl hls hW ⟨rfl, rfl⟩ ⟨(Nat.le_of_ble_eq_true rfl), (Nat.le_of_ble_eq_true rfl)⟩ hcs hd (fun r u H1 locs1 hw h9 hk hS => ?_)
  obtain ⟨f_code, f_choir, f_voices, a_rest⟩ := u
  obtain ⟨n_f_code, n_f_voices⟩ := hw
  exact kk r _ _ _ rfl ⟨XS_kp hXS (fun z h1 h2 h3 => hk z h1 (fun (hA : mA bm z) => zap hbm hA.1 h3)), MS_of1 (M := M) h9 n_f_code (hI.1 12) (hI.1 13) (hI.1 14) (hI.2 2) (hI.2 3) (hI.2 4) (hI.2 6) (hI.1 16) (hI.2 7) (hI.2 8) (hI.2 12) (hI.2 13) (hI.2 14) n_f_voices (hI.2 16), lE_kp hE (fun z h1 h2 => hk z h1 (fun (hA : mA bm z) => absurd hA.2 (Nat.not_lt.mpr h2))), hT, hMT⟩ hS

set_option maxRecDepth 40000 in
set_option maxHeartbeats 4000000 in
theorem gm_comes {p : Program} {l : Launch} {e : Env} {s : State} {m : MethodId} {below : List Frame} {meth : Method} {c : Code} {E : zE} {G : zG} {b L bx bm cells slots : Nat} {xs : Nat → Int32} {mi : Nat → Option Nat} {ko : Option Nat} {T : TT} {M : Nat → Nat → Int32} {I : Nat → TT} {H : Heap} {locs : List Loc} {ls : Array Slot} {pc idx : Nat} {a1 a2 a3 : Int32} (rest : List Value) (hcs : cells ≤ room_1.cells ∧ slots ≤ room_1.slots) (C0 : lw_At p s m meth c b L xs) (hbx : s.heap.size ≤ bx) (hbm : bx + 93 ≤ bm) (hK : zK E s) (hO : zO s ∧ zZ G (fun q => s.heap.size ≤ q) s s.heap) (hG : GG E bx bm mi ko T M I H) (hS : va_S (fun q => s.heap.size ≤ q) s.heap H locs) (hls : ls.size = 4) (hW : (rest.map fun v => v.category).sum ≤ 8) (hlk : Cond.methodLink RL idx yX11_comes ∈ zb) (hd : decode cL_law pc = .ok (.invokevirtual idx, 3))
    (kk : ∀ (r : Int32) (M' : Nat → Nat → Int32) (H : Heap) (locs : List Loc), (M' = M) → GG E bx bm mi ko T M' I H → va_S (fun q => s.heap.size ≤ q) s.heap H locs → W p l e room_1 s m #[Value.ref b] below meth c H locs cells slots (lw_Z below #[Value.ref b] s) (F0 m (pc + 3) ls (.int r :: rest))) : W p l e room_1 s m #[Value.ref b] below meth c H locs cells slots (lw_Z below #[Value.ref b] s) (F0 m pc ls (.int a3 :: .int a2 :: .int a1 :: .ref bm :: rest)) := by
  obtain ⟨hx, hb, hr, hml, hown, hts, hX0, hbl, hlocks, hgv⟩ := id C0
  have zc : zC p s m #[Value.ref b] meth c cL_law 4 RL ret := ⟨hx, hb, hml, hown, fun w hw => hts w (zb_in hw), hr, hlocks⟩
  obtain ⟨hXS, hMS, hE, hT, hMT⟩ := hG
  obtain ⟨S, V, f_word, a_rest, hI, hM⟩ := id hMS
  refine zVx_i [.int a1, .int a2, .int a3] rest zc ky_X11_comes kz_X11_comes hlk (c_m_comes l (post := (fun r f_code f_land f_huts f_singers a_run => (iv 0 0 f_code) ∧ (iv 0 1 f_land) ∧ (iv 0 9 f_huts) ∧ (iv 0 6 f_singers) ∧ (∀ j, iv 0 1000000 (a_run j)))) (s_m_comes_0 (hI.1 0) (hMT.2.2.1) (hMT.2.2.2.1) (hI.1 12) (hI.1 13) (hI.1 14) (hI.2 7) (fun _ _ _ _ _ _ _ h1 h2 h3 h4 h5 => ⟨h1, h2, h3, h4, h5⟩))) (mPreV0 hK hM) hS (fun q (h : mA bm q) => Nat.le_trans hbx (Nat.le_trans (Nat.le_trans (Nat.le_add_right bx 93) hbm) h.1)) rfl rfl hls hW ⟨rfl, rfl⟩ ⟨(Nat.le_of_ble_eq_true rfl), (Nat.le_of_ble_eq_true rfl)⟩ hcs hd (fun r u H1 locs1 hw h9 hk hS => ?_)
  obtain ⟨f_code, f_land, f_huts, f_singers, a_run⟩ := u
  obtain ⟨n_f_code, n_f_land, n_f_huts, n_f_singers, n_a_run⟩ := hw
  exact kk r _ _ _ rfl ⟨XS_kp hXS (fun z h1 h2 h3 => hk z h1 (fun (hA : mA bm z) => zap hbm hA.1 h3)), MS_of1 (M := M) h9 n_f_code n_f_land n_f_huts n_f_singers (hI.2 2) (hI.2 3) (hI.2 4) (hI.2 6) (hI.1 16) n_a_run (hI.2 8) (hI.2 12) (hI.2 13) (hI.2 14) (hI.1 21) (hI.2 16), lE_kp hE (fun z h1 h2 => hk z h1 (fun (hA : mA bm z) => absurd hA.2 (Nat.not_lt.mpr h2))), hT, hMT⟩ hS

set_option maxRecDepth 40000 in
set_option maxHeartbeats 4000000 in
theorem gm_count {p : Program} {l : Launch} {e : Env} {s : State} {m : MethodId} {below : List Frame} {meth : Method} {c : Code} {E : zE} {G : zG} {b L bx bm cells slots : Nat} {xs : Nat → Int32} {mi : Nat → Option Nat} {ko : Option Nat} {T : TT} {M : Nat → Nat → Int32} {I : Nat → TT} {H : Heap} {locs : List Loc} {ls : Array Slot} {pc idx : Nat} {a1 : Int32} (rest : List Value) (hcs : cells ≤ room_1.cells ∧ slots ≤ room_1.slots) (C0 : lw_At p s m meth c b L xs) (hbx : s.heap.size ≤ bx) (hbm : bx + 93 ≤ bm) (hK : zK E s) (hO : zO s ∧ zZ G (fun q => s.heap.size ≤ q) s s.heap) (hG : GG E bx bm mi ko T M I H) (hS : va_S (fun q => s.heap.size ≤ q) s.heap H locs) (hls : ls.size = 4) (hW : (rest.map fun v => v.category).sum ≤ 8) (hlk : Cond.methodLink RL idx yX11_count ∈ zb) (hd : decode cL_law pc = .ok (.invokevirtual idx, 3))
    (kk : ∀ (r : Int32) (M' : Nat → Nat → Int32) (H : Heap) (locs : List Loc), (M' = M) → GG E bx bm mi ko T M' I H → va_S (fun q => s.heap.size ≤ q) s.heap H locs → W p l e room_1 s m #[Value.ref b] below meth c H locs cells slots (lw_Z below #[Value.ref b] s) (F0 m (pc + 3) ls (.int r :: rest))) : W p l e room_1 s m #[Value.ref b] below meth c H locs cells slots (lw_Z below #[Value.ref b] s) (F0 m pc ls (.int a1 :: .ref bm :: rest)) := by
  obtain ⟨hx, hb, hr, hml, hown, hts, hX0, hbl, hlocks, hgv⟩ := id C0
  have zc : zC p s m #[Value.ref b] meth c cL_law 4 RL ret := ⟨hx, hb, hml, hown, fun w hw => hts w (zb_in hw), hr, hlocks⟩
  obtain ⟨hXS, hMS, hE, hT, hMT⟩ := hG
  obtain ⟨S, V, f_word, a_rest, hI, hM⟩ := id hMS
  refine zVx_i [.int a1] rest zc ky_X11_count kz_X11_count hlk (c_m_count l (post := (fun r f_code => (iv 0 0 f_code))) (s_m_count_0 (hI.1 0) (hMT.2.2.1) (fun _ _ _ h1 => h1))) (mPreV0 hK hM) hS (fun q (h : mA bm q) => Nat.le_trans hbx (Nat.le_trans (Nat.le_trans (Nat.le_add_right bx 93) hbm) h.1)) rfl rfl hls hW ⟨rfl, rfl⟩ ⟨(Nat.le_of_ble_eq_true rfl), (Nat.le_of_ble_eq_true rfl)⟩ hcs hd (fun r u H1 locs1 hw h9 hk hS => ?_)
  obtain ⟨f_code, eu⟩ : ∃ y, y = u := ⟨u, rfl⟩
  subst eu
  have n_f_code := hw
  exact kk r _ _ _ rfl ⟨XS_kp hXS (fun z h1 h2 h3 => hk z h1 (fun (hA : mA bm z) => zap hbm hA.1 h3)), MS_of1 (M := M) h9 n_f_code (hI.1 12) (hI.1 13) (hI.1 14) (hI.2 2) (hI.2 3) (hI.2 4) (hI.2 6) (hI.1 16) (hI.2 7) (hI.2 8) (hI.2 12) (hI.2 13) (hI.2 14) (hI.1 21) (hI.2 16), lE_kp hE (fun z h1 h2 => hk z h1 (fun (hA : mA bm z) => absurd hA.2 (Nat.not_lt.mpr h2))), hT, hMT⟩ hS

set_option maxRecDepth 40000 in
set_option maxHeartbeats 4000000 in
theorem gm_deed {p : Program} {l : Launch} {e : Env} {s : State} {m : MethodId} {below : List Frame} {meth : Method} {c : Code} {E : zE} {G : zG} {b L bx bm cells slots : Nat} {xs : Nat → Int32} {mi : Nat → Option Nat} {ko : Option Nat} {T : TT} {M : Nat → Nat → Int32} {I : Nat → TT} {H : Heap} {locs : List Loc} {ls : Array Slot} {pc idx : Nat} {a1 a2 a3 : Int32} (rest : List Value) (hcs : cells ≤ room_1.cells ∧ slots ≤ room_1.slots) (C0 : lw_At p s m meth c b L xs) (hbx : s.heap.size ≤ bx) (hbm : bx + 93 ≤ bm) (hK : zK E s) (hO : zO s ∧ zZ G (fun q => s.heap.size ≤ q) s s.heap) (hG : GG E bx bm mi ko T M I H) (hS : va_S (fun q => s.heap.size ≤ q) s.heap H locs) (hls : ls.size = 4) (hW : (rest.map fun v => v.category).sum ≤ 8) (hlk : Cond.methodLink RL idx yX11_deed ∈ zb) (hd : decode cL_law pc = .ok (.invokevirtual idx, 3))
    (kk : ∀ (r : Int32) (M' : Nat → Nat → Int32) (H : Heap) (locs : List Loc), (M' = M) → GG E bx bm mi ko T M' I H → va_S (fun q => s.heap.size ≤ q) s.heap H locs → W p l e room_1 s m #[Value.ref b] below meth c H locs cells slots (lw_Z below #[Value.ref b] s) (F0 m (pc + 3) ls (.int r :: rest))) : W p l e room_1 s m #[Value.ref b] below meth c H locs cells slots (lw_Z below #[Value.ref b] s) (F0 m pc ls (.int a3 :: .int a2 :: .int a1 :: .ref bm :: rest)) := by
  obtain ⟨hx, hb, hr, hml, hown, hts, hX0, hbl, hlocks, hgv⟩ := id C0
  have zc : zC p s m #[Value.ref b] meth c cL_law 4 RL ret := ⟨hx, hb, hml, hown, fun w hw => hts w (zb_in hw), hr, hlocks⟩
  obtain ⟨hXS, hMS, hE, hT, hMT⟩ := hG
  obtain ⟨S, V, f_word, a_rest, hI, hM⟩ := id hMS
  refine zVx_i [.int a1, .int a2, .int a3] rest zc ky_X11_deed kz_X11_deed hlk (c_m_deed l (post := (fun r f_code f_evening => (iv 0 0 f_code))) (s_m_deed_0 (hI.1 0) (hMT.2.2.1) (hMT.2.2.2.2.1) (fun _ _ _ _ h1 => h1))) (mPreV0 hK hM) hS (fun q (h : mA bm q) => Nat.le_trans hbx (Nat.le_trans (Nat.le_trans (Nat.le_add_right bx 93) hbm) h.1)) rfl rfl hls hW ⟨rfl, rfl⟩ ⟨(Nat.le_of_ble_eq_true rfl), (Nat.le_of_ble_eq_true rfl)⟩ hcs hd (fun r u H1 locs1 hw h9 hk hS => ?_)
  obtain ⟨f_code, f_evening⟩ := u
  have n_f_code := hw
  exact kk r _ _ _ rfl ⟨XS_kp hXS (fun z h1 h2 h3 => hk z h1 (fun (hA : mA bm z) => zap hbm hA.1 h3)), MS_of1 (M := M) h9 n_f_code (hI.1 12) (hI.1 13) (hI.1 14) (hI.2 2) (hI.2 3) (hI.2 4) (hI.2 6) (hI.1 16) (hI.2 7) (hI.2 8) (hI.2 12) (hI.2 13) (hI.2 14) (hI.1 21) (hI.2 16), lE_kp hE (fun z h1 h2 => hk z h1 (fun (hA : mA bm z) => absurd hA.2 (Nat.not_lt.mpr h2))), hT, hMT⟩ hS

set_option maxRecDepth 40000 in
set_option maxHeartbeats 4000000 in
theorem gm_drawn {p : Program} {l : Launch} {e : Env} {s : State} {m : MethodId} {below : List Frame} {meth : Method} {c : Code} {E : zE} {G : zG} {b L bx bm cells slots : Nat} {xs : Nat → Int32} {mi : Nat → Option Nat} {ko : Option Nat} {T : TT} {M : Nat → Nat → Int32} {I : Nat → TT} {H : Heap} {locs : List Loc} {ls : Array Slot} {pc idx : Nat} {a1 a2 a3 a4 : Int32} (rest : List Value) (hcs : cells ≤ room_1.cells ∧ slots ≤ room_1.slots) (C0 : lw_At p s m meth c b L xs) (hbx : s.heap.size ≤ bx) (hbm : bx + 93 ≤ bm) (hK : zK E s) (hO : zO s ∧ zZ G (fun q => s.heap.size ≤ q) s s.heap) (hG : GG E bx bm mi ko T M I H) (hS : va_S (fun q => s.heap.size ≤ q) s.heap H locs) (hKL : LK M) (hls : ls.size = 4) (hW : (rest.map fun v => v.category).sum ≤ 8) (hlk : Cond.methodLink RL idx yX11_drawn ∈ zb) (hd : decode cL_law pc = .ok (.invokevirtual idx, 3))
    (kk : ∀ (r : Int32) (M' : Nat → Nat → Int32) (H : Heap) (locs : List Loc), (M' = M ∧ r = AN_drawn M a1 a2 a3 a4) → GG E bx bm mi ko T M' I H → va_S (fun q => s.heap.size ≤ q) s.heap H locs → W p l e room_1 s m #[Value.ref b] below meth c H locs cells slots (lw_Z below #[Value.ref b] s) (F0 m (pc + 3) ls (.int r :: rest))) : W p l e room_1 s m #[Value.ref b] below meth c H locs cells slots (lw_Z below #[Value.ref b] s) (F0 m pc ls (.int a4 :: .int a3 :: .int a2 :: .int a1 :: .ref bm :: rest)) := by
  obtain ⟨hx, hb, hr, hml, hown, hts, hX0, hbl, hlocks, hgv⟩ := id C0
  have zc : zC p s m #[Value.ref b] meth c cL_law 4 RL ret := ⟨hx, hb, hml, hown, fun w hw => hts w (zb_in hw), hr, hlocks⟩
  obtain ⟨hXS, hMS, hE, hT, hMT⟩ := hG
  obtain ⟨S, V, f_word, a_rest, hI, hM⟩ := id hMS
  refine zVx_i [.int a1, .int a2, .int a3, .int a4] rest zc ky_X11_drawn kz_X11_drawn hlk (c_m_drawn l (post := (fun r f_code f_land f_huts f_singers a_at a_knows a_climbed a_snow a_level f_begun f_minute f_avalanches f_seed => (r = AN_drawn M a1 a2 a3 a4) ∧ (iv 0 0 f_code) ∧ (iv 0 1 f_land) ∧ (iv 0 9 f_huts) ∧ (iv 0 6 f_singers) ∧ (∀ j, iv 0 8 (a_at j)) ∧ (∀ j, iv 0 31 (a_knows j)) ∧ (∀ j, iv 0 1 (a_climbed j)) ∧ (∀ j, iv (-9) 108 (a_level j)) ∧ (iv 0 31 f_begun))) (cj_q_m_drawn_0 (post_1 := fun r f_code f_land f_huts f_singers a_at a_knows a_climbed a_snow a_level f_begun f_minute f_avalanches f_seed => r = AN_drawn M a1 a2 a3 a4) (post_2 := (fun r f_code f_land f_huts f_singers a_at a_knows a_climbed a_snow a_level f_begun f_minute f_avalanches f_seed => (iv 0 0 f_code) ∧ (iv 0 1 f_land) ∧ (iv 0 9 f_huts) ∧ (iv 0 6 f_singers) ∧ (∀ j, iv 0 8 (a_at j)) ∧ (∀ j, iv 0 31 (a_knows j)) ∧ (∀ j, iv 0 1 (a_climbed j)) ∧ (∀ j, iv (-9) 108 (a_level j)) ∧ (iv 0 31 f_begun))) (post_3 := (fun r f_code f_land f_huts f_singers a_at a_knows a_climbed a_snow a_level f_begun f_minute f_avalanches f_seed => (r = AN_drawn M a1 a2 a3 a4) ∧ (iv 0 0 f_code) ∧ (iv 0 1 f_land) ∧ (iv 0 9 f_huts) ∧ (iv 0 6 f_singers) ∧ (∀ j, iv 0 8 (a_at j)) ∧ (∀ j, iv 0 31 (a_knows j)) ∧ (∀ j, iv 0 1 (a_climbed j)) ∧ (∀ j, iv (-9) 108 (a_level j)) ∧ (iv 0 31 f_begun))) (fun _ _ _ _ _ _ _ _ _ _ _ _ _ _ a b => ⟨a, b⟩) (e_m_drawn (M := M) (hMT.2.2.1) (hMT.2.2.2.1) hKL (fun _ _ _ _ _ _ _ _ _ _ _ _ _ => rfl)) (s_m_drawn_0 (hI.1 0) (hMT.2.2.1) (hMT.2.2.2.1) (hI.1 12) (hI.1 13) (hI.1 14) (hI.2 2) (hI.2 3) (hI.2 4) (hI.2 6) (hI.1 16) (fun _ _ _ _ _ _ _ _ _ _ _ _ _ _ h0 h1 h2 h3 h4 h5 h6 h7 h8 => ⟨h0, h1, h2, h3, h4, h5, h6, h7, h8⟩)))) (mPreV0 hK hM) hS (fun q (h : mA bm q) => Nat.le_trans hbx (Nat.le_trans (Nat.le_trans (Nat.le_add_right bx 93) hbm) h.1)) rfl rfl hls hW ⟨rfl, rfl⟩ ⟨(Nat.le_of_ble_eq_true rfl), (Nat.le_of_ble_eq_true rfl)⟩ hcs hd (fun r u H1 locs1 hw h9 hk hS => ?_)
  obtain ⟨f_code, f_land, f_huts, f_singers, a_at, a_knows, a_climbed, a_snow, a_level, f_begun, f_minute, f_avalanches, f_seed⟩ := u
  obtain ⟨hrel, n_f_code, n_f_land, n_f_huts, n_f_singers, n_a_at, n_a_knows, n_a_climbed, n_a_level, n_f_begun⟩ := hw
  exact kk r _ _ _ ⟨rfl, hrel⟩ ⟨XS_kp hXS (fun z h1 h2 h3 => hk z h1 (fun (hA : mA bm z) => zap hbm hA.1 h3)), MS_of1 (M := M) h9 n_f_code n_f_land n_f_huts n_f_singers n_a_at n_a_knows n_a_climbed n_a_level n_f_begun (hI.2 7) (hI.2 8) (hI.2 12) (hI.2 13) (hI.2 14) (hI.1 21) (hI.2 16), lE_kp hE (fun z h1 h2 => hk z h1 (fun (hA : mA bm z) => absurd hA.2 (Nat.not_lt.mpr h2))), hT, hMT⟩ hS
end
section
set_option maxRecDepth 40000 in
set_option maxHeartbeats 4000000 in
theorem gm_echo {p : Program} {l : Launch} {e : Env} {s : State} {m : MethodId} {below : List Frame} {meth : Method} {c : Code} {E : zE} {G : zG} {b L bx bm cells slots : Nat} {xs : Nat → Int32} {mi : Nat → Option Nat} {ko : Option Nat} {T : TT} {M : Nat → Nat → Int32} {I : Nat → TT} {H : Heap} {locs : List Loc} {ls : Array Slot} {pc idx : Nat} {a1 a2 a3 : Int32} (rest : List Value) (hcs : cells ≤ room_1.cells ∧ slots ≤ room_1.slots) (C0 : lw_At p s m meth c b L xs) (hbx : s.heap.size ≤ bx) (hbm : bx + 93 ≤ bm) (hK : zK E s) (hO : zO s ∧ zZ G (fun q => s.heap.size ≤ q) s s.heap) (hG : GG E bx bm mi ko T M I H) (hS : va_S (fun q => s.heap.size ≤ q) s.heap H locs) (hls : ls.size = 4) (hW : (rest.map fun v => v.category).sum ≤ 8) (hlk : Cond.methodLink RL idx yX11_echo ∈ zb) (hd : decode cL_law pc = .ok (.invokevirtual idx, 3))
    (kk : ∀ (r : Int32) (M' : Nat → Nat → Int32) (H : Heap) (locs : List Loc), (M' = M) → GG E bx bm mi ko T M' I H → va_S (fun q => s.heap.size ≤ q) s.heap H locs → W p l e room_1 s m #[Value.ref b] below meth c H locs cells slots (lw_Z below #[Value.ref b] s) (F0 m (pc + 3) ls (.int r :: rest))) : W p l e room_1 s m #[Value.ref b] below meth c H locs cells slots (lw_Z below #[Value.ref b] s) (F0 m pc ls (.int a3 :: .int a2 :: .int a1 :: .ref bm :: rest)) := by
  obtain ⟨hx, hb, hr, hml, hown, hts, hX0, hbl, hlocks, hgv⟩ := id C0
  have zc : zC p s m #[Value.ref b] meth c cL_law 4 RL ret := ⟨hx, hb, hml, hown, fun w hw => hts w (zb_in hw), hr, hlocks⟩
  obtain ⟨hXS, hMS, hE, hT, hMT⟩ := hG
  obtain ⟨S, V, f_word, a_rest, hI, hM⟩ := id hMS
  refine zVx_i [.int a1, .int a2, .int a3] rest zc ky_X11_echo kz_X11_echo hlk (c_m_echo l (post := (fun r f_code f_land f_huts f_singers => (iv 0 0 f_code) ∧ (iv 0 1 f_land) ∧ (iv 0 9 f_huts) ∧ (iv 0 6 f_singers))) (s_m_echo_0 (hI.1 0) (hMT.2.2.1) (hMT.2.2.2.1) (hI.1 12) (hI.1 13) (hI.1 14) (fun _ _ _ _ _ _ h1 h2 h3 h4 => ⟨h1, h2, h3, h4⟩))) (mPreV0 hK hM) hS (fun q (h : mA bm q) => Nat.le_trans hbx (Nat.le_trans (Nat.le_trans (Nat.le_add_right bx 93) hbm) h.1)) rfl rfl hls hW ⟨rfl, rfl⟩ ⟨(Nat.le_of_ble_eq_true rfl), (Nat.le_of_ble_eq_true rfl)⟩ hcs hd (fun r u H1 locs1 hw h9 hk hS => ?_)
  obtain ⟨f_code, f_land, f_huts, f_singers⟩ := u
  obtain ⟨n_f_code, n_f_land, n_f_huts, n_f_singers⟩ := hw
  exact kk r _ _ _ rfl ⟨XS_kp hXS (fun z h1 h2 h3 => hk z h1 (fun (hA : mA bm z) => zap hbm hA.1 h3)), MS_of1 (M := M) h9 n_f_code n_f_land n_f_huts n_f_singers (hI.2 2) (hI.2 3) (hI.2 4) (hI.2 6) (hI.1 16) (hI.2 7) (hI.2 8) (hI.2 12) (hI.2 13) (hI.2 14) (hI.1 21) (hI.2 16), lE_kp hE (fun z h1 h2 => hk z h1 (fun (hA : mA bm z) => absurd hA.2 (Nat.not_lt.mpr h2))), hT, hMT⟩ hS

set_option maxRecDepth 40000 in
set_option maxHeartbeats 4000000 in
theorem gm_end {p : Program} {l : Launch} {e : Env} {s : State} {m : MethodId} {below : List Frame} {meth : Method} {c : Code} {E : zE} {G : zG} {b L bx bm cells slots : Nat} {xs : Nat → Int32} {mi : Nat → Option Nat} {ko : Option Nat} {T : TT} {M : Nat → Nat → Int32} {I : Nat → TT} {H : Heap} {locs : List Loc} {ls : Array Slot} {pc idx : Nat} {a1 : Int32} (rest : List Value) (hcs : cells ≤ room_1.cells ∧ slots ≤ room_1.slots) (C0 : lw_At p s m meth c b L xs) (hbx : s.heap.size ≤ bx) (hbm : bx + 93 ≤ bm) (hK : zK E s) (hO : zO s ∧ zZ G (fun q => s.heap.size ≤ q) s s.heap) (hG : GG E bx bm mi ko T M I H) (hS : va_S (fun q => s.heap.size ≤ q) s.heap H locs) (hls : ls.size = 4) (hW : (rest.map fun v => v.category).sum ≤ 8) (hlk : Cond.methodLink RL idx yX11_end ∈ zb) (hd : decode cL_law pc = .ok (.invokevirtual idx, 3))
    (kk : ∀ (r : Int32) (M' : Nat → Nat → Int32) (H : Heap) (locs : List Loc), (mEN M M' a1 r) → GG E bx bm mi ko T M' I H → va_S (fun q => s.heap.size ≤ q) s.heap H locs → W p l e room_1 s m #[Value.ref b] below meth c H locs cells slots (lw_Z below #[Value.ref b] s) (F0 m (pc + 3) ls (.int r :: rest))) : W p l e room_1 s m #[Value.ref b] below meth c H locs cells slots (lw_Z below #[Value.ref b] s) (F0 m pc ls (.int a1 :: .ref bm :: rest)) := by
  obtain ⟨hx, hb, hr, hml, hown, hts, hX0, hbl, hlocks, hgv⟩ := id C0
  have zc : zC p s m #[Value.ref b] meth c cL_law 4 RL ret := ⟨hx, hb, hml, hown, fun w hw => hts w (zb_in hw), hr, hlocks⟩
  obtain ⟨hXS, hMS, hE, hT, hMT⟩ := hG
  obtain ⟨S, V, f_word, a_rest, hI, hM⟩ := id hMS
  refine zVx_i [.int a1] rest zc ky_X11_end kz_X11_end hlk (c_m_end l (post := fun r f_code a_size => r = enR (M 1 0) a1 ∧ a_size 0 = enL (M 1 0) a1 ∧ (∀ j, ¬ j = 0 → a_size j = M 1 j) ∧ iv 0 0 f_code ∧ (∀ j, iv 0 600 (a_size j))) (e_m_end (hMT.2.1) (fun _ h1 h2 h3 => ⟨rfl, h2, h3, iv_lit (by decide), h1⟩))) (mPreV0 hK hM) hS (fun q (h : mA bm q) => Nat.le_trans hbx (Nat.le_trans (Nat.le_trans (Nat.le_add_right bx 93) hbm) h.1)) rfl rfl hls hW ⟨rfl, rfl⟩ ⟨(Nat.le_of_ble_eq_true rfl), (Nat.le_of_ble_eq_true rfl)⟩ hcs hd (fun r u H1 locs1 hw h9 hk hS => ?_)
  obtain ⟨f_code, a_size⟩ := u
  obtain ⟨hr1, z1, z2, n_f_code, n_a_size⟩ := hw
  exact kk r (mmk (M 0) a_size (M 2) (M 3) (M 4) (M 5) (M 6) (M 7) (M 8) (M 9)) _ _ ⟨mSA_mk z2, rfl, hr1, z1⟩ ⟨XS_kp hXS (fun z h1 h2 h3 => hk z h1 (fun (hA : mA bm z) => zap hbm hA.1 h3)), MS_of h9 n_f_code (hI.1 12) (hI.1 13) (hI.1 14) (hI.2 2) (hI.2 3) (hI.2 4) (hI.2 6) (hI.1 16) (hI.2 7) (hI.2 8) (hI.2 12) (hI.2 13) (hI.2 14) (hI.1 21) (hI.2 16), lE_kp hE (fun z h1 h2 => hk z h1 (fun (hA : mA bm z) => absurd hA.2 (Nat.not_lt.mpr h2))), hT, ⟨(hMT.1), n_a_size, (hMT.2.2.1), (hMT.2.2.2.1), (hMT.2.2.2.2.1), (hMT.2.2.2.2.2.1), (hMT.2.2.2.2.2.2.1), (hMT.2.2.2.2.2.2.2)⟩⟩ hS

set_option maxRecDepth 40000 in
set_option maxHeartbeats 4000000 in
theorem gm_fact {p : Program} {l : Launch} {e : Env} {s : State} {m : MethodId} {below : List Frame} {meth : Method} {c : Code} {E : zE} {G : zG} {b L bx bm cells slots : Nat} {xs : Nat → Int32} {mi : Nat → Option Nat} {ko : Option Nat} {T : TT} {M : Nat → Nat → Int32} {I : Nat → TT} {H : Heap} {locs : List Loc} {ls : Array Slot} {pc idx : Nat} {a1 a2 a3 : Int32} (rest : List Value) (hcs : cells ≤ room_1.cells ∧ slots ≤ room_1.slots) (C0 : lw_At p s m meth c b L xs) (hbx : s.heap.size ≤ bx) (hbm : bx + 93 ≤ bm) (hK : zK E s) (hO : zO s ∧ zZ G (fun q => s.heap.size ≤ q) s s.heap) (hG : GG E bx bm mi ko T M I H) (hS : va_S (fun q => s.heap.size ≤ q) s.heap H locs) (hls : ls.size = 4) (hW : (rest.map fun v => v.category).sum ≤ 8) (hlk : Cond.methodLink RL idx yX11_fact ∈ zb) (hd : decode cL_law pc = .ok (.invokevirtual idx, 3))
    (kk : ∀ (r : Int32) (M' : Nat → Nat → Int32) (H : Heap) (locs : List Loc), (M' = M) → GG E bx bm mi ko T M' I H → va_S (fun q => s.heap.size ≤ q) s.heap H locs → W p l e room_1 s m #[Value.ref b] below meth c H locs cells slots (lw_Z below #[Value.ref b] s) (F0 m (pc + 3) ls (.int r :: rest))) : W p l e room_1 s m #[Value.ref b] below meth c H locs cells slots (lw_Z below #[Value.ref b] s) (F0 m pc ls (.int a3 :: .int a2 :: .int a1 :: .ref bm :: rest)) := by
  obtain ⟨hx, hb, hr, hml, hown, hts, hX0, hbl, hlocks, hgv⟩ := id C0
  have zc : zC p s m #[Value.ref b] meth c cL_law 4 RL ret := ⟨hx, hb, hml, hown, fun w hw => hts w (zb_in hw), hr, hlocks⟩
  obtain ⟨hXS, hMS, hE, hT, hMT⟩ := hG
  obtain ⟨S, V, f_word, a_rest, hI, hM⟩ := id hMS
  refine zVx_i [.int a1, .int a2, .int a3] rest zc ky_X11_fact kz_X11_fact hlk (c_m_fact l (post := (fun r f_code f_sight => (iv 0 0 f_code))) (s_m_fact_0 (hI.1 0) (hMT.2.2.1) (hMT.2.2.2.2.2.1) (fun _ _ _ _ h1 => h1))) (mPreV0 hK hM) hS (fun q (h : mA bm q) => Nat.le_trans hbx (Nat.le_trans (Nat.le_trans (Nat.le_add_right bx 93) hbm) h.1)) rfl rfl hls hW ⟨rfl, rfl⟩ ⟨(Nat.le_of_ble_eq_true rfl), (Nat.le_of_ble_eq_true rfl)⟩ hcs hd (fun r u H1 locs1 hw h9 hk hS => ?_)
  obtain ⟨f_code, f_sight⟩ := u
  have n_f_code := hw
  exact kk r _ _ _ rfl ⟨XS_kp hXS (fun z h1 h2 h3 => hk z h1 (fun (hA : mA bm z) => zap hbm hA.1 h3)), MS_of1 (M := M) h9 n_f_code (hI.1 12) (hI.1 13) (hI.1 14) (hI.2 2) (hI.2 3) (hI.2 4) (hI.2 6) (hI.1 16) (hI.2 7) (hI.2 8) (hI.2 12) (hI.2 13) (hI.2 14) (hI.1 21) (hI.2 16), lE_kp hE (fun z h1 h2 => hk z h1 (fun (hA : mA bm z) => absurd hA.2 (Nat.not_lt.mpr h2))), hT, hMT⟩ hS

set_option maxRecDepth 40000 in
set_option maxHeartbeats 4000000 in
theorem gm_fault {p : Program} {l : Launch} {e : Env} {s : State} {m : MethodId} {below : List Frame} {meth : Method} {c : Code} {E : zE} {G : zG} {b L bx bm cells slots : Nat} {xs : Nat → Int32} {mi : Nat → Option Nat} {ko : Option Nat} {T : TT} {M : Nat → Nat → Int32} {I : Nat → TT} {H : Heap} {locs : List Loc} {ls : Array Slot} {pc idx : Nat} {a1 : Int32} (rest : List Value) (hcs : cells ≤ room_1.cells ∧ slots ≤ room_1.slots) (C0 : lw_At p s m meth c b L xs) (hbx : s.heap.size ≤ bx) (hbm : bx + 93 ≤ bm) (hK : zK E s) (hO : zO s ∧ zZ G (fun q => s.heap.size ≤ q) s s.heap) (hG : GG E bx bm mi ko T M I H) (hS : va_S (fun q => s.heap.size ≤ q) s.heap H locs) (hls : ls.size = 4) (hW : (rest.map fun v => v.category).sum ≤ 8) (hlk : Cond.methodLink RL idx yX11_fault ∈ zb) (hd : decode cL_law pc = .ok (.invokevirtual idx, 3))
    (kk : ∀ (r : Int32) (M' : Nat → Nat → Int32) (H : Heap) (locs : List Loc), (M' = M) → GG E bx bm mi ko T M' I H → va_S (fun q => s.heap.size ≤ q) s.heap H locs → W p l e room_1 s m #[Value.ref b] below meth c H locs cells slots (lw_Z below #[Value.ref b] s) (F0 m (pc + 3) ls (.int r :: rest))) : W p l e room_1 s m #[Value.ref b] below meth c H locs cells slots (lw_Z below #[Value.ref b] s) (F0 m pc ls (.int a1 :: .ref bm :: rest)) := by
  obtain ⟨hx, hb, hr, hml, hown, hts, hX0, hbl, hlocks, hgv⟩ := id C0
  have zc : zC p s m #[Value.ref b] meth c cL_law 4 RL ret := ⟨hx, hb, hml, hown, fun w hw => hts w (zb_in hw), hr, hlocks⟩
  obtain ⟨hXS, hMS, hE, hT, hMT⟩ := hG
  obtain ⟨S, V, f_word, a_rest, hI, hM⟩ := id hMS
  refine zVx_i [.int a1] rest zc ky_X11_fault kz_X11_fault hlk (c_m_fault l (post := (fun r f_code => (iv 0 0 f_code))) (s_m_fault_0 (hI.1 0) (fun _ _ h0 => h0))) (mPreV0 hK hM) hS (fun q (h : mA bm q) => Nat.le_trans hbx (Nat.le_trans (Nat.le_trans (Nat.le_add_right bx 93) hbm) h.1)) rfl rfl hls hW ⟨rfl, rfl⟩ ⟨(Nat.le_of_ble_eq_true rfl), (Nat.le_of_ble_eq_true rfl)⟩ hcs hd (fun r u H1 locs1 hw h9 hk hS => ?_)
  obtain ⟨f_code, eu⟩ : ∃ y, y = u := ⟨u, rfl⟩
  subst eu
  have n_f_code := hw
  exact kk r _ _ _ rfl ⟨XS_kp hXS (fun z h1 h2 h3 => hk z h1 (fun (hA : mA bm z) => zap hbm hA.1 h3)), MS_of1 (M := M) h9 n_f_code (hI.1 12) (hI.1 13) (hI.1 14) (hI.2 2) (hI.2 3) (hI.2 4) (hI.2 6) (hI.1 16) (hI.2 7) (hI.2 8) (hI.2 12) (hI.2 13) (hI.2 14) (hI.1 21) (hI.2 16), lE_kp hE (fun z h1 h2 => hk z h1 (fun (hA : mA bm z) => absurd hA.2 (Nat.not_lt.mpr h2))), hT, hMT⟩ hS

set_option maxRecDepth 40000 in
set_option maxHeartbeats 4000000 in
theorem gm_feed {p : Program} {l : Launch} {e : Env} {s : State} {m : MethodId} {below : List Frame} {meth : Method} {c : Code} {E : zE} {G : zG} {b L bx bm cells slots : Nat} {xs : Nat → Int32} {mi : Nat → Option Nat} {ko : Option Nat} {T : TT} {M : Nat → Nat → Int32} {I : Nat → TT} {H : Heap} {locs : List Loc} {ls : Array Slot} {pc idx : Nat} {a1 a2 a3 a4 a5 : Int32} (rest : List Value) (hcs : cells ≤ room_1.cells ∧ slots ≤ room_1.slots) (C0 : lw_At p s m meth c b L xs) (hbx : s.heap.size ≤ bx) (hbm : bx + 93 ≤ bm) (hK : zK E s) (hO : zO s ∧ zZ G (fun q => s.heap.size ≤ q) s s.heap) (hG : GG E bx bm mi ko T M I H) (hS : va_S (fun q => s.heap.size ≤ q) s.heap H locs) (hls : ls.size = 4) (hW : (rest.map fun v => v.category).sum ≤ 8) (hlk : Cond.methodLink RL idx yX11_feed ∈ zb) (hd : decode cL_law pc = .ok (.invokevirtual idx, 3))
    (kk : ∀ (r : Int32) (M' : Nat → Nat → Int32) (H : Heap) (locs : List Loc), (mFD M M' a1 a2 a3 a4 a5 r) → GG E bx bm mi ko T M' I H → va_S (fun q => s.heap.size ≤ q) s.heap H locs → W p l e room_1 s m #[Value.ref b] below meth c H locs cells slots (lw_Z below #[Value.ref b] s) (F0 m (pc + 3) ls (.int r :: rest))) : W p l e room_1 s m #[Value.ref b] below meth c H locs cells slots (lw_Z below #[Value.ref b] s) (F0 m pc ls (.int a5 :: .int a4 :: .int a3 :: .int a2 :: .int a1 :: .ref bm :: rest)) := by
  obtain ⟨hx, hb, hr, hml, hown, hts, hX0, hbl, hlocks, hgv⟩ := id C0
  have zc : zC p s m #[Value.ref b] meth c cL_law 4 RL ret := ⟨hx, hb, hml, hown, fun w hw => hts w (zb_in hw), hr, hlocks⟩
  obtain ⟨hXS, hMS, hE, hT, hMT⟩ := hG
  obtain ⟨S, V, f_word, a_rest, hI, hM⟩ := id hMS
  refine zVx_i [.int a1, .int a2, .int a3, .int a4, .int a5] rest zc ky_X11_feed kz_X11_feed hlk (c_m_feed l (post := (fun r f_code a_tape a_size => (mFD M (mmk a_tape a_size (M 2) (M 3) (M 4) (M 5) (M 6) (M 7) (M 8) (M 9)) a1 a2 a3 a4 a5 r) ∧ (iv 0 0 f_code) ∧ (∀ j, iv (-128) 127 (a_tape j)) ∧ (∀ j, iv 0 600 (a_size j)))) (cj_q_m_feed_0 (post_1 := fun r f_code a_tape a_size => mFD M (mmk a_tape a_size (M 2) (M 3) (M 4) (M 5) (M 6) (M 7) (M 8) (M 9)) a1 a2 a3 a4 a5 r) (post_2 := (fun r f_code a_tape a_size => (iv 0 0 f_code) ∧ (∀ j, iv (-128) 127 (a_tape j)) ∧ (∀ j, iv 0 600 (a_size j)))) (post_3 := (fun r f_code a_tape a_size => (mFD M (mmk a_tape a_size (M 2) (M 3) (M 4) (M 5) (M 6) (M 7) (M 8) (M 9)) a1 a2 a3 a4 a5 r) ∧ (iv 0 0 f_code) ∧ (∀ j, iv (-128) 127 (a_tape j)) ∧ (∀ j, iv 0 600 (a_size j)))) (fun _ _ _ _ a b => ⟨a, b⟩) (e_m_feed2 ((hMT.2.1) 0) (fun h => mFD_no h) (fun _ e hle _ _ hb h0 hz => mFD_yes e hle hb h0 hz)) (e_m_feed (hMT.1) (hMT.2.1) (fun _ _ h1 h2 _ _ => ⟨iv_lit (by decide), h1, h2⟩)))) (mPreV0 hK hM) hS (fun q (h : mA bm q) => Nat.le_trans hbx (Nat.le_trans (Nat.le_trans (Nat.le_add_right bx 93) hbm) h.1)) rfl rfl hls hW ⟨rfl, rfl⟩ ⟨(Nat.le_of_ble_eq_true rfl), (Nat.le_of_ble_eq_true rfl)⟩ hcs hd (fun r u H1 locs1 hw h9 hk hS => ?_)
  obtain ⟨f_code, a_tape, a_size⟩ := u
  obtain ⟨hrel, n_f_code, n_a_tape, n_a_size⟩ := hw
  exact kk r (mmk a_tape a_size (M 2) (M 3) (M 4) (M 5) (M 6) (M 7) (M 8) (M 9)) _ _ hrel ⟨XS_kp hXS (fun z h1 h2 h3 => hk z h1 (fun (hA : mA bm z) => zap hbm hA.1 h3)), MS_of h9 n_f_code (hI.1 12) (hI.1 13) (hI.1 14) (hI.2 2) (hI.2 3) (hI.2 4) (hI.2 6) (hI.1 16) (hI.2 7) (hI.2 8) (hI.2 12) (hI.2 13) (hI.2 14) (hI.1 21) (hI.2 16), lE_kp hE (fun z h1 h2 => hk z h1 (fun (hA : mA bm z) => absurd hA.2 (Nat.not_lt.mpr h2))), hT, ⟨n_a_tape, n_a_size, (hMT.2.2.1), (hMT.2.2.2.1), (hMT.2.2.2.2.1), (hMT.2.2.2.2.2.1), (hMT.2.2.2.2.2.2.1), (hMT.2.2.2.2.2.2.2)⟩⟩ hS

set_option maxRecDepth 40000 in
set_option maxHeartbeats 4000000 in
theorem gm_fits {p : Program} {l : Launch} {e : Env} {s : State} {m : MethodId} {below : List Frame} {meth : Method} {c : Code} {E : zE} {G : zG} {b L bx bm cells slots : Nat} {xs : Nat → Int32} {mi : Nat → Option Nat} {ko : Option Nat} {T : TT} {M : Nat → Nat → Int32} {I : Nat → TT} {H : Heap} {locs : List Loc} {ls : Array Slot} {pc idx : Nat} {a1 a2 a3 : Int32} (rest : List Value) (hcs : cells ≤ room_1.cells ∧ slots ≤ room_1.slots) (C0 : lw_At p s m meth c b L xs) (hbx : s.heap.size ≤ bx) (hbm : bx + 93 ≤ bm) (hK : zK E s) (hO : zO s ∧ zZ G (fun q => s.heap.size ≤ q) s s.heap) (hG : GG E bx bm mi ko T M I H) (hS : va_S (fun q => s.heap.size ≤ q) s.heap H locs) (hls : ls.size = 4) (hW : (rest.map fun v => v.category).sum ≤ 8) (hlk : Cond.methodLink RL idx yX11_fits ∈ zb) (hd : decode cL_law pc = .ok (.invokevirtual idx, 3))
    (kk : ∀ (r : Int32) (M' : Nat → Nat → Int32) (H : Heap) (locs : List Loc), (M' = M) → GG E bx bm mi ko T M' I H → va_S (fun q => s.heap.size ≤ q) s.heap H locs → W p l e room_1 s m #[Value.ref b] below meth c H locs cells slots (lw_Z below #[Value.ref b] s) (F0 m (pc + 3) ls (.int r :: rest))) : W p l e room_1 s m #[Value.ref b] below meth c H locs cells slots (lw_Z below #[Value.ref b] s) (F0 m pc ls (.int a3 :: .int a2 :: .int a1 :: .ref bm :: rest)) := by
  obtain ⟨hx, hb, hr, hml, hown, hts, hX0, hbl, hlocks, hgv⟩ := id C0
  have zc : zC p s m #[Value.ref b] meth c cL_law 4 RL ret := ⟨hx, hb, hml, hown, fun w hw => hts w (zb_in hw), hr, hlocks⟩
  obtain ⟨hXS, hMS, hE, hT, hMT⟩ := hG
  obtain ⟨S, V, f_word, a_rest, hI, hM⟩ := id hMS
  refine zVx_i [.int a1, .int a2, .int a3] rest zc ky_X11_fits kz_X11_fits hlk (c_m_fits l (post := (fun r f_code f_land f_huts f_singers a_run f_sight a_runs => (iv 0 0 f_code) ∧ (iv 0 1 f_land) ∧ (iv 0 9 f_huts) ∧ (iv 0 6 f_singers) ∧ (∀ j, iv 0 1000000 (a_run j)) ∧ (∀ j, iv 0 1000000 (a_runs j)))) (s_m_fits_0 (hI.1 0) (hMT.2.2.1) (hMT.2.2.2.1) (hMT.2.2.2.2.2.1) (hI.1 12) (hI.1 13) (hI.1 14) (hI.2 7) (hI.2 14) (fun _ _ _ _ _ _ _ _ _ h1 h2 h3 h4 h5 h6 => ⟨h1, h2, h3, h4, h5, h6⟩))) (mPreV0 hK hM) hS (fun q (h : mA bm q) => Nat.le_trans hbx (Nat.le_trans (Nat.le_trans (Nat.le_add_right bx 93) hbm) h.1)) rfl rfl hls hW ⟨rfl, rfl⟩ ⟨(Nat.le_of_ble_eq_true rfl), (Nat.le_of_ble_eq_true rfl)⟩ hcs hd (fun r u H1 locs1 hw h9 hk hS => ?_)
  obtain ⟨f_code, f_land, f_huts, f_singers, a_run, f_sight, a_runs⟩ := u
  obtain ⟨n_f_code, n_f_land, n_f_huts, n_f_singers, n_a_run, n_a_runs⟩ := hw
  exact kk r _ _ _ rfl ⟨XS_kp hXS (fun z h1 h2 h3 => hk z h1 (fun (hA : mA bm z) => zap hbm hA.1 h3)), MS_of1 (M := M) h9 n_f_code n_f_land n_f_huts n_f_singers (hI.2 2) (hI.2 3) (hI.2 4) (hI.2 6) (hI.1 16) n_a_run (hI.2 8) (hI.2 12) (hI.2 13) n_a_runs (hI.1 21) (hI.2 16), lE_kp hE (fun z h1 h2 => hk z h1 (fun (hA : mA bm z) => absurd hA.2 (Nat.not_lt.mpr h2))), hT, hMT⟩ hS

set_option maxRecDepth 40000 in
set_option maxHeartbeats 4000000 in
theorem gm_flood {p : Program} {l : Launch} {e : Env} {s : State} {m : MethodId} {below : List Frame} {meth : Method} {c : Code} {E : zE} {G : zG} {b L bx bm cells slots : Nat} {xs : Nat → Int32} {mi : Nat → Option Nat} {ko : Option Nat} {T : TT} {M : Nat → Nat → Int32} {I : Nat → TT} {H : Heap} {locs : List Loc} {ls : Array Slot} {pc idx : Nat} {a1 a2 a3 a4 : Int32} (rest : List Value) (hcs : cells ≤ room_1.cells ∧ slots ≤ room_1.slots) (C0 : lw_At p s m meth c b L xs) (hbx : s.heap.size ≤ bx) (hbm : bx + 93 ≤ bm) (hK : zK E s) (hO : zO s ∧ zZ G (fun q => s.heap.size ≤ q) s s.heap) (hG : GG E bx bm mi ko T M I H) (hS : va_S (fun q => s.heap.size ≤ q) s.heap H locs) (hls : ls.size = 4) (hW : (rest.map fun v => v.category).sum ≤ 8) (hlk : Cond.methodLink RL idx yX11_flood ∈ zb) (hd : decode cL_law pc = .ok (.invokevirtual idx, 3))
    (kk : ∀ (r : Int32) (M' : Nat → Nat → Int32) (H : Heap) (locs : List Loc), (M' = M) → GG E bx bm mi ko T M' I H → va_S (fun q => s.heap.size ≤ q) s.heap H locs → W p l e room_1 s m #[Value.ref b] below meth c H locs cells slots (lw_Z below #[Value.ref b] s) (F0 m (pc + 3) ls (.int r :: rest))) : W p l e room_1 s m #[Value.ref b] below meth c H locs cells slots (lw_Z below #[Value.ref b] s) (F0 m pc ls (.int a4 :: .int a3 :: .int a2 :: .int a1 :: .ref bm :: rest)) := by
  obtain ⟨hx, hb, hr, hml, hown, hts, hX0, hbl, hlocks, hgv⟩ := id C0
  have zc : zC p s m #[Value.ref b] meth c cL_law 4 RL ret := ⟨hx, hb, hml, hown, fun w hw => hts w (zb_in hw), hr, hlocks⟩
  obtain ⟨hXS, hMS, hE, hT, hMT⟩ := hG
  obtain ⟨S, V, f_word, a_rest, hI, hM⟩ := id hMS
  refine zVx_i [.int a1, .int a2, .int a3, .int a4] rest zc ky_X11_flood kz_X11_flood hlk (c_m_flood l (post := (fun r f_code f_land f_huts f_singers a_run => (iv 0 0 f_code) ∧ (iv 0 1 f_land) ∧ (iv 0 9 f_huts) ∧ (iv 0 6 f_singers) ∧ (∀ j, iv 0 1000000 (a_run j)))) (s_m_flood_0 (hI.1 0) (hMT.2.2.1) (hMT.2.2.2.1) (hI.1 12) (hI.1 13) (hI.1 14) (hI.2 7) (fun _ _ _ _ _ _ h0 h1 h2 h3 h4 => ⟨h0, h1, h2, h3, h4⟩))) (mPreV0 hK hM) hS (fun q (h : mA bm q) => Nat.le_trans hbx (Nat.le_trans (Nat.le_trans (Nat.le_add_right bx 93) hbm) h.1)) rfl rfl hls hW ⟨rfl, rfl⟩ ⟨(Nat.le_of_ble_eq_true rfl), (Nat.le_of_ble_eq_true rfl)⟩ hcs hd (fun r u H1 locs1 hw h9 hk hS => ?_)
  obtain ⟨f_code, f_land, f_huts, f_singers, a_run⟩ := u
  obtain ⟨n_f_code, n_f_land, n_f_huts, n_f_singers, n_a_run⟩ := hw
  exact kk r _ _ _ rfl ⟨XS_kp hXS (fun z h1 h2 h3 => hk z h1 (fun (hA : mA bm z) => zap hbm hA.1 h3)), MS_of1 (M := M) h9 n_f_code n_f_land n_f_huts n_f_singers (hI.2 2) (hI.2 3) (hI.2 4) (hI.2 6) (hI.1 16) n_a_run (hI.2 8) (hI.2 12) (hI.2 13) (hI.2 14) (hI.1 21) (hI.2 16), lE_kp hE (fun z h1 h2 => hk z h1 (fun (hA : mA bm z) => absurd hA.2 (Nat.not_lt.mpr h2))), hT, hMT⟩ hS

set_option maxRecDepth 40000 in
set_option maxHeartbeats 4000000 in
theorem gm_image {p : Program} {l : Launch} {e : Env} {s : State} {m : MethodId} {below : List Frame} {meth : Method} {c : Code} {E : zE} {G : zG} {b L bx bm cells slots : Nat} {xs : Nat → Int32} {mi : Nat → Option Nat} {ko : Option Nat} {T : TT} {M : Nat → Nat → Int32} {I : Nat → TT} {H : Heap} {locs : List Loc} {ls : Array Slot} {pc idx : Nat} {a1 : Int32} (rest : List Value) (hcs : cells ≤ room_1.cells ∧ slots ≤ room_1.slots) (C0 : lw_At p s m meth c b L xs) (hbx : s.heap.size ≤ bx) (hbm : bx + 93 ≤ bm) (hK : zK E s) (hO : zO s ∧ zZ G (fun q => s.heap.size ≤ q) s s.heap) (hG : GG E bx bm mi ko T M I H) (hS : va_S (fun q => s.heap.size ≤ q) s.heap H locs) (hls : ls.size = 4) (hW : (rest.map fun v => v.category).sum ≤ 8) (hlk : Cond.methodLink RL idx yX11_image ∈ zb) (hd : decode cL_law pc = .ok (.invokevirtual idx, 3))
    (kk : ∀ (r : Int32) (M' : Nat → Nat → Int32) (H : Heap) (locs : List Loc), (mIM M M' a1 r) → GG E bx bm mi ko T M' I H → va_S (fun q => s.heap.size ≤ q) s.heap H locs → W p l e room_1 s m #[Value.ref b] below meth c H locs cells slots (lw_Z below #[Value.ref b] s) (F0 m (pc + 3) ls (.int r :: rest))) : W p l e room_1 s m #[Value.ref b] below meth c H locs cells slots (lw_Z below #[Value.ref b] s) (F0 m pc ls (.int a1 :: .ref bm :: rest)) := by
  obtain ⟨hx, hb, hr, hml, hown, hts, hX0, hbl, hlocks, hgv⟩ := id C0
  have zc : zC p s m #[Value.ref b] meth c cL_law 4 RL ret := ⟨hx, hb, hml, hown, fun w hw => hts w (zb_in hw), hr, hlocks⟩
  obtain ⟨hXS, hMS, hE, hT, hMT⟩ := hG
  obtain ⟨S, V, f_word, a_rest, hI, hM⟩ := id hMS
  refine zVx_i [.int a1] rest zc ky_X11_image kz_X11_image hlk (c_m_image l (post := (fun r f_code a_tape a_size a_fault a_faultPlace a_many a_lands a_evenings a_sights a_choirs a_kept => (mIM M (mmk a_tape a_size a_fault a_faultPlace a_many a_lands a_evenings a_sights a_choirs a_kept) a1 r) ∧ (iv 0 0 f_code) ∧ (∀ j, iv (-128) 127 (a_tape j)) ∧ (∀ j, iv 0 600 (a_size j)) ∧ (∀ j, iv 0 2 (a_many j)) ∧ (mLand a_lands) ∧ (mEve a_evenings) ∧ (mSig a_sights) ∧ (mCho a_choirs) ∧ (∀ j, iv 0 1 (a_kept j)))) (cj_q_m_image_0 (post_1 := fun r f_code a_tape a_size a_fault a_faultPlace a_many a_lands a_evenings a_sights a_choirs a_kept => mIM M (mmk a_tape a_size a_fault a_faultPlace a_many a_lands a_evenings a_sights a_choirs a_kept) a1 r) (post_2 := (fun r f_code a_tape a_size a_fault a_faultPlace a_many a_lands a_evenings a_sights a_choirs a_kept => (iv 0 0 f_code) ∧ (∀ j, iv (-128) 127 (a_tape j)) ∧ (∀ j, iv 0 600 (a_size j)) ∧ (∀ j, iv 0 2 (a_many j)) ∧ (mLand a_lands) ∧ (mEve a_evenings) ∧ (mSig a_sights) ∧ (mCho a_choirs) ∧ (∀ j, iv 0 1 (a_kept j)))) (post_3 := (fun r f_code a_tape a_size a_fault a_faultPlace a_many a_lands a_evenings a_sights a_choirs a_kept => (mIM M (mmk a_tape a_size a_fault a_faultPlace a_many a_lands a_evenings a_sights a_choirs a_kept) a1 r) ∧ (iv 0 0 f_code) ∧ (∀ j, iv (-128) 127 (a_tape j)) ∧ (∀ j, iv 0 600 (a_size j)) ∧ (∀ j, iv 0 2 (a_many j)) ∧ (mLand a_lands) ∧ (mEve a_evenings) ∧ (mSig a_sights) ∧ (mCho a_choirs) ∧ (∀ j, iv 0 1 (a_kept j)))) (fun _ _ _ _ _ _ _ _ _ _ _ _ a b => ⟨a, b⟩) (e_m_image2 (M := M) (hMT.1) (fun _ _ _ _ _ _ _ _ _ _ _ h => h)) (e_m_image (hMT.1) (hMT.2.1) (hMT.2.2.1) (hMT.2.2.2.1) (hMT.2.2.2.2.1) (hMT.2.2.2.2.2.1) (hMT.2.2.2.2.2.2.1) (hMT.2.2.2.2.2.2.2) (fun _ => ⟨iv_lit (by decide), (hMT.1), (hMT.2.1), (hMT.2.2.1), (hMT.2.2.2.1), (hMT.2.2.2.2.1), (hMT.2.2.2.2.2.1), (hMT.2.2.2.2.2.2.1), (hMT.2.2.2.2.2.2.2)⟩) (fun _ _ _ t z fa fp mn l e2 s c kp _ _ _ _ g0 g1 g2 g3 g4 g5 g6 g7 => ⟨iv_lit (by decide), g0, g1, g2, g3, g4, g5, g6, g7⟩)))) (mPreV0 hK hM) hS (fun q (h : mA bm q) => Nat.le_trans hbx (Nat.le_trans (Nat.le_trans (Nat.le_add_right bx 93) hbm) h.1)) rfl rfl hls hW ⟨rfl, rfl⟩ ⟨(Nat.le_of_ble_eq_true rfl), (Nat.le_of_ble_eq_true rfl)⟩ hcs hd (fun r u H1 locs1 hw h9 hk hS => ?_)
  obtain ⟨f_code, a_tape, a_size, a_fault, a_faultPlace, a_many, a_lands, a_evenings, a_sights, a_choirs, a_kept⟩ := u
  obtain ⟨hrel, n_f_code, n_a_tape, n_a_size, n_a_many, n_a_lands, n_a_evenings, n_a_sights, n_a_choirs, n_a_kept⟩ := hw
  exact kk r (mmk a_tape a_size a_fault a_faultPlace a_many a_lands a_evenings a_sights a_choirs a_kept) _ _ hrel ⟨XS_kp hXS (fun z h1 h2 h3 => hk z h1 (fun (hA : mA bm z) => zap hbm hA.1 h3)), MS_of h9 n_f_code (hI.1 12) (hI.1 13) (hI.1 14) (hI.2 2) (hI.2 3) (hI.2 4) (hI.2 6) (hI.1 16) (hI.2 7) (hI.2 8) (hI.2 12) (hI.2 13) (hI.2 14) (hI.1 21) (hI.2 16), lE_kp hE (fun z h1 h2 => hk z h1 (fun (hA : mA bm z) => absurd hA.2 (Nat.not_lt.mpr h2))), hT, ⟨n_a_tape, n_a_size, n_a_many, n_a_lands, n_a_evenings, n_a_sights, n_a_choirs, n_a_kept⟩⟩ hS
end
section
set_option maxRecDepth 40000 in
set_option maxHeartbeats 4000000 in
theorem gm_join {p : Program} {l : Launch} {e : Env} {s : State} {m : MethodId} {below : List Frame} {meth : Method} {c : Code} {E : zE} {G : zG} {b L bx bm cells slots : Nat} {xs : Nat → Int32} {mi : Nat → Option Nat} {ko : Option Nat} {T : TT} {M : Nat → Nat → Int32} {I : Nat → TT} {H : Heap} {locs : List Loc} {ls : Array Slot} {pc idx : Nat} {a1 a2 a3 a4 : Int32} (rest : List Value) (hcs : cells ≤ room_1.cells ∧ slots ≤ room_1.slots) (C0 : lw_At p s m meth c b L xs) (hbx : s.heap.size ≤ bx) (hbm : bx + 93 ≤ bm) (hK : zK E s) (hO : zO s ∧ zZ G (fun q => s.heap.size ≤ q) s s.heap) (hG : GG E bx bm mi ko T M I H) (hS : va_S (fun q => s.heap.size ≤ q) s.heap H locs) (hls : ls.size = 4) (hW : (rest.map fun v => v.category).sum ≤ 8) (hlk : Cond.methodLink RL idx yX11_join ∈ zb) (hd : decode cL_law pc = .ok (.invokevirtual idx, 3))
    (kk : ∀ (r : Int32) (M' : Nat → Nat → Int32) (H : Heap) (locs : List Loc), (M' = M) → GG E bx bm mi ko T M' I H → va_S (fun q => s.heap.size ≤ q) s.heap H locs → W p l e room_1 s m #[Value.ref b] below meth c H locs cells slots (lw_Z below #[Value.ref b] s) (F0 m (pc + 3) ls (.int r :: rest))) : W p l e room_1 s m #[Value.ref b] below meth c H locs cells slots (lw_Z below #[Value.ref b] s) (F0 m pc ls (.int a4 :: .int a3 :: .int a2 :: .int a1 :: .ref bm :: rest)) := by
  obtain ⟨hx, hb, hr, hml, hown, hts, hX0, hbl, hlocks, hgv⟩ := id C0
  have zc : zC p s m #[Value.ref b] meth c cL_law 4 RL ret := ⟨hx, hb, hml, hown, fun w hw => hts w (zb_in hw), hr, hlocks⟩
  obtain ⟨hXS, hMS, hE, hT, hMT⟩ := hG
  obtain ⟨S, V, f_word, a_rest, hI, hM⟩ := id hMS
  refine zVx_i [.int a1, .int a2, .int a3, .int a4] rest zc ky_X11_join kz_X11_join hlk (c_m_join l (post := (fun r f_code f_land f_huts f_singers a_run a_other => (iv 0 0 f_code) ∧ (iv 0 1 f_land) ∧ (iv 0 9 f_huts) ∧ (iv 0 6 f_singers) ∧ (∀ j, iv 0 1000000 (a_run j)) ∧ (∀ j, iv 0 1000000 (a_other j)))) (s_m_join_0 (hI.1 0) (hMT.2.2.1) (hMT.2.2.2.1) (hI.1 12) (hI.1 13) (hI.1 14) (hI.2 7) (hI.2 16) (fun _ _ _ _ _ _ _ _ h1 h2 h3 h4 h5 h6 => ⟨h1, h2, h3, h4, h5, h6⟩))) (mPreV0 hK hM) hS (fun q (h : mA bm q) => Nat.le_trans hbx (Nat.le_trans (Nat.le_trans (Nat.le_add_right bx 93) hbm) h.1)) rfl rfl hls hW ⟨rfl, rfl⟩ ⟨(Nat.le_of_ble_eq_true rfl), (Nat.le_of_ble_eq_true rfl)⟩ hcs hd (fun r u H1 locs1 hw h9 hk hS => ?_)
  obtain ⟨f_code, f_land, f_huts, f_singers, a_run, a_other⟩ := u
  obtain ⟨n_f_code, n_f_land, n_f_huts, n_f_singers, n_a_run, n_a_other⟩ := hw
  exact kk r _ _ _ rfl ⟨XS_kp hXS (fun z h1 h2 h3 => hk z h1 (fun (hA : mA bm z) => zap hbm hA.1 h3)), MS_of1 (M := M) h9 n_f_code n_f_land n_f_huts n_f_singers (hI.2 2) (hI.2 3) (hI.2 4) (hI.2 6) (hI.1 16) n_a_run (hI.2 8) (hI.2 12) (hI.2 13) (hI.2 14) (hI.1 21) n_a_other, lE_kp hE (fun z h1 h2 => hk z h1 (fun (hA : mA bm z) => absurd hA.2 (Nat.not_lt.mpr h2))), hT, hMT⟩ hS

set_option maxRecDepth 40000 in
set_option maxHeartbeats 4000000 in
theorem gm_land {p : Program} {l : Launch} {e : Env} {s : State} {m : MethodId} {below : List Frame} {meth : Method} {c : Code} {E : zE} {G : zG} {b L bx bm cells slots : Nat} {xs : Nat → Int32} {mi : Nat → Option Nat} {ko : Option Nat} {T : TT} {M : Nat → Nat → Int32} {I : Nat → TT} {H : Heap} {locs : List Loc} {ls : Array Slot} {pc idx : Nat} {a1 a2 : Int32} (rest : List Value) (hcs : cells ≤ room_1.cells ∧ slots ≤ room_1.slots) (C0 : lw_At p s m meth c b L xs) (hbx : s.heap.size ≤ bx) (hbm : bx + 93 ≤ bm) (hK : zK E s) (hO : zO s ∧ zZ G (fun q => s.heap.size ≤ q) s s.heap) (hG : GG E bx bm mi ko T M I H) (hS : va_S (fun q => s.heap.size ≤ q) s.heap H locs) (hls : ls.size = 4) (hW : (rest.map fun v => v.category).sum ≤ 8) (hlk : Cond.methodLink RL idx yX11_land ∈ zb) (hd : decode cL_law pc = .ok (.invokevirtual idx, 3))
    (kk : ∀ (r : Int32) (M' : Nat → Nat → Int32) (H : Heap) (locs : List Loc), (M' = M) → GG E bx bm mi ko T M' I H → va_S (fun q => s.heap.size ≤ q) s.heap H locs → W p l e room_1 s m #[Value.ref b] below meth c H locs cells slots (lw_Z below #[Value.ref b] s) (F0 m (pc + 3) ls (.int r :: rest))) : W p l e room_1 s m #[Value.ref b] below meth c H locs cells slots (lw_Z below #[Value.ref b] s) (F0 m pc ls (.int a2 :: .int a1 :: .ref bm :: rest)) := by
  obtain ⟨hx, hb, hr, hml, hown, hts, hX0, hbl, hlocks, hgv⟩ := id C0
  have zc : zC p s m #[Value.ref b] meth c cL_law 4 RL ret := ⟨hx, hb, hml, hown, fun w hw => hts w (zb_in hw), hr, hlocks⟩
  obtain ⟨hXS, hMS, hE, hT, hMT⟩ := hG
  obtain ⟨S, V, f_word, a_rest, hI, hM⟩ := id hMS
  refine zVx_i [.int a1, .int a2] rest zc ky_X11_land kz_X11_land hlk (c_m_land l (post := (fun r f_code f_land f_huts f_singers => (iv 0 0 f_code) ∧ (iv 0 1 f_land) ∧ (iv 0 9 f_huts) ∧ (iv 0 6 f_singers))) (s_m_land_0 (hI.1 0) (hMT.2.2.1) (hMT.2.2.2.1) (hI.1 12) (hI.1 13) (hI.1 14) (fun _ _ _ _ _ _ h1 h2 h3 h4 => ⟨h1, h2, h3, h4⟩))) (mPreV0 hK hM) hS (fun q (h : mA bm q) => Nat.le_trans hbx (Nat.le_trans (Nat.le_trans (Nat.le_add_right bx 93) hbm) h.1)) rfl rfl hls hW ⟨rfl, rfl⟩ ⟨(Nat.le_of_ble_eq_true rfl), (Nat.le_of_ble_eq_true rfl)⟩ hcs hd (fun r u H1 locs1 hw h9 hk hS => ?_)
  obtain ⟨f_code, f_land, f_huts, f_singers⟩ := u
  obtain ⟨n_f_code, n_f_land, n_f_huts, n_f_singers⟩ := hw
  exact kk r _ _ _ rfl ⟨XS_kp hXS (fun z h1 h2 h3 => hk z h1 (fun (hA : mA bm z) => zap hbm hA.1 h3)), MS_of1 (M := M) h9 n_f_code n_f_land n_f_huts n_f_singers (hI.2 2) (hI.2 3) (hI.2 4) (hI.2 6) (hI.1 16) (hI.2 7) (hI.2 8) (hI.2 12) (hI.2 13) (hI.2 14) (hI.1 21) (hI.2 16), lE_kp hE (fun z h1 h2 => hk z h1 (fun (hA : mA bm z) => absurd hA.2 (Nat.not_lt.mpr h2))), hT, hMT⟩ hS

set_option maxRecDepth 40000 in
set_option maxHeartbeats 4000000 in
theorem gm_masses {p : Program} {l : Launch} {e : Env} {s : State} {m : MethodId} {below : List Frame} {meth : Method} {c : Code} {E : zE} {G : zG} {b L bx bm cells slots : Nat} {xs : Nat → Int32} {mi : Nat → Option Nat} {ko : Option Nat} {T : TT} {M : Nat → Nat → Int32} {I : Nat → TT} {H : Heap} {locs : List Loc} {ls : Array Slot} {pc idx : Nat} {a1 a2 a3 : Int32} (rest : List Value) (hcs : cells ≤ room_1.cells ∧ slots ≤ room_1.slots) (C0 : lw_At p s m meth c b L xs) (hbx : s.heap.size ≤ bx) (hbm : bx + 93 ≤ bm) (hK : zK E s) (hO : zO s ∧ zZ G (fun q => s.heap.size ≤ q) s s.heap) (hG : GG E bx bm mi ko T M I H) (hS : va_S (fun q => s.heap.size ≤ q) s.heap H locs) (hls : ls.size = 4) (hW : (rest.map fun v => v.category).sum ≤ 8) (hlk : Cond.methodLink RL idx yX11_masses ∈ zb) (hd : decode cL_law pc = .ok (.invokevirtual idx, 3))
    (kk : ∀ (r : Int32) (M' : Nat → Nat → Int32) (H : Heap) (locs : List Loc), (M' = M) → GG E bx bm mi ko T M' I H → va_S (fun q => s.heap.size ≤ q) s.heap H locs → W p l e room_1 s m #[Value.ref b] below meth c H locs cells slots (lw_Z below #[Value.ref b] s) (F0 m (pc + 3) ls (.int r :: rest))) : W p l e room_1 s m #[Value.ref b] below meth c H locs cells slots (lw_Z below #[Value.ref b] s) (F0 m pc ls (.int a3 :: .int a2 :: .int a1 :: .ref bm :: rest)) := by
  obtain ⟨hx, hb, hr, hml, hown, hts, hX0, hbl, hlocks, hgv⟩ := id C0
  have zc : zC p s m #[Value.ref b] meth c cL_law 4 RL ret := ⟨hx, hb, hml, hown, fun w hw => hts w (zb_in hw), hr, hlocks⟩
  obtain ⟨hXS, hMS, hE, hT, hMT⟩ := hG
  obtain ⟨S, V, f_word, a_rest, hI, hM⟩ := id hMS
  refine zVx_i [.int a1, .int a2, .int a3] rest zc ky_X11_masses kz_X11_masses hlk (c_m_masses l (post := (fun r f_code f_land f_huts f_singers a_covers a_far => (iv 0 0 f_code) ∧ (iv 0 1 f_land) ∧ (iv 0 9 f_huts) ∧ (iv 0 6 f_singers) ∧ (∀ j, iv 0 511 (a_covers j)) ∧ (∀ j, iv 0 1000000 (a_far j)))) (s_m_masses_0 (hI.1 0) (hMT.2.2.1) (hMT.2.2.2.1) (hI.1 12) (hI.1 13) (hI.1 14) (hI.2 8) (hI.2 13) (fun _ _ _ _ _ _ _ h0 h1 h2 h3 h4 h5 => ⟨h0, h1, h2, h3, h4, h5⟩))) (mPreV0 hK hM) hS (fun q (h : mA bm q) => Nat.le_trans hbx (Nat.le_trans (Nat.le_trans (Nat.le_add_right bx 93) hbm) h.1)) rfl rfl hls hW ⟨rfl, rfl⟩ ⟨(Nat.le_of_ble_eq_true rfl), (Nat.le_of_ble_eq_true rfl)⟩ hcs hd (fun r u H1 locs1 hw h9 hk hS => ?_)
  obtain ⟨f_code, f_land, f_huts, f_singers, a_covers, a_far⟩ := u
  obtain ⟨n_f_code, n_f_land, n_f_huts, n_f_singers, n_a_covers, n_a_far⟩ := hw
  exact kk r _ _ _ rfl ⟨XS_kp hXS (fun z h1 h2 h3 => hk z h1 (fun (hA : mA bm z) => zap hbm hA.1 h3)), MS_of1 (M := M) h9 n_f_code n_f_land n_f_huts n_f_singers (hI.2 2) (hI.2 3) (hI.2 4) (hI.2 6) (hI.1 16) (hI.2 7) n_a_covers (hI.2 12) n_a_far (hI.2 14) (hI.1 21) (hI.2 16), lE_kp hE (fun z h1 h2 => hk z h1 (fun (hA : mA bm z) => absurd hA.2 (Nat.not_lt.mpr h2))), hT, hMT⟩ hS

set_option maxRecDepth 40000 in
set_option maxHeartbeats 4000000 in
theorem gm_meet {p : Program} {l : Launch} {e : Env} {s : State} {m : MethodId} {below : List Frame} {meth : Method} {c : Code} {E : zE} {G : zG} {b L bx bm cells slots : Nat} {xs : Nat → Int32} {mi : Nat → Option Nat} {ko : Option Nat} {T : TT} {M : Nat → Nat → Int32} {I : Nat → TT} {H : Heap} {locs : List Loc} {ls : Array Slot} {pc idx : Nat} {a1 a2 a3 a4 : Int32} (rest : List Value) (hcs : cells ≤ room_1.cells ∧ slots ≤ room_1.slots) (C0 : lw_At p s m meth c b L xs) (hbx : s.heap.size ≤ bx) (hbm : bx + 93 ≤ bm) (hK : zK E s) (hO : zO s ∧ zZ G (fun q => s.heap.size ≤ q) s s.heap) (hG : GG E bx bm mi ko T M I H) (hS : va_S (fun q => s.heap.size ≤ q) s.heap H locs) (hls : ls.size = 4) (hW : (rest.map fun v => v.category).sum ≤ 8) (hlk : Cond.methodLink RL idx yX11_meet ∈ zb) (hd : decode cL_law pc = .ok (.invokevirtual idx, 3))
    (kk : ∀ (r : Int32) (M' : Nat → Nat → Int32) (H : Heap) (locs : List Loc), (M' = M) → GG E bx bm mi ko T M' I H → va_S (fun q => s.heap.size ≤ q) s.heap H locs → W p l e room_1 s m #[Value.ref b] below meth c H locs cells slots (lw_Z below #[Value.ref b] s) (F0 m (pc + 3) ls (.int r :: rest))) : W p l e room_1 s m #[Value.ref b] below meth c H locs cells slots (lw_Z below #[Value.ref b] s) (F0 m pc ls (.int a4 :: .int a3 :: .int a2 :: .int a1 :: .ref bm :: rest)) := by
  obtain ⟨hx, hb, hr, hml, hown, hts, hX0, hbl, hlocks, hgv⟩ := id C0
  have zc : zC p s m #[Value.ref b] meth c cL_law 4 RL ret := ⟨hx, hb, hml, hown, fun w hw => hts w (zb_in hw), hr, hlocks⟩
  obtain ⟨hXS, hMS, hE, hT, hMT⟩ := hG
  obtain ⟨S, V, f_word, a_rest, hI, hM⟩ := id hMS
  refine zVx_i [.int a1, .int a2, .int a3, .int a4] rest zc ky_X11_meet kz_X11_meet hlk (c_m_meet l (post := (fun r f_code f_land f_huts f_singers a_far => (iv 0 0 f_code) ∧ (iv 0 1 f_land) ∧ (iv 0 9 f_huts) ∧ (iv 0 6 f_singers) ∧ (∀ j, iv 0 1000000 (a_far j)))) (s_m_meet_0 (hI.1 0) (hMT.2.2.1) (hMT.2.2.2.1) (hI.1 12) (hI.1 13) (hI.1 14) (hI.2 13) (fun _ _ _ _ _ _ _ h1 h2 h3 h4 h5 => ⟨h1, h2, h3, h4, h5⟩))) (mPreV0 hK hM) hS (fun q (h : mA bm q) => Nat.le_trans hbx (Nat.le_trans (Nat.le_trans (Nat.le_add_right bx 93) hbm) h.1)) rfl rfl hls hW ⟨rfl, rfl⟩ ⟨(Nat.le_of_ble_eq_true rfl), (Nat.le_of_ble_eq_true rfl)⟩ hcs hd (fun r u H1 locs1 hw h9 hk hS => ?_)
  obtain ⟨f_code, f_land, f_huts, f_singers, a_far⟩ := u
  obtain ⟨n_f_code, n_f_land, n_f_huts, n_f_singers, n_a_far⟩ := hw
  exact kk r _ _ _ rfl ⟨XS_kp hXS (fun z h1 h2 h3 => hk z h1 (fun (hA : mA bm z) => zap hbm hA.1 h3)), MS_of1 (M := M) h9 n_f_code n_f_land n_f_huts n_f_singers (hI.2 2) (hI.2 3) (hI.2 4) (hI.2 6) (hI.1 16) (hI.2 7) (hI.2 8) (hI.2 12) n_a_far (hI.2 14) (hI.1 21) (hI.2 16), lE_kp hE (fun z h1 h2 => hk z h1 (fun (hA : mA bm z) => absurd hA.2 (Nat.not_lt.mpr h2))), hT, hMT⟩ hS

set_option maxRecDepth 40000 in
set_option maxHeartbeats 4000000 in
theorem gm_mutes {p : Program} {l : Launch} {e : Env} {s : State} {m : MethodId} {below : List Frame} {meth : Method} {c : Code} {E : zE} {G : zG} {b L bx bm cells slots : Nat} {xs : Nat → Int32} {mi : Nat → Option Nat} {ko : Option Nat} {T : TT} {M : Nat → Nat → Int32} {I : Nat → TT} {H : Heap} {locs : List Loc} {ls : Array Slot} {pc idx : Nat} {a1 a2 a3 : Int32} (rest : List Value) (hcs : cells ≤ room_1.cells ∧ slots ≤ room_1.slots) (C0 : lw_At p s m meth c b L xs) (hbx : s.heap.size ≤ bx) (hbm : bx + 93 ≤ bm) (hK : zK E s) (hO : zO s ∧ zZ G (fun q => s.heap.size ≤ q) s s.heap) (hG : GG E bx bm mi ko T M I H) (hS : va_S (fun q => s.heap.size ≤ q) s.heap H locs) (hls : ls.size = 4) (hW : (rest.map fun v => v.category).sum ≤ 8) (hlk : Cond.methodLink RL idx yX11_mutes ∈ zb) (hd : decode cL_law pc = .ok (.invokevirtual idx, 3))
    (kk : ∀ (r : Int32) (M' : Nat → Nat → Int32) (H : Heap) (locs : List Loc), (M' = M) → GG E bx bm mi ko T M' I H → va_S (fun q => s.heap.size ≤ q) s.heap H locs → W p l e room_1 s m #[Value.ref b] below meth c H locs cells slots (lw_Z below #[Value.ref b] s) (F0 m (pc + 3) ls (.int r :: rest))) : W p l e room_1 s m #[Value.ref b] below meth c H locs cells slots (lw_Z below #[Value.ref b] s) (F0 m pc ls (.int a3 :: .int a2 :: .int a1 :: .ref bm :: rest)) := by
  obtain ⟨hx, hb, hr, hml, hown, hts, hX0, hbl, hlocks, hgv⟩ := id C0
  have zc : zC p s m #[Value.ref b] meth c cL_law 4 RL ret := ⟨hx, hb, hml, hown, fun w hw => hts w (zb_in hw), hr, hlocks⟩
  obtain ⟨hXS, hMS, hE, hT, hMT⟩ := hG
  obtain ⟨S, V, f_word, a_rest, hI, hM⟩ := id hMS
  refine zVx_i [.int a1, .int a2, .int a3] rest zc ky_X11_mutes kz_X11_mutes hlk (c_m_mutes l (post := (fun r f_code f_land f_huts f_singers a_run => (iv 0 0 f_code) ∧ (iv 0 1 f_land) ∧ (iv 0 9 f_huts) ∧ (iv 0 6 f_singers) ∧ (∀ j, iv 0 1000000 (a_run j)))) (s_m_mutes_0 (hI.1 0) (hMT.2.2.1) (hMT.2.2.2.1) (hI.1 12) (hI.1 13) (hI.1 14) (hI.2 7) (fun _ _ _ _ _ _ h0 h1 h2 h3 h4 => ⟨h0, h1, h2, h3, h4⟩))) (mPreV0 hK hM) hS (fun q (h : mA bm q) => Nat.le_trans hbx (Nat.le_trans (Nat.le_trans (Nat.le_add_right bx 93) hbm) h.1)) rfl rfl hls hW ⟨rfl, rfl⟩ ⟨(Nat.le_of_ble_eq_true rfl), (Nat.le_of_ble_eq_true rfl)⟩ hcs hd (fun r u H1 locs1 hw h9 hk hS => ?_)
  obtain ⟨f_code, f_land, f_huts, f_singers, a_run⟩ := u
  obtain ⟨n_f_code, n_f_land, n_f_huts, n_f_singers, n_a_run⟩ := hw
  exact kk r _ _ _ rfl ⟨XS_kp hXS (fun z h1 h2 h3 => hk z h1 (fun (hA : mA bm z) => zap hbm hA.1 h3)), MS_of1 (M := M) h9 n_f_code n_f_land n_f_huts n_f_singers (hI.2 2) (hI.2 3) (hI.2 4) (hI.2 6) (hI.1 16) n_a_run (hI.2 8) (hI.2 12) (hI.2 13) (hI.2 14) (hI.1 21) (hI.2 16), lE_kp hE (fun z h1 h2 => hk z h1 (fun (hA : mA bm z) => absurd hA.2 (Nat.not_lt.mpr h2))), hT, hMT⟩ hS

set_option maxRecDepth 40000 in
set_option maxHeartbeats 4000000 in
theorem gm_odds {p : Program} {l : Launch} {e : Env} {s : State} {m : MethodId} {below : List Frame} {meth : Method} {c : Code} {E : zE} {G : zG} {b L bx bm cells slots : Nat} {xs : Nat → Int32} {mi : Nat → Option Nat} {ko : Option Nat} {T : TT} {M : Nat → Nat → Int32} {I : Nat → TT} {H : Heap} {locs : List Loc} {ls : Array Slot} {pc idx : Nat} {a1 a2 a3 : Int32} (rest : List Value) (hcs : cells ≤ room_1.cells ∧ slots ≤ room_1.slots) (C0 : lw_At p s m meth c b L xs) (hbx : s.heap.size ≤ bx) (hbm : bx + 93 ≤ bm) (hK : zK E s) (hO : zO s ∧ zZ G (fun q => s.heap.size ≤ q) s s.heap) (hG : GG E bx bm mi ko T M I H) (hS : va_S (fun q => s.heap.size ≤ q) s.heap H locs) (hls : ls.size = 4) (hW : (rest.map fun v => v.category).sum ≤ 8) (hlk : Cond.methodLink RL idx yX11_odds ∈ zb) (hd : decode cL_law pc = .ok (.invokevirtual idx, 3))
    (kk : ∀ (r : Int64) (M' : Nat → Nat → Int32) (H : Heap) (locs : List Loc), (M' = M) → GG E bx bm mi ko T M' I H → va_S (fun q => s.heap.size ≤ q) s.heap H locs → W p l e room_1 s m #[Value.ref b] below meth c H locs cells slots (lw_Z below #[Value.ref b] s) (F0 m (pc + 3) ls (.long r :: rest))) : W p l e room_1 s m #[Value.ref b] below meth c H locs cells slots (lw_Z below #[Value.ref b] s) (F0 m pc ls (.int a3 :: .int a2 :: .int a1 :: .ref bm :: rest)) := by
  obtain ⟨hx, hb, hr, hml, hown, hts, hX0, hbl, hlocks, hgv⟩ := id C0
  have zc : zC p s m #[Value.ref b] meth c cL_law 4 RL ret := ⟨hx, hb, hml, hown, fun w hw => hts w (zb_in hw), hr, hlocks⟩
  obtain ⟨hXS, hMS, hE, hT, hMT⟩ := hG
  obtain ⟨S, V, f_word, a_rest, hI, hM⟩ := id hMS
  refine zVx_l [.int a1, .int a2, .int a3] rest zc ky_X11_odds kz_X11_odds hlk (c_m_odds l (post := (fun r f_code f_land f_huts f_singers f_evening a_at a_knows a_climbed a_snow a_level f_begun f_minute f_avalanches => (iv 0 0 f_code) ∧ (iv 0 1 f_land) ∧ (iv 0 9 f_huts) ∧ (iv 0 6 f_singers) ∧ (∀ j, iv 0 8 (a_at j)) ∧ (∀ j, iv 0 31 (a_knows j)) ∧ (∀ j, iv 0 1 (a_climbed j)) ∧ (∀ j, iv (-9) 108 (a_level j)) ∧ (iv 0 31 f_begun))) (s_m_odds_0 (hI.1 0) (hMT.2.2.1) (hMT.2.2.2.1) (hMT.2.2.2.2.1) (hI.1 12) (hI.1 13) (hI.1 14) (hI.2 2) (hI.2 3) (hI.2 4) (hI.2 6) (hI.1 16) (fun _ _ _ _ _ _ _ _ _ _ _ _ _ _ h0 h1 h2 h3 h4 h5 h6 h7 h8 => ⟨h0, h1, h2, h3, h4, h5, h6, h7, h8⟩))) (mPreV0 hK hM) hS (fun q (h : mA bm q) => Nat.le_trans hbx (Nat.le_trans (Nat.le_trans (Nat.le_add_right bx 93) hbm) h.1)) rfl rfl hls hW ⟨rfl, rfl⟩ ⟨(Nat.le_of_ble_eq_true rfl), (Nat.le_of_ble_eq_true rfl)⟩ hcs hd (fun r u H1 locs1 hw h9 hk hS => ?_)
  obtain ⟨f_code, f_land, f_huts, f_singers, f_evening, a_at, a_knows, a_climbed, a_snow, a_level, f_begun, f_minute, f_avalanches⟩ := u
  obtain ⟨n_f_code, n_f_land, n_f_huts, n_f_singers, n_a_at, n_a_knows, n_a_climbed, n_a_level, n_f_begun⟩ := hw
  exact kk r _ _ _ rfl ⟨XS_kp hXS (fun z h1 h2 h3 => hk z h1 (fun (hA : mA bm z) => zap hbm hA.1 h3)), MS_of1 (M := M) h9 n_f_code n_f_land n_f_huts n_f_singers n_a_at n_a_knows n_a_climbed n_a_level n_f_begun (hI.2 7) (hI.2 8) (hI.2 12) (hI.2 13) (hI.2 14) (hI.1 21) (hI.2 16), lE_kp hE (fun z h1 h2 => hk z h1 (fun (hA : mA bm z) => absurd hA.2 (Nat.not_lt.mpr h2))), hT, hMT⟩ hS

set_option maxRecDepth 40000 in
set_option maxHeartbeats 4000000 in
theorem gm_order {p : Program} {l : Launch} {e : Env} {s : State} {m : MethodId} {below : List Frame} {meth : Method} {c : Code} {E : zE} {G : zG} {b L bx bm cells slots : Nat} {xs : Nat → Int32} {mi : Nat → Option Nat} {ko : Option Nat} {T : TT} {M : Nat → Nat → Int32} {I : Nat → TT} {H : Heap} {locs : List Loc} {ls : Array Slot} {pc idx : Nat} {a1 a2 : Int32} (rest : List Value) (hcs : cells ≤ room_1.cells ∧ slots ≤ room_1.slots) (C0 : lw_At p s m meth c b L xs) (hbx : s.heap.size ≤ bx) (hbm : bx + 93 ≤ bm) (hK : zK E s) (hO : zO s ∧ zZ G (fun q => s.heap.size ≤ q) s s.heap) (hG : GG E bx bm mi ko T M I H) (hS : va_S (fun q => s.heap.size ≤ q) s.heap H locs) (hls : ls.size = 4) (hW : (rest.map fun v => v.category).sum ≤ 8) (hlk : Cond.methodLink RL idx yX11_order ∈ zb) (hd : decode cL_law pc = .ok (.invokevirtual idx, 3))
    (kk : ∀ (r : Int32) (M' : Nat → Nat → Int32) (H : Heap) (locs : List Loc), (M' = M) → GG E bx bm mi ko T M' I H → va_S (fun q => s.heap.size ≤ q) s.heap H locs → W p l e room_1 s m #[Value.ref b] below meth c H locs cells slots (lw_Z below #[Value.ref b] s) (F0 m (pc + 3) ls (.int r :: rest))) : W p l e room_1 s m #[Value.ref b] below meth c H locs cells slots (lw_Z below #[Value.ref b] s) (F0 m pc ls (.int a2 :: .int a1 :: .ref bm :: rest)) := by
  obtain ⟨hx, hb, hr, hml, hown, hts, hX0, hbl, hlocks, hgv⟩ := id C0
  have zc : zC p s m #[Value.ref b] meth c cL_law 4 RL ret := ⟨hx, hb, hml, hown, fun w hw => hts w (zb_in hw), hr, hlocks⟩
  obtain ⟨hXS, hMS, hE, hT, hMT⟩ := hG
  obtain ⟨S, V, f_word, a_rest, hI, hM⟩ := id hMS
  refine zVx_i [.int a1, .int a2] rest zc ky_X11_order kz_X11_order hlk (c_m_order l (post := (fun r f_code f_choir f_voices a_rest => (iv 0 0 f_code) ∧ (iv 0 9 f_voices))) (s_m_order_0 (hI.1 0) (hMT.2.2.1) (hMT.2.2.2.2.2.2.1) (hI.1 21) (fun _ _ _ _ _ h0 h1 => ⟨h0, h1⟩))) (mPreV0 hK hM) hS (fun q (h : mA bm q) => Nat.le_trans hbx (Nat.le_trans (Nat.le_trans (Nat.le_add_right bx 93) hbm) h.1)) rfl rfl hls hW ⟨rfl, rfl⟩ ⟨(Nat.le_of_ble_eq_true rfl), (Nat.le_of_ble_eq_true rfl)⟩ hcs hd (fun r u H1 locs1 hw h9 hk hS => ?_)
  obtain ⟨f_code, f_choir, f_voices, a_rest⟩ := u
  obtain ⟨n_f_code, n_f_voices⟩ := hw
  exact kk r _ _ _ rfl ⟨XS_kp hXS (fun z h1 h2 h3 => hk z h1 (fun (hA : mA bm z) => zap hbm hA.1 h3)), MS_of1 (M := M) h9 n_f_code (hI.1 12) (hI.1 13) (hI.1 14) (hI.2 2) (hI.2 3) (hI.2 4) (hI.2 6) (hI.1 16) (hI.2 7) (hI.2 8) (hI.2 12) (hI.2 13) (hI.2 14) n_f_voices (hI.2 16), lE_kp hE (fun z h1 h2 => hk z h1 (fun (hA : mA bm z) => absurd hA.2 (Nat.not_lt.mpr h2))), hT, hMT⟩ hS

set_option maxRecDepth 40000 in
set_option maxHeartbeats 4000000 in
theorem gm_orders {p : Program} {l : Launch} {e : Env} {s : State} {m : MethodId} {below : List Frame} {meth : Method} {c : Code} {E : zE} {G : zG} {b L bx bm cells slots : Nat} {xs : Nat → Int32} {mi : Nat → Option Nat} {ko : Option Nat} {T : TT} {M : Nat → Nat → Int32} {I : Nat → TT} {H : Heap} {locs : List Loc} {ls : Array Slot} {pc idx : Nat} {a1 : Int32} (rest : List Value) (hcs : cells ≤ room_1.cells ∧ slots ≤ room_1.slots) (C0 : lw_At p s m meth c b L xs) (hbx : s.heap.size ≤ bx) (hbm : bx + 93 ≤ bm) (hK : zK E s) (hO : zO s ∧ zZ G (fun q => s.heap.size ≤ q) s s.heap) (hG : GG E bx bm mi ko T M I H) (hS : va_S (fun q => s.heap.size ≤ q) s.heap H locs) (hls : ls.size = 4) (hW : (rest.map fun v => v.category).sum ≤ 8) (hlk : Cond.methodLink RL idx yX11_orders ∈ zb) (hd : decode cL_law pc = .ok (.invokevirtual idx, 3))
    (kk : ∀ (r : Int64) (M' : Nat → Nat → Int32) (H : Heap) (locs : List Loc), (M' = M) → GG E bx bm mi ko T M' I H → va_S (fun q => s.heap.size ≤ q) s.heap H locs → W p l e room_1 s m #[Value.ref b] below meth c H locs cells slots (lw_Z below #[Value.ref b] s) (F0 m (pc + 3) ls (.long r :: rest))) : W p l e room_1 s m #[Value.ref b] below meth c H locs cells slots (lw_Z below #[Value.ref b] s) (F0 m pc ls (.int a1 :: .ref bm :: rest)) := by
  obtain ⟨hx, hb, hr, hml, hown, hts, hX0, hbl, hlocks, hgv⟩ := id C0
  have zc : zC p s m #[Value.ref b] meth c cL_law 4 RL ret := ⟨hx, hb, hml, hown, fun w hw => hts w (zb_in hw), hr, hlocks⟩
  obtain ⟨hXS, hMS, hE, hT, hMT⟩ := hG
  obtain ⟨S, V, f_word, a_rest, hI, hM⟩ := id hMS
  refine zVx_l [.int a1] rest zc ky_X11_orders kz_X11_orders hlk (c_m_orders l (post := (fun r f_code f_choir f_voices a_rest => (iv 0 0 f_code) ∧ (iv 0 9 f_voices))) (s_m_orders_0 (hI.1 0) (hMT.2.2.1) (hMT.2.2.2.2.2.2.1) (hI.1 21) (fun _ _ _ _ _ h0 h1 => ⟨h0, h1⟩))) (mPreV0 hK hM) hS (fun q (h : mA bm q) => Nat.le_trans hbx (Nat.le_trans (Nat.le_trans (Nat.le_add_right bx 93) hbm) h.1)) rfl rfl hls hW ⟨rfl, rfl⟩ ⟨(Nat.le_of_ble_eq_true rfl), (Nat.le_of_ble_eq_true rfl)⟩ hcs hd (fun r u H1 locs1 hw h9 hk hS => ?_)
  obtain ⟨f_code, f_choir, f_voices, a_rest⟩ := u
  obtain ⟨n_f_code, n_f_voices⟩ := hw
  exact kk r _ _ _ rfl ⟨XS_kp hXS (fun z h1 h2 h3 => hk z h1 (fun (hA : mA bm z) => zap hbm hA.1 h3)), MS_of1 (M := M) h9 n_f_code (hI.1 12) (hI.1 13) (hI.1 14) (hI.2 2) (hI.2 3) (hI.2 4) (hI.2 6) (hI.1 16) (hI.2 7) (hI.2 8) (hI.2 12) (hI.2 13) (hI.2 14) n_f_voices (hI.2 16), lE_kp hE (fun z h1 h2 => hk z h1 (fun (hA : mA bm z) => absurd hA.2 (Nat.not_lt.mpr h2))), hT, hMT⟩ hS
end
section
set_option maxRecDepth 40000 in
set_option maxHeartbeats 4000000 in
theorem gm_psalm {p : Program} {l : Launch} {e : Env} {s : State} {m : MethodId} {below : List Frame} {meth : Method} {c : Code} {E : zE} {G : zG} {b L bx bm cells slots : Nat} {xs : Nat → Int32} {mi : Nat → Option Nat} {ko : Option Nat} {T : TT} {M : Nat → Nat → Int32} {I : Nat → TT} {H : Heap} {locs : List Loc} {ls : Array Slot} {pc idx : Nat} {a1 a2 a3 a4 : Int32} (rest : List Value) (hcs : cells ≤ room_1.cells ∧ slots ≤ room_1.slots) (C0 : lw_At p s m meth c b L xs) (hbx : s.heap.size ≤ bx) (hbm : bx + 93 ≤ bm) (hK : zK E s) (hO : zO s ∧ zZ G (fun q => s.heap.size ≤ q) s s.heap) (hG : GG E bx bm mi ko T M I H) (hS : va_S (fun q => s.heap.size ≤ q) s.heap H locs) (hls : ls.size = 4) (hW : (rest.map fun v => v.category).sum ≤ 8) (hlk : Cond.methodLink RL idx yX11_psalm ∈ zb) (hd : decode cL_law pc = .ok (.invokevirtual idx, 3))
    (kk : ∀ (r : Int32) (M' : Nat → Nat → Int32) (H : Heap) (locs : List Loc), (M' = M) → GG E bx bm mi ko T M' I H → va_S (fun q => s.heap.size ≤ q) s.heap H locs → W p l e room_1 s m #[Value.ref b] below meth c H locs cells slots (lw_Z below #[Value.ref b] s) (F0 m (pc + 3) ls (.int r :: rest))) : W p l e room_1 s m #[Value.ref b] below meth c H locs cells slots (lw_Z below #[Value.ref b] s) (F0 m pc ls (.int a4 :: .int a3 :: .int a2 :: .int a1 :: .ref bm :: rest)) := by
  obtain ⟨hx, hb, hr, hml, hown, hts, hX0, hbl, hlocks, hgv⟩ := id C0
  have zc : zC p s m #[Value.ref b] meth c cL_law 4 RL ret := ⟨hx, hb, hml, hown, fun w hw => hts w (zb_in hw), hr, hlocks⟩
  obtain ⟨hXS, hMS, hE, hT, hMT⟩ := hG
  obtain ⟨S, V, f_word, a_rest, hI, hM⟩ := id hMS
  refine zVx_i [.int a1, .int a2, .int a3, .int a4] rest zc ky_X11_psalm kz_X11_psalm hlk (c_m_psalm l (post := (fun r f_code f_land f_huts f_singers a_run => (iv 0 0 f_code) ∧ (iv 0 1 f_land) ∧ (iv 0 9 f_huts) ∧ (iv 0 6 f_singers) ∧ (∀ j, iv 0 1000000 (a_run j)))) (s_m_psalm_0 (hI.1 0) (hMT.2.2.1) (hMT.2.2.2.1) (hI.1 12) (hI.1 13) (hI.1 14) (hI.2 7) (fun _ _ _ _ _ _ _ h1 h2 h3 h4 h5 => ⟨h1, h2, h3, h4, h5⟩))) (mPreV0 hK hM) hS (fun q (h : mA bm q) => Nat.le_trans hbx (Nat.le_trans (Nat.le_trans (Nat.le_add_right bx 93) hbm) h.1)) rfl rfl hls hW ⟨rfl, rfl⟩ ⟨(Nat.le_of_ble_eq_true rfl), (Nat.le_of_ble_eq_true rfl)⟩ hcs hd (fun r u H1 locs1 hw h9 hk hS => ?_)
  obtain ⟨f_code, f_land, f_huts, f_singers, a_run⟩ := u
  obtain ⟨n_f_code, n_f_land, n_f_huts, n_f_singers, n_a_run⟩ := hw
  exact kk r _ _ _ rfl ⟨XS_kp hXS (fun z h1 h2 h3 => hk z h1 (fun (hA : mA bm z) => zap hbm hA.1 h3)), MS_of1 (M := M) h9 n_f_code n_f_land n_f_huts n_f_singers (hI.2 2) (hI.2 3) (hI.2 4) (hI.2 6) (hI.1 16) n_a_run (hI.2 8) (hI.2 12) (hI.2 13) (hI.2 14) (hI.1 21) (hI.2 16), lE_kp hE (fun z h1 h2 => hk z h1 (fun (hA : mA bm z) => absurd hA.2 (Nat.not_lt.mpr h2))), hT, hMT⟩ hS

set_option maxRecDepth 40000 in
set_option maxHeartbeats 4000000 in
theorem gm_routes {p : Program} {l : Launch} {e : Env} {s : State} {m : MethodId} {below : List Frame} {meth : Method} {c : Code} {E : zE} {G : zG} {b L bx bm cells slots : Nat} {xs : Nat → Int32} {mi : Nat → Option Nat} {ko : Option Nat} {T : TT} {M : Nat → Nat → Int32} {I : Nat → TT} {H : Heap} {locs : List Loc} {ls : Array Slot} {pc idx : Nat} {a1 a2 a3 a4 : Int32} (rest : List Value) (hcs : cells ≤ room_1.cells ∧ slots ≤ room_1.slots) (C0 : lw_At p s m meth c b L xs) (hbx : s.heap.size ≤ bx) (hbm : bx + 93 ≤ bm) (hK : zK E s) (hO : zO s ∧ zZ G (fun q => s.heap.size ≤ q) s s.heap) (hG : GG E bx bm mi ko T M I H) (hS : va_S (fun q => s.heap.size ≤ q) s.heap H locs) (hls : ls.size = 4) (hW : (rest.map fun v => v.category).sum ≤ 8) (hlk : Cond.methodLink RL idx yX11_routes ∈ zb) (hd : decode cL_law pc = .ok (.invokevirtual idx, 3))
    (kk : ∀ (r : Int32) (M' : Nat → Nat → Int32) (H : Heap) (locs : List Loc), (M' = M) → GG E bx bm mi ko T M' I H → va_S (fun q => s.heap.size ≤ q) s.heap H locs → W p l e room_1 s m #[Value.ref b] below meth c H locs cells slots (lw_Z below #[Value.ref b] s) (F0 m (pc + 3) ls (.int r :: rest))) : W p l e room_1 s m #[Value.ref b] below meth c H locs cells slots (lw_Z below #[Value.ref b] s) (F0 m pc ls (.int a4 :: .int a3 :: .int a2 :: .int a1 :: .ref bm :: rest)) := by
  obtain ⟨hx, hb, hr, hml, hown, hts, hX0, hbl, hlocks, hgv⟩ := id C0
  have zc : zC p s m #[Value.ref b] meth c cL_law 4 RL ret := ⟨hx, hb, hml, hown, fun w hw => hts w (zb_in hw), hr, hlocks⟩
  obtain ⟨hXS, hMS, hE, hT, hMT⟩ := hG
  obtain ⟨S, V, f_word, a_rest, hI, hM⟩ := id hMS
  refine zVx_i [.int a1, .int a2, .int a3, .int a4] rest zc ky_X11_routes kz_X11_routes hlk (c_m_routes l (post := (fun r f_code f_land f_huts f_singers a_routes a_longest a_steep a_laid => (iv 0 0 f_code) ∧ (iv 0 1 f_land) ∧ (iv 0 9 f_huts) ∧ (iv 0 6 f_singers) ∧ (∀ j, iv 0 1 (a_laid j)))) (s_m_routes_0 (hI.1 0) (hMT.2.2.1) (hMT.2.2.2.1) (hI.1 12) (hI.1 13) (hI.1 14) (hI.2 12) (fun _ _ _ _ _ _ _ _ _ h0 h1 h2 h3 h4 => ⟨h0, h1, h2, h3, h4⟩))) (mPreV0 hK hM) hS (fun q (h : mA bm q) => Nat.le_trans hbx (Nat.le_trans (Nat.le_trans (Nat.le_add_right bx 93) hbm) h.1)) rfl rfl hls hW ⟨rfl, rfl⟩ ⟨(Nat.le_of_ble_eq_true rfl), (Nat.le_of_ble_eq_true rfl)⟩ hcs hd (fun r u H1 locs1 hw h9 hk hS => ?_)
  obtain ⟨f_code, f_land, f_huts, f_singers, a_routes, a_longest, a_steep, a_laid⟩ := u
  obtain ⟨n_f_code, n_f_land, n_f_huts, n_f_singers, n_a_laid⟩ := hw
  exact kk r _ _ _ rfl ⟨XS_kp hXS (fun z h1 h2 h3 => hk z h1 (fun (hA : mA bm z) => zap hbm hA.1 h3)), MS_of1 (M := M) h9 n_f_code n_f_land n_f_huts n_f_singers (hI.2 2) (hI.2 3) (hI.2 4) (hI.2 6) (hI.1 16) (hI.2 7) (hI.2 8) n_a_laid (hI.2 13) (hI.2 14) (hI.1 21) (hI.2 16), lE_kp hE (fun z h1 h2 => hk z h1 (fun (hA : mA bm z) => absurd hA.2 (Nat.not_lt.mpr h2))), hT, hMT⟩ hS

set_option maxRecDepth 40000 in
set_option maxHeartbeats 4000000 in
theorem gm_slopes {p : Program} {l : Launch} {e : Env} {s : State} {m : MethodId} {below : List Frame} {meth : Method} {c : Code} {E : zE} {G : zG} {b L bx bm cells slots : Nat} {xs : Nat → Int32} {mi : Nat → Option Nat} {ko : Option Nat} {T : TT} {M : Nat → Nat → Int32} {I : Nat → TT} {H : Heap} {locs : List Loc} {ls : Array Slot} {pc idx : Nat} {a1 a2 : Int32} (rest : List Value) (hcs : cells ≤ room_1.cells ∧ slots ≤ room_1.slots) (C0 : lw_At p s m meth c b L xs) (hbx : s.heap.size ≤ bx) (hbm : bx + 93 ≤ bm) (hK : zK E s) (hO : zO s ∧ zZ G (fun q => s.heap.size ≤ q) s s.heap) (hG : GG E bx bm mi ko T M I H) (hS : va_S (fun q => s.heap.size ≤ q) s.heap H locs) (hls : ls.size = 4) (hW : (rest.map fun v => v.category).sum ≤ 8) (hlk : Cond.methodLink RL idx yX11_slopes ∈ zb) (hd : decode cL_law pc = .ok (.invokevirtual idx, 3))
    (kk : ∀ (r : Int32) (M' : Nat → Nat → Int32) (H : Heap) (locs : List Loc), (M' = M) → GG E bx bm mi ko T M' I H → va_S (fun q => s.heap.size ≤ q) s.heap H locs → W p l e room_1 s m #[Value.ref b] below meth c H locs cells slots (lw_Z below #[Value.ref b] s) (F0 m (pc + 3) ls (.int r :: rest))) : W p l e room_1 s m #[Value.ref b] below meth c H locs cells slots (lw_Z below #[Value.ref b] s) (F0 m pc ls (.int a2 :: .int a1 :: .ref bm :: rest)) := by
  obtain ⟨hx, hb, hr, hml, hown, hts, hX0, hbl, hlocks, hgv⟩ := id C0
  have zc : zC p s m #[Value.ref b] meth c cL_law 4 RL ret := ⟨hx, hb, hml, hown, fun w hw => hts w (zb_in hw), hr, hlocks⟩
  obtain ⟨hXS, hMS, hE, hT, hMT⟩ := hG
  obtain ⟨S, V, f_word, a_rest, hI, hM⟩ := id hMS
  refine zVx_i [.int a1, .int a2] rest zc ky_X11_slopes kz_X11_slopes hlk (c_m_slopes l (post := (fun r f_code f_land f_huts f_singers a_run a_routes a_longest a_steep a_laid => (iv 0 0 f_code) ∧ (iv 0 1 f_land) ∧ (iv 0 9 f_huts) ∧ (iv 0 6 f_singers) ∧ (∀ j, iv 0 1000000 (a_run j)) ∧ (∀ j, iv 0 1 (a_laid j)))) (s_m_slopes_0 (hI.1 0) (hMT.2.2.1) (hMT.2.2.2.1) (hI.1 12) (hI.1 13) (hI.1 14) (hI.2 7) (hI.2 12) (fun _ _ _ _ _ _ _ _ _ _ h0 h1 h2 h3 h4 h5 => ⟨h0, h1, h2, h3, h4, h5⟩))) (mPreV0 hK hM) hS (fun q (h : mA bm q) => Nat.le_trans hbx (Nat.le_trans (Nat.le_trans (Nat.le_add_right bx 93) hbm) h.1)) rfl rfl hls hW ⟨rfl, rfl⟩ ⟨(Nat.le_of_ble_eq_true rfl), (Nat.le_of_ble_eq_true rfl)⟩ hcs hd (fun r u H1 locs1 hw h9 hk hS => ?_)
  obtain ⟨f_code, f_land, f_huts, f_singers, a_run, a_routes, a_longest, a_steep, a_laid⟩ := u
  obtain ⟨n_f_code, n_f_land, n_f_huts, n_f_singers, n_a_run, n_a_laid⟩ := hw
  exact kk r _ _ _ rfl ⟨XS_kp hXS (fun z h1 h2 h3 => hk z h1 (fun (hA : mA bm z) => zap hbm hA.1 h3)), MS_of1 (M := M) h9 n_f_code n_f_land n_f_huts n_f_singers (hI.2 2) (hI.2 3) (hI.2 4) (hI.2 6) (hI.1 16) n_a_run (hI.2 8) n_a_laid (hI.2 13) (hI.2 14) (hI.1 21) (hI.2 16), lE_kp hE (fun z h1 h2 => hk z h1 (fun (hA : mA bm z) => absurd hA.2 (Nat.not_lt.mpr h2))), hT, hMT⟩ hS

set_option maxRecDepth 40000 in
set_option maxHeartbeats 4000000 in
theorem gm_state {p : Program} {l : Launch} {e : Env} {s : State} {m : MethodId} {below : List Frame} {meth : Method} {c : Code} {E : zE} {G : zG} {b L bx bm cells slots : Nat} {xs : Nat → Int32} {mi : Nat → Option Nat} {ko : Option Nat} {T : TT} {M : Nat → Nat → Int32} {I : Nat → TT} {H : Heap} {locs : List Loc} {ls : Array Slot} {pc idx : Nat} {a1 a2 a3 a4 : Int32} (rest : List Value) (hcs : cells ≤ room_1.cells ∧ slots ≤ room_1.slots) (C0 : lw_At p s m meth c b L xs) (hbx : s.heap.size ≤ bx) (hbm : bx + 93 ≤ bm) (hK : zK E s) (hO : zO s ∧ zZ G (fun q => s.heap.size ≤ q) s s.heap) (hG : GG E bx bm mi ko T M I H) (hS : va_S (fun q => s.heap.size ≤ q) s.heap H locs) (hls : ls.size = 4) (hW : (rest.map fun v => v.category).sum ≤ 8) (hlk : Cond.methodLink RL idx yX11_state ∈ zb) (hd : decode cL_law pc = .ok (.invokevirtual idx, 3))
    (kk : ∀ (r : Int32) (M' : Nat → Nat → Int32) (H : Heap) (locs : List Loc), (M' = M) → GG E bx bm mi ko T M' I H → va_S (fun q => s.heap.size ≤ q) s.heap H locs → W p l e room_1 s m #[Value.ref b] below meth c H locs cells slots (lw_Z below #[Value.ref b] s) (F0 m (pc + 3) ls (.int r :: rest))) : W p l e room_1 s m #[Value.ref b] below meth c H locs cells slots (lw_Z below #[Value.ref b] s) (F0 m pc ls (.int a4 :: .int a3 :: .int a2 :: .int a1 :: .ref bm :: rest)) := by
  obtain ⟨hx, hb, hr, hml, hown, hts, hX0, hbl, hlocks, hgv⟩ := id C0
  have zc : zC p s m #[Value.ref b] meth c cL_law 4 RL ret := ⟨hx, hb, hml, hown, fun w hw => hts w (zb_in hw), hr, hlocks⟩
  obtain ⟨hXS, hMS, hE, hT, hMT⟩ := hG
  obtain ⟨S, V, f_word, a_rest, hI, hM⟩ := id hMS
  refine zVx_i [.int a1, .int a2, .int a3, .int a4] rest zc ky_X11_state kz_X11_state hlk (c_m_state l (post := (fun r f_code f_land f_huts f_singers f_evening a_at a_knows a_climbed a_snow a_level f_begun f_minute f_avalanches => (iv 0 0 f_code) ∧ (iv 0 1 f_land) ∧ (iv 0 9 f_huts) ∧ (iv 0 6 f_singers) ∧ (∀ j, iv 0 8 (a_at j)) ∧ (∀ j, iv 0 31 (a_knows j)) ∧ (∀ j, iv 0 1 (a_climbed j)) ∧ (∀ j, iv (-9) 108 (a_level j)) ∧ (iv 0 31 f_begun))) (s_m_state_0 (hI.1 0) (hMT.2.2.1) (hMT.2.2.2.1) (hMT.2.2.2.2.1) (hI.1 12) (hI.1 13) (hI.1 14) (hI.2 2) (hI.2 3) (hI.2 4) (hI.2 6) (hI.1 16) (fun _ _ _ _ _ _ _ _ _ _ _ _ _ _ h0 h1 h2 h3 h4 h5 h6 h7 h8 => ⟨h0, h1, h2, h3, h4, h5, h6, h7, h8⟩))) (mPreV0 hK hM) hS (fun q (h : mA bm q) => Nat.le_trans hbx (Nat.le_trans (Nat.le_trans (Nat.le_add_right bx 93) hbm) h.1)) rfl rfl hls hW ⟨rfl, rfl⟩ ⟨(Nat.le_of_ble_eq_true rfl), (Nat.le_of_ble_eq_true rfl)⟩ hcs hd (fun r u H1 locs1 hw h9 hk hS => ?_)
  obtain ⟨f_code, f_land, f_huts, f_singers, f_evening, a_at, a_knows, a_climbed, a_snow, a_level, f_begun, f_minute, f_avalanches⟩ := u
  obtain ⟨n_f_code, n_f_land, n_f_huts, n_f_singers, n_a_at, n_a_knows, n_a_climbed, n_a_level, n_f_begun⟩ := hw
  exact kk r _ _ _ rfl ⟨XS_kp hXS (fun z h1 h2 h3 => hk z h1 (fun (hA : mA bm z) => zap hbm hA.1 h3)), MS_of1 (M := M) h9 n_f_code n_f_land n_f_huts n_f_singers n_a_at n_a_knows n_a_climbed n_a_level n_f_begun (hI.2 7) (hI.2 8) (hI.2 12) (hI.2 13) (hI.2 14) (hI.1 21) (hI.2 16), lE_kp hE (fun z h1 h2 => hk z h1 (fun (hA : mA bm z) => absurd hA.2 (Nat.not_lt.mpr h2))), hT, hMT⟩ hS

set_option maxRecDepth 40000 in
set_option maxHeartbeats 4000000 in
theorem gm_stop {p : Program} {l : Launch} {e : Env} {s : State} {m : MethodId} {below : List Frame} {meth : Method} {c : Code} {E : zE} {G : zG} {b L bx bm cells slots : Nat} {xs : Nat → Int32} {mi : Nat → Option Nat} {ko : Option Nat} {T : TT} {M : Nat → Nat → Int32} {I : Nat → TT} {H : Heap} {locs : List Loc} {ls : Array Slot} {pc idx : Nat} {a1 a2 : Int32} (rest : List Value) (hcs : cells ≤ room_1.cells ∧ slots ≤ room_1.slots) (C0 : lw_At p s m meth c b L xs) (hbx : s.heap.size ≤ bx) (hbm : bx + 93 ≤ bm) (hK : zK E s) (hO : zO s ∧ zZ G (fun q => s.heap.size ≤ q) s s.heap) (hG : GG E bx bm mi ko T M I H) (hS : va_S (fun q => s.heap.size ≤ q) s.heap H locs) (hls : ls.size = 4) (hW : (rest.map fun v => v.category).sum ≤ 8) (hlk : Cond.methodLink RL idx yX11_stop ∈ zb) (hd : decode cL_law pc = .ok (.invokevirtual idx, 3))
    (kk : ∀ (r : Int32) (M' : Nat → Nat → Int32) (H : Heap) (locs : List Loc), (M' = M) → GG E bx bm mi ko T M' I H → va_S (fun q => s.heap.size ≤ q) s.heap H locs → W p l e room_1 s m #[Value.ref b] below meth c H locs cells slots (lw_Z below #[Value.ref b] s) (F0 m (pc + 3) ls (.int r :: rest))) : W p l e room_1 s m #[Value.ref b] below meth c H locs cells slots (lw_Z below #[Value.ref b] s) (F0 m pc ls (.int a2 :: .int a1 :: .ref bm :: rest)) := by
  obtain ⟨hx, hb, hr, hml, hown, hts, hX0, hbl, hlocks, hgv⟩ := id C0
  have zc : zC p s m #[Value.ref b] meth c cL_law 4 RL ret := ⟨hx, hb, hml, hown, fun w hw => hts w (zb_in hw), hr, hlocks⟩
  obtain ⟨hXS, hMS, hE, hT, hMT⟩ := hG
  obtain ⟨S, V, f_word, a_rest, hI, hM⟩ := id hMS
  refine zVx_i [.int a1, .int a2] rest zc ky_X11_stop kz_X11_stop hlk (c_m_stop l (post := (fun r f_code f_land f_huts f_singers f_evening a_at a_knows a_climbed a_snow a_level f_begun f_minute f_avalanches => (iv 0 0 f_code) ∧ (iv 0 1 f_land) ∧ (iv 0 9 f_huts) ∧ (iv 0 6 f_singers) ∧ (∀ j, iv 0 8 (a_at j)) ∧ (∀ j, iv 0 31 (a_knows j)) ∧ (∀ j, iv 0 1 (a_climbed j)) ∧ (∀ j, iv (-9) 108 (a_level j)) ∧ (iv 0 31 f_begun))) (s_m_stop_0 (hI.1 0) (hMT.2.2.1) (hMT.2.2.2.1) (hMT.2.2.2.2.1) (hI.1 12) (hI.1 13) (hI.1 14) (hI.2 2) (hI.2 3) (hI.2 4) (hI.2 6) (hI.1 16) (fun _ _ _ _ _ _ _ _ _ _ _ _ _ _ _ h1 h2 h3 h4 h5 h6 h7 h8 h9 => ⟨h1, h2, h3, h4, h5, h6, h7, h8, h9⟩))) (mPreV0 hK hM) hS (fun q (h : mA bm q) => Nat.le_trans hbx (Nat.le_trans (Nat.le_trans (Nat.le_add_right bx 93) hbm) h.1)) rfl rfl hls hW ⟨rfl, rfl⟩ ⟨(Nat.le_of_ble_eq_true rfl), (Nat.le_of_ble_eq_true rfl)⟩ hcs hd (fun r u H1 locs1 hw h9 hk hS => ?_)
  obtain ⟨f_code, f_land, f_huts, f_singers, f_evening, a_at, a_knows, a_climbed, a_snow, a_level, f_begun, f_minute, f_avalanches⟩ := u
  obtain ⟨n_f_code, n_f_land, n_f_huts, n_f_singers, n_a_at, n_a_knows, n_a_climbed, n_a_level, n_f_begun⟩ := hw
  exact kk r _ _ _ rfl ⟨XS_kp hXS (fun z h1 h2 h3 => hk z h1 (fun (hA : mA bm z) => zap hbm hA.1 h3)), MS_of1 (M := M) h9 n_f_code n_f_land n_f_huts n_f_singers n_a_at n_a_knows n_a_climbed n_a_level n_f_begun (hI.2 7) (hI.2 8) (hI.2 12) (hI.2 13) (hI.2 14) (hI.1 21) (hI.2 16), lE_kp hE (fun z h1 h2 => hk z h1 (fun (hA : mA bm z) => absurd hA.2 (Nat.not_lt.mpr h2))), hT, hMT⟩ hS

set_option maxRecDepth 40000 in
set_option maxHeartbeats 4000000 in
theorem gm_teach {p : Program} {l : Launch} {e : Env} {s : State} {m : MethodId} {below : List Frame} {meth : Method} {c : Code} {E : zE} {G : zG} {b L bx bm cells slots : Nat} {xs : Nat → Int32} {mi : Nat → Option Nat} {ko : Option Nat} {T : TT} {M : Nat → Nat → Int32} {I : Nat → TT} {H : Heap} {locs : List Loc} {ls : Array Slot} {pc idx : Nat} {a1 a2 a3 a4 : Int32} (rest : List Value) (hcs : cells ≤ room_1.cells ∧ slots ≤ room_1.slots) (C0 : lw_At p s m meth c b L xs) (hbx : s.heap.size ≤ bx) (hbm : bx + 93 ≤ bm) (hK : zK E s) (hO : zO s ∧ zZ G (fun q => s.heap.size ≤ q) s s.heap) (hG : GG E bx bm mi ko T M I H) (hS : va_S (fun q => s.heap.size ≤ q) s.heap H locs) (hls : ls.size = 4) (hW : (rest.map fun v => v.category).sum ≤ 8) (hlk : Cond.methodLink RL idx yX11_teach ∈ zb) (hd : decode cL_law pc = .ok (.invokevirtual idx, 3))
    (kk : ∀ (r : Int32) (M' : Nat → Nat → Int32) (H : Heap) (locs : List Loc), (M' = M) → GG E bx bm mi ko T M' I H → va_S (fun q => s.heap.size ≤ q) s.heap H locs → W p l e room_1 s m #[Value.ref b] below meth c H locs cells slots (lw_Z below #[Value.ref b] s) (F0 m (pc + 3) ls (.int r :: rest))) : W p l e room_1 s m #[Value.ref b] below meth c H locs cells slots (lw_Z below #[Value.ref b] s) (F0 m pc ls (.int a4 :: .int a3 :: .int a2 :: .int a1 :: .ref bm :: rest)) := by
  obtain ⟨hx, hb, hr, hml, hown, hts, hX0, hbl, hlocks, hgv⟩ := id C0
  have zc : zC p s m #[Value.ref b] meth c cL_law 4 RL ret := ⟨hx, hb, hml, hown, fun w hw => hts w (zb_in hw), hr, hlocks⟩
  obtain ⟨hXS, hMS, hE, hT, hMT⟩ := hG
  obtain ⟨S, V, f_word, a_rest, hI, hM⟩ := id hMS
  refine zVx_i [.int a1, .int a2, .int a3, .int a4] rest zc ky_X11_teach kz_X11_teach hlk (c_m_teach l (post := (fun r f_code f_land f_huts f_singers f_evening a_at a_knows a_climbed a_snow a_level f_begun f_minute f_avalanches => (iv 0 0 f_code) ∧ (iv 0 1 f_land) ∧ (iv 0 9 f_huts) ∧ (iv 0 6 f_singers) ∧ (∀ j, iv 0 8 (a_at j)) ∧ (∀ j, iv 0 31 (a_knows j)) ∧ (∀ j, iv 0 1 (a_climbed j)) ∧ (∀ j, iv (-9) 108 (a_level j)) ∧ (iv 0 31 f_begun))) (s_m_teach_0 (hI.1 0) (hMT.2.2.1) (hMT.2.2.2.1) (hMT.2.2.2.2.1) (hI.1 12) (hI.1 13) (hI.1 14) (hI.2 2) (hI.2 3) (hI.2 4) (hI.2 6) (hI.1 16) (fun _ _ _ _ _ _ _ _ _ _ _ _ _ _ h0 h1 h2 h3 h4 h5 h6 h7 h8 => ⟨h0, h1, h2, h3, h4, h5, h6, h7, h8⟩))) (mPreV0 hK hM) hS (fun q (h : mA bm q) => Nat.le_trans hbx (Nat.le_trans (Nat.le_trans (Nat.le_add_right bx 93) hbm) h.1)) rfl rfl hls hW ⟨rfl, rfl⟩ ⟨(Nat.le_of_ble_eq_true rfl), (Nat.le_of_ble_eq_true rfl)⟩ hcs hd (fun r u H1 locs1 hw h9 hk hS => ?_)
  obtain ⟨f_code, f_land, f_huts, f_singers, f_evening, a_at, a_knows, a_climbed, a_snow, a_level, f_begun, f_minute, f_avalanches⟩ := u
  obtain ⟨n_f_code, n_f_land, n_f_huts, n_f_singers, n_a_at, n_a_knows, n_a_climbed, n_a_level, n_f_begun⟩ := hw
  exact kk r _ _ _ rfl ⟨XS_kp hXS (fun z h1 h2 h3 => hk z h1 (fun (hA : mA bm z) => zap hbm hA.1 h3)), MS_of1 (M := M) h9 n_f_code n_f_land n_f_huts n_f_singers n_a_at n_a_knows n_a_climbed n_a_level n_f_begun (hI.2 7) (hI.2 8) (hI.2 12) (hI.2 13) (hI.2 14) (hI.1 21) (hI.2 16), lE_kp hE (fun z h1 h2 => hk z h1 (fun (hA : mA bm z) => absurd hA.2 (Nat.not_lt.mpr h2))), hT, hMT⟩ hS

set_option maxRecDepth 40000 in
set_option maxHeartbeats 4000000 in
theorem gm_text {p : Program} {l : Launch} {e : Env} {s : State} {m : MethodId} {below : List Frame} {meth : Method} {c : Code} {E : zE} {G : zG} {b L bx bm cells slots : Nat} {xs : Nat → Int32} {mi : Nat → Option Nat} {ko : Option Nat} {T : TT} {M : Nat → Nat → Int32} {I : Nat → TT} {H : Heap} {locs : List Loc} {ls : Array Slot} {pc idx : Nat} {a1 a2 : Int32} (rest : List Value) (hcs : cells ≤ room_1.cells ∧ slots ≤ room_1.slots) (C0 : lw_At p s m meth c b L xs) (hbx : s.heap.size ≤ bx) (hbm : bx + 93 ≤ bm) (hK : zK E s) (hO : zO s ∧ zZ G (fun q => s.heap.size ≤ q) s s.heap) (hG : GG E bx bm mi ko T M I H) (hS : va_S (fun q => s.heap.size ≤ q) s.heap H locs) (hls : ls.size = 4) (hW : (rest.map fun v => v.category).sum ≤ 8) (hlk : Cond.methodLink RL idx yX11_text ∈ zb) (hd : decode cL_law pc = .ok (.invokevirtual idx, 3))
    (kk : ∀ (r : Int32) (M' : Nat → Nat → Int32) (H : Heap) (locs : List Loc), (mTX M M' a1 a2 r) → GG E bx bm mi ko T M' I H → va_S (fun q => s.heap.size ≤ q) s.heap H locs → W p l e room_1 s m #[Value.ref b] below meth c H locs cells slots (lw_Z below #[Value.ref b] s) (F0 m (pc + 3) ls (.int r :: rest))) : W p l e room_1 s m #[Value.ref b] below meth c H locs cells slots (lw_Z below #[Value.ref b] s) (F0 m pc ls (.int a2 :: .int a1 :: .ref bm :: rest)) := by
  obtain ⟨hx, hb, hr, hml, hown, hts, hX0, hbl, hlocks, hgv⟩ := id C0
  have zc : zC p s m #[Value.ref b] meth c cL_law 4 RL ret := ⟨hx, hb, hml, hown, fun w hw => hts w (zb_in hw), hr, hlocks⟩
  obtain ⟨hXS, hMS, hE, hT, hMT⟩ := hG
  obtain ⟨S, V, f_word, a_rest, hI, hM⟩ := id hMS
  refine zVx_i [.int a1, .int a2] rest zc ky_X11_text kz_X11_text hlk (c_m_text l (post := (fun r f_code a_size a_fault a_faultPlace a_many a_lands a_evenings a_sights a_choirs f_reached f_length f_begins f_sort f_value f_word f_wrongAt f_laterFault f_laterPlace a_told a_read f_farHut f_farSinger f_good => (mTX M (mmk (M 0) a_size a_fault a_faultPlace a_many a_lands a_evenings a_sights a_choirs (M 9)) a1 a2 r) ∧ (iv 0 0 f_code) ∧ (∀ j, iv 0 600 (a_size j)) ∧ (∀ j, iv 0 2 (a_many j)) ∧ (mLand a_lands) ∧ (mEve a_evenings) ∧ (mSig a_sights) ∧ (mCho a_choirs))) (cj_q_m_text_0 (post_1 := fun r f_code a_size a_fault a_faultPlace a_many a_lands a_evenings a_sights a_choirs f_reached f_length f_begins f_sort f_value f_word f_wrongAt f_laterFault f_laterPlace a_told a_read f_farHut f_farSinger f_good => mTX M (mmk (M 0) a_size a_fault a_faultPlace a_many a_lands a_evenings a_sights a_choirs (M 9)) a1 a2 r) (post_2 := (fun r f_code a_size a_fault a_faultPlace a_many a_lands a_evenings a_sights a_choirs f_reached f_length f_begins f_sort f_value f_word f_wrongAt f_laterFault f_laterPlace a_told a_read f_farHut f_farSinger f_good => (iv 0 0 f_code) ∧ (∀ j, iv 0 600 (a_size j)) ∧ (∀ j, iv 0 2 (a_many j)) ∧ (mLand a_lands) ∧ (mEve a_evenings) ∧ (mSig a_sights) ∧ (mCho a_choirs))) (post_3 := (fun r f_code a_size a_fault a_faultPlace a_many a_lands a_evenings a_sights a_choirs f_reached f_length f_begins f_sort f_value f_word f_wrongAt f_laterFault f_laterPlace a_told a_read f_farHut f_farSinger f_good => (mTX M (mmk (M 0) a_size a_fault a_faultPlace a_many a_lands a_evenings a_sights a_choirs (M 9)) a1 a2 r) ∧ (iv 0 0 f_code) ∧ (∀ j, iv 0 600 (a_size j)) ∧ (∀ j, iv 0 2 (a_many j)) ∧ (mLand a_lands) ∧ (mEve a_evenings) ∧ (mSig a_sights) ∧ (mCho a_choirs))) (fun _ _ _ _ _ _ _ _ _ _ _ _ _ _ _ _ _ _ _ _ _ _ _ _ a b => ⟨a, b⟩) (e_m_text2 (M := M) ((hMT.2.1) 0) (hMT.1) (hMT.2.2.1) (fun _ _ _ _ _ _ _ _ _ _ _ _ _ _ _ _ _ _ _ _ _ _ _ h => h)) (s_m_text_0 (hI.1 0) (hMT.1) (hMT.2.1) (hMT.2.2.1) (hMT.2.2.2.1) (hMT.2.2.2.2.1) (hMT.2.2.2.2.2.1) (hMT.2.2.2.2.2.2.1) (fun _ _ _ _ _ _ _ _ _ _ _ _ _ _ _ _ _ _ _ _ _ _ _ _ h0 h1 h2 h3 h4 h5 h6 => ⟨h0, h1, h2, h3, h4, h5, h6⟩)))) (mPreV0 hK hM) hS (fun q (h : mA bm q) => Nat.le_trans hbx (Nat.le_trans (Nat.le_trans (Nat.le_add_right bx 93) hbm) h.1)) rfl rfl hls hW ⟨rfl, rfl⟩ ⟨(Nat.le_of_ble_eq_true rfl), (Nat.le_of_ble_eq_true rfl)⟩ hcs hd (fun r u H1 locs1 hw h9 hk hS => ?_)
  obtain ⟨f_code, a_size, a_fault, a_faultPlace, a_many, a_lands, a_evenings, a_sights, a_choirs, f_reached, f_length, f_begins, f_sort, f_value, f_word, f_wrongAt, f_laterFault, f_laterPlace, a_told, a_read, f_farHut, f_farSinger, f_good⟩ := u
  obtain ⟨hrel, n_f_code, n_a_size, n_a_many, n_a_lands, n_a_evenings, n_a_sights, n_a_choirs⟩ := hw
  exact kk r (mmk (M 0) a_size a_fault a_faultPlace a_many a_lands a_evenings a_sights a_choirs (M 9)) _ _ hrel ⟨XS_kp hXS (fun z h1 h2 h3 => hk z h1 (fun (hA : mA bm z) => zap hbm hA.1 h3)), MS_of h9 n_f_code (hI.1 12) (hI.1 13) (hI.1 14) (hI.2 2) (hI.2 3) (hI.2 4) (hI.2 6) (hI.1 16) (hI.2 7) (hI.2 8) (hI.2 12) (hI.2 13) (hI.2 14) (hI.1 21) (hI.2 16), lE_kp hE (fun z h1 h2 => hk z h1 (fun (hA : mA bm z) => absurd hA.2 (Nat.not_lt.mpr h2))), hT, ⟨(hMT.1), n_a_size, n_a_many, n_a_lands, n_a_evenings, n_a_sights, n_a_choirs, (hMT.2.2.2.2.2.2.2)⟩⟩ hS

set_option maxRecDepth 40000 in
set_option maxHeartbeats 4000000 in
theorem gm_trade {p : Program} {l : Launch} {e : Env} {s : State} {m : MethodId} {below : List Frame} {meth : Method} {c : Code} {E : zE} {G : zG} {b L bx bm cells slots : Nat} {xs : Nat → Int32} {mi : Nat → Option Nat} {ko : Option Nat} {T : TT} {M : Nat → Nat → Int32} {I : Nat → TT} {H : Heap} {locs : List Loc} {ls : Array Slot} {pc idx : Nat} {a1 a2 a3 a4 : Int32} (rest : List Value) (hcs : cells ≤ room_1.cells ∧ slots ≤ room_1.slots) (C0 : lw_At p s m meth c b L xs) (hbx : s.heap.size ≤ bx) (hbm : bx + 93 ≤ bm) (hK : zK E s) (hO : zO s ∧ zZ G (fun q => s.heap.size ≤ q) s s.heap) (hG : GG E bx bm mi ko T M I H) (hS : va_S (fun q => s.heap.size ≤ q) s.heap H locs) (hls : ls.size = 4) (hW : (rest.map fun v => v.category).sum ≤ 8) (hlk : Cond.methodLink RL idx yX11_trade ∈ zb) (hd : decode cL_law pc = .ok (.invokevirtual idx, 3))
    (kk : ∀ (r : Int32) (M' : Nat → Nat → Int32) (H : Heap) (locs : List Loc), (M' = M) → GG E bx bm mi ko T M' I H → va_S (fun q => s.heap.size ≤ q) s.heap H locs → W p l e room_1 s m #[Value.ref b] below meth c H locs cells slots (lw_Z below #[Value.ref b] s) (F0 m (pc + 3) ls (.int r :: rest))) : W p l e room_1 s m #[Value.ref b] below meth c H locs cells slots (lw_Z below #[Value.ref b] s) (F0 m pc ls (.int a4 :: .int a3 :: .int a2 :: .int a1 :: .ref bm :: rest)) := by
  obtain ⟨hx, hb, hr, hml, hown, hts, hX0, hbl, hlocks, hgv⟩ := id C0
  have zc : zC p s m #[Value.ref b] meth c cL_law 4 RL ret := ⟨hx, hb, hml, hown, fun w hw => hts w (zb_in hw), hr, hlocks⟩
  obtain ⟨hXS, hMS, hE, hT, hMT⟩ := hG
  obtain ⟨S, V, f_word, a_rest, hI, hM⟩ := id hMS
  refine zVx_i [.int a1, .int a2, .int a3, .int a4] rest zc ky_X11_trade kz_X11_trade hlk (c_m_trade l (post := fun r f_code _ => iv 0 0 f_code) (tM (fun _ _ h => h))) (mPreV0 hK hM) hS (fun q (h : mA bm q) => Nat.le_trans hbx (Nat.le_trans (Nat.le_trans (Nat.le_add_right bx 93) hbm) h.1)) rfl rfl hls hW ⟨rfl, rfl⟩ ⟨(Nat.le_of_ble_eq_true rfl), (Nat.le_of_ble_eq_true rfl)⟩ hcs hd (fun r u H1 locs1 hw h9 hk hS => ?_)
  obtain ⟨f_code, a_wins⟩ := u
  have n_f_code := hw
  exact kk r _ _ _ rfl ⟨XS_kp hXS (fun z h1 h2 h3 => hk z h1 (fun (hA : mA bm z) => zap hbm hA.1 h3)), MS_of1 (M := M) h9 n_f_code (hI.1 12) (hI.1 13) (hI.1 14) (hI.2 2) (hI.2 3) (hI.2 4) (hI.2 6) (hI.1 16) (hI.2 7) (hI.2 8) (hI.2 12) (hI.2 13) (hI.2 14) (hI.1 21) (hI.2 16), lE_kp hE (fun z h1 h2 => hk z h1 (fun (hA : mA bm z) => absurd hA.2 (Nat.not_lt.mpr h2))), hT, hMT⟩ hS
end
section
set_option maxRecDepth 40000 in
set_option maxHeartbeats 4000000 in
theorem gm_villages {p : Program} {l : Launch} {e : Env} {s : State} {m : MethodId} {below : List Frame} {meth : Method} {c : Code} {E : zE} {G : zG} {b L bx bm cells slots : Nat} {xs : Nat → Int32} {mi : Nat → Option Nat} {ko : Option Nat} {T : TT} {M : Nat → Nat → Int32} {I : Nat → TT} {H : Heap} {locs : List Loc} {ls : Array Slot} {pc idx : Nat} {a1 a2 a3 : Int32} (rest : List Value) (hcs : cells ≤ room_1.cells ∧ slots ≤ room_1.slots) (C0 : lw_At p s m meth c b L xs) (hbx : s.heap.size ≤ bx) (hbm : bx + 93 ≤ bm) (hK : zK E s) (hO : zO s ∧ zZ G (fun q => s.heap.size ≤ q) s s.heap) (hG : GG E bx bm mi ko T M I H) (hS : va_S (fun q => s.heap.size ≤ q) s.heap H locs) (hls : ls.size = 4) (hW : (rest.map fun v => v.category).sum ≤ 8) (hlk : Cond.methodLink RL idx yX11_villages ∈ zb) (hd : decode cL_law pc = .ok (.invokevirtual idx, 3))
    (kk : ∀ (r : Int32) (M' : Nat → Nat → Int32) (H : Heap) (locs : List Loc), (M' = M) → GG E bx bm mi ko T M' I H → va_S (fun q => s.heap.size ≤ q) s.heap H locs → W p l e room_1 s m #[Value.ref b] below meth c H locs cells slots (lw_Z below #[Value.ref b] s) (F0 m (pc + 3) ls (.int r :: rest))) : W p l e room_1 s m #[Value.ref b] below meth c H locs cells slots (lw_Z below #[Value.ref b] s) (F0 m pc ls (.int a3 :: .int a2 :: .int a1 :: .ref bm :: rest)) := by
  obtain ⟨hx, hb, hr, hml, hown, hts, hX0, hbl, hlocks, hgv⟩ := id C0
  have zc : zC p s m #[Value.ref b] meth c cL_law 4 RL ret := ⟨hx, hb, hml, hown, fun w hw => hts w (zb_in hw), hr, hlocks⟩
  obtain ⟨hXS, hMS, hE, hT, hMT⟩ := hG
  obtain ⟨S, V, f_word, a_rest, hI, hM⟩ := id hMS
  refine zVx_i [.int a1, .int a2, .int a3] rest zc ky_X11_villages kz_X11_villages hlk (c_m_villages l (post := (fun r f_code f_land f_huts f_singers a_run a_covers => (iv 0 0 f_code) ∧ (iv 0 1 f_land) ∧ (iv 0 9 f_huts) ∧ (iv 0 6 f_singers) ∧ (∀ j, iv 0 1000000 (a_run j)) ∧ (∀ j, iv 0 511 (a_covers j)))) (s_m_villages_0 (hI.1 0) (hMT.2.2.1) (hMT.2.2.2.1) (hI.1 12) (hI.1 13) (hI.1 14) (hI.2 7) (hI.2 8) (fun _ _ _ _ _ _ _ _ h1 h2 h3 h4 h5 h6 => ⟨h1, h2, h3, h4, h5, h6⟩))) (mPreV0 hK hM) hS (fun q (h : mA bm q) => Nat.le_trans hbx (Nat.le_trans (Nat.le_trans (Nat.le_add_right bx 93) hbm) h.1)) rfl rfl hls hW ⟨rfl, rfl⟩ ⟨(Nat.le_of_ble_eq_true rfl), (Nat.le_of_ble_eq_true rfl)⟩ hcs hd (fun r u H1 locs1 hw h9 hk hS => ?_)
  obtain ⟨f_code, f_land, f_huts, f_singers, a_run, a_covers⟩ := u
  obtain ⟨n_f_code, n_f_land, n_f_huts, n_f_singers, n_a_run, n_a_covers⟩ := hw
  exact kk r _ _ _ rfl ⟨XS_kp hXS (fun z h1 h2 h3 => hk z h1 (fun (hA : mA bm z) => zap hbm hA.1 h3)), MS_of1 (M := M) h9 n_f_code n_f_land n_f_huts n_f_singers (hI.2 2) (hI.2 3) (hI.2 4) (hI.2 6) (hI.1 16) n_a_run n_a_covers (hI.2 12) (hI.2 13) (hI.2 14) (hI.1 21) (hI.2 16), lE_kp hE (fun z h1 h2 => hk z h1 (fun (hA : mA bm z) => absurd hA.2 (Nat.not_lt.mpr h2))), hT, hMT⟩ hS
end
section
set_option maxRecDepth 40000 in
set_option maxHeartbeats 4000000 in
theorem g_0 {p : Program} {l : Launch} {e : Env} {s : State} {m : MethodId} {below : List Frame} {meth : Method} {c : Code} {E : zE} {G : zG} {b L i bx bm cells slots : Nat} {xs : Nat → Int32} {mi : Nat → Option Nat} {ko : Option Nat} {T : TT} {M : Nat → Nat → Int32} {I : Nat → TT} {H : Heap} {locs : List Loc} {ls : Array Slot} (hi : i + 6 ≤ L) (hL : L ≤ 3072) (hR : RG T M I mi) (hcs : cells + 47 ≤ room_1.cells ∧ slots + 4608 ≤ room_1.slots) (C0 : lw_At p s m meth c b L xs) (hbx : s.heap.size ≤ bx) (hbm : bx + 93 ≤ bm) (hK : zK E s) (hO : zO s ∧ zZ G (fun q => s.heap.size ≤ q) s s.heap) (hG : GG E bx bm mi ko T M I H) (hS : va_S (fun q => s.heap.size ≤ q) s.heap H locs) (hl : lv_has ls 4 [(0, .ref b), (1, .ref bx), (2, .ref bm), (3, .int (nI i))])
    (kk : ∀ (mi : Nat → Option Nat) (ko : Option Nat) (T : TT) (M : Nat → Nat → Int32) (I : Nat → TT) (H : Heap) (locs : List Loc) (cells' slots' : Nat), cells' ≤ cells + 47 → slots' ≤ slots + 4608 → RG T M I mi → GG E bx bm mi ko T M I H → va_S (fun q => s.heap.size ≤ q) s.heap H locs → W p l e room_1 s m #[Value.ref b] below meth c H locs cells' slots' (lw_Z below #[Value.ref b] s) (F0 m 1647 ls [])) : W p l e room_1 s m #[Value.ref b] below meth c H locs cells slots (lw_Z below #[Value.ref b] s) (F0 m 180 ls []) := by
  obtain ⟨hx, hb, hr, hml, hown, hts, hX0, hbl, hlocks, hgv⟩ := id C0
  have zc : zC p s m #[Value.ref b] meth c cL_law 4 RL ret := ⟨hx, hb, hml, hown, fun w hw => hts w (zb_in hw), hr, hlocks⟩
  have hbA : ¬ (fun q : Nat => s.heap.size ≤ q) b := Nat.not_le.mpr hbl
  refine lv_aload_n hx hb dL_law_180 rfl (lv_at hl 1 rfl) ?_
  refine lv_aload_n hx hb dL_law_181 rfl (lv_at hl 0 rfl) ?_
  refine lv_iload_n hx hb dL_law_182 rfl (lv_at hl 3 rfl) ?_
  refine lv_iconst (v := (1 : Int32)) hx hb dL_law_183 (by decide) ?_
  refine lv_iadd hx hb dL_law_184 ?_
  refine va_sld hx hb hX0 hbl hbA hS (zidx (k := 1) hi hL rfl (by decide)) dL_law_185 ?_
  refine lv_aload_n hx hb dL_law_186 rfl (lv_at hl 0 rfl) ?_
  refine lv_iload_n hx hb dL_law_187 rfl (lv_at hl 3 rfl) ?_
  refine lv_iconst (v := (2 : Int32)) hx hb dL_law_188 (by decide) ?_
  refine lv_iadd hx hb dL_law_189 ?_
  refine va_sld hx hb hX0 hbl hbA hS (zidx (k := 2) hi hL rfl (by decide)) dL_law_190 ?_
  refine lv_aload_n hx hb dL_law_191 rfl (lv_at hl 0 rfl) ?_
  refine lv_iload_n hx hb dL_law_192 rfl (lv_at hl 3 rfl) ?_
  refine lv_iconst (v := (3 : Int32)) hx hb dL_law_193 (by decide) ?_
  refine lv_iadd hx hb dL_law_194 ?_
  refine va_sld hx hb hX0 hbl hbA hS (zidx (k := 3) hi hL rfl (by decide)) dL_law_195 ?_
  refine lv_aload_n hx hb dL_law_196 rfl (lv_at hl 0 rfl) ?_
  refine lv_iload_n hx hb dL_law_197 rfl (lv_at hl 3 rfl) ?_
  refine lv_iconst (v := (4 : Int32)) hx hb dL_law_198 (by decide) ?_
  refine lv_iadd hx hb dL_law_199 ?_
  refine va_sld hx hb hX0 hbl hbA hS (zidx (k := 4) hi hL rfl (by decide)) dL_law_200 ?_
  refine lv_aload_n hx hb dL_law_201 rfl (lv_at hl 0 rfl) ?_
  refine lv_iload_n hx hb dL_law_202 rfl (lv_at hl 3 rfl) ?_
  refine lv_iconst (v := (5 : Int32)) hx hb dL_law_203 (by decide) ?_
  refine lv_iadd hx hb dL_law_204 ?_
  refine va_sld hx hb hX0 hbl hbA hS (zidx (k := 5) hi hL rfl (by decide)) dL_law_205 ?_
  have hB0 := tB_of hG.2.2.2.1
  have hI0 := tBI_of hG.2.2.1
  refine gx_feed [] hcs C0 hbx hbm hK hO hG hS hl.1 (Nat.le_of_ble_eq_true rfl) kmL_13 dL_law_206 (fun r1 mi' ko' T' I' H locs cells' slots' hx1 e1 e2 hG1 hS1 => ?_)
  obtain ⟨rfl, rfl, hx2⟩ := hx1
  have hG := hG1
  have hS := hS1
  refine lv_pop hx hb dL_law_209 rfl ?_
  refine lv_aload_n hx hb dL_law_210 rfl (lv_at hl 2 rfl) ?_
  refine lv_aload_n hx hb dL_law_211 rfl (lv_at hl 0 rfl) ?_
  refine lv_iload_n hx hb dL_law_212 rfl (lv_at hl 3 rfl) ?_
  refine lv_iconst (v := (1 : Int32)) hx hb dL_law_213 (by decide) ?_
  refine lv_iadd hx hb dL_law_214 ?_
  refine va_sld hx hb hX0 hbl hbA hS (zidx (k := 1) hi hL rfl (by decide)) dL_law_215 ?_
  refine lv_aload_n hx hb dL_law_216 rfl (lv_at hl 0 rfl) ?_
  refine lv_iload_n hx hb dL_law_217 rfl (lv_at hl 3 rfl) ?_
  refine lv_iconst (v := (2 : Int32)) hx hb dL_law_218 (by decide) ?_
  refine lv_iadd hx hb dL_law_219 ?_
  refine va_sld hx hb hX0 hbl hbA hS (zidx (k := 2) hi hL rfl (by decide)) dL_law_220 ?_
  refine lv_aload_n hx hb dL_law_221 rfl (lv_at hl 0 rfl) ?_
  refine lv_iload_n hx hb dL_law_222 rfl (lv_at hl 3 rfl) ?_
  refine lv_iconst (v := (3 : Int32)) hx hb dL_law_223 (by decide) ?_
  refine lv_iadd hx hb dL_law_224 ?_
  refine va_sld hx hb hX0 hbl hbA hS (zidx (k := 3) hi hL rfl (by decide)) dL_law_225 ?_
  refine lv_aload_n hx hb dL_law_226 rfl (lv_at hl 0 rfl) ?_
  refine lv_iload_n hx hb dL_law_227 rfl (lv_at hl 3 rfl) ?_
  refine lv_iconst (v := (4 : Int32)) hx hb dL_law_228 (by decide) ?_
  refine lv_iadd hx hb dL_law_229 ?_
  refine va_sld hx hb hX0 hbl hbA hS (zidx (k := 4) hi hL rfl (by decide)) dL_law_230 ?_
  refine lv_aload_n hx hb dL_law_231 rfl (lv_at hl 0 rfl) ?_
  refine lv_iload_n hx hb dL_law_232 rfl (lv_at hl 3 rfl) ?_
  refine lv_iconst (v := (5 : Int32)) hx hb dL_law_233 (by decide) ?_
  refine lv_iadd hx hb dL_law_234 ?_
  refine va_sld hx hb hX0 hbl hbA hS (zidx (k := 5) hi hL rfl (by decide)) dL_law_235 ?_
  refine gm_feed [] ⟨Nat.le_trans e1 hcs.1, Nat.le_trans e2 hcs.2⟩ C0 hbx hbm hK hO hG hS hl.1 (Nat.le_of_ble_eq_true rfl) kmL_17 dL_law_236 (fun r2 M' H locs hm1 hG2 hS2 => ?_)
  obtain ⟨hrr, hR⟩ := RG_fd hR hB0 hI0 hx2 hm1
  have hG := hG2
  have hS := hS2
  refine lv_pop hx hb dL_law_239 rfl ?_
  refine lv_goto (tgt := 1647) hx hb dL_law_240 (by decide) ?_
  exact kk _ _ _ _ _ _ _ _ _ e1 e2 hR hG hS

set_option maxRecDepth 40000 in
set_option maxHeartbeats 4000000 in
theorem g_1 {p : Program} {l : Launch} {e : Env} {s : State} {m : MethodId} {below : List Frame} {meth : Method} {c : Code} {E : zE} {G : zG} {b L i bx bm cells slots : Nat} {xs : Nat → Int32} {mi : Nat → Option Nat} {ko : Option Nat} {T : TT} {M : Nat → Nat → Int32} {I : Nat → TT} {H : Heap} {locs : List Loc} {ls : Array Slot} (hi : i + 6 ≤ L) (hL : L ≤ 3072) (hR : RG T M I mi) (hcs : cells + 47 ≤ room_1.cells ∧ slots + 4608 ≤ room_1.slots) (C0 : lw_At p s m meth c b L xs) (hbx : s.heap.size ≤ bx) (hbm : bx + 93 ≤ bm) (hK : zK E s) (hO : zO s ∧ zZ G (fun q => s.heap.size ≤ q) s s.heap) (hG : GG E bx bm mi ko T M I H) (hS : va_S (fun q => s.heap.size ≤ q) s.heap H locs) (hl : lv_has ls 4 [(0, .ref b), (1, .ref bx), (2, .ref bm), (3, .int (nI i))])
    (kk : ∀ (mi : Nat → Option Nat) (ko : Option Nat) (T : TT) (M : Nat → Nat → Int32) (I : Nat → TT) (H : Heap) (locs : List Loc) (cells' slots' : Nat), cells' ≤ cells + 47 → slots' ≤ slots + 4608 → RG T M I mi → GG E bx bm mi ko T M I H → va_S (fun q => s.heap.size ≤ q) s.heap H locs → W p l e room_1 s m #[Value.ref b] below meth c H locs cells' slots' (lw_Z below #[Value.ref b] s) (F0 m 1647 ls [])) : W p l e room_1 s m #[Value.ref b] below meth c H locs cells slots (lw_Z below #[Value.ref b] s) (F0 m 243 ls []) := by
  obtain ⟨hx, hb, hr, hml, hown, hts, hX0, hbl, hlocks, hgv⟩ := id C0
  have zc : zC p s m #[Value.ref b] meth c cL_law 4 RL ret := ⟨hx, hb, hml, hown, fun w hw => hts w (zb_in hw), hr, hlocks⟩
  have hbA : ¬ (fun q : Nat => s.heap.size ≤ q) b := Nat.not_le.mpr hbl
  refine lv_aload_n hx hb dL_law_243 rfl (lv_at hl 1 rfl) ?_
  refine lv_aload_n hx hb dL_law_244 rfl (lv_at hl 0 rfl) ?_
  refine lv_iload_n hx hb dL_law_245 rfl (lv_at hl 3 rfl) ?_
  refine lv_iconst (v := (1 : Int32)) hx hb dL_law_246 (by decide) ?_
  refine lv_iadd hx hb dL_law_247 ?_
  refine va_sld hx hb hX0 hbl hbA hS (zidx (k := 1) hi hL rfl (by decide)) dL_law_248 ?_
  have hB0 := tB_of hG.2.2.2.1
  have hI0 := tBI_of hG.2.2.1
  refine gx_end [] hcs C0 hbx hbm hK hO hG hS hl.1 (Nat.le_of_ble_eq_true rfl) kmL_18 dL_law_249 (fun r1 mi' ko' T' I' H locs cells' slots' hx1 e1 e2 hG1 hS1 => ?_)
  obtain ⟨rfl, rfl, hx2⟩ := hx1
  have hG := hG1
  have hS := hS1
  refine lv_pop hx hb dL_law_252 rfl ?_
  refine lv_aload_n hx hb dL_law_253 rfl (lv_at hl 2 rfl) ?_
  refine lv_aload_n hx hb dL_law_254 rfl (lv_at hl 0 rfl) ?_
  refine lv_iload_n hx hb dL_law_255 rfl (lv_at hl 3 rfl) ?_
  refine lv_iconst (v := (1 : Int32)) hx hb dL_law_256 (by decide) ?_
  refine lv_iadd hx hb dL_law_257 ?_
  refine va_sld hx hb hX0 hbl hbA hS (zidx (k := 1) hi hL rfl (by decide)) dL_law_258 ?_
  refine gm_end [] ⟨Nat.le_trans e1 hcs.1, Nat.le_trans e2 hcs.2⟩ C0 hbx hbm hK hO hG hS hl.1 (Nat.le_of_ble_eq_true rfl) kmL_22 dL_law_259 (fun r2 M' H locs hm1 hG2 hS2 => ?_)
  obtain ⟨hrr, hR⟩ := RG_en hR hB0 hI0 hx2 hm1
  have hG := hG2
  have hS := hS2
  refine lv_pop hx hb dL_law_262 rfl ?_
  refine lv_goto (tgt := 1647) hx hb dL_law_263 (by decide) ?_
  exact kk _ _ _ _ _ _ _ _ _ e1 e2 hR hG hS

set_option maxRecDepth 40000 in
set_option maxHeartbeats 4000000 in
theorem g_2 {p : Program} {l : Launch} {e : Env} {s : State} {m : MethodId} {below : List Frame} {meth : Method} {c : Code} {E : zE} {G : zG} {b L i bx bm cells slots : Nat} {xs : Nat → Int32} {mi : Nat → Option Nat} {ko : Option Nat} {T : TT} {M : Nat → Nat → Int32} {I : Nat → TT} {H : Heap} {locs : List Loc} {ls : Array Slot} (hi : i + 6 ≤ L) (hL : L ≤ 3072) (hR : RG T M I mi) (hcs : cells + 47 ≤ room_1.cells ∧ slots + 4608 ≤ room_1.slots) (C0 : lw_At p s m meth c b L xs) (hbx : s.heap.size ≤ bx) (hbm : bx + 93 ≤ bm) (hK : zK E s) (hO : zO s ∧ zZ G (fun q => s.heap.size ≤ q) s s.heap) (hG : GG E bx bm mi ko T M I H) (hS : va_S (fun q => s.heap.size ≤ q) s.heap H locs) (hl : lv_has ls 4 [(0, .ref b), (1, .ref bx), (2, .ref bm), (3, .int (nI i))])
    (kk : ∀ (mi : Nat → Option Nat) (ko : Option Nat) (T : TT) (M : Nat → Nat → Int32) (I : Nat → TT) (H : Heap) (locs : List Loc) (cells' slots' : Nat), cells' ≤ cells + 47 → slots' ≤ slots + 4608 → RG T M I mi → GG E bx bm mi ko T M I H → va_S (fun q => s.heap.size ≤ q) s.heap H locs → W p l e room_1 s m #[Value.ref b] below meth c H locs cells' slots' (lw_Z below #[Value.ref b] s) (F0 m 1647 ls [])) : W p l e room_1 s m #[Value.ref b] below meth c H locs cells slots (lw_Z below #[Value.ref b] s) (F0 m 266 ls []) := by
  obtain ⟨hx, hb, hr, hml, hown, hts, hX0, hbl, hlocks, hgv⟩ := id C0
  have zc : zC p s m #[Value.ref b] meth c cL_law 4 RL ret := ⟨hx, hb, hml, hown, fun w hw => hts w (zb_in hw), hr, hlocks⟩
  have hbA : ¬ (fun q : Nat => s.heap.size ≤ q) b := Nat.not_le.mpr hbl
  refine lv_aload_n hx hb dL_law_266 rfl (lv_at hl 1 rfl) ?_
  refine lv_aload_n hx hb dL_law_267 rfl (lv_at hl 0 rfl) ?_
  refine lv_iload_n hx hb dL_law_268 rfl (lv_at hl 3 rfl) ?_
  refine lv_iconst (v := (1 : Int32)) hx hb dL_law_269 (by decide) ?_
  refine lv_iadd hx hb dL_law_270 ?_
  refine va_sld hx hb hX0 hbl hbA hS (zidx (k := 1) hi hL rfl (by decide)) dL_law_271 ?_
  refine lv_aload_n hx hb dL_law_272 rfl (lv_at hl 0 rfl) ?_
  refine lv_iload_n hx hb dL_law_273 rfl (lv_at hl 3 rfl) ?_
  refine lv_iconst (v := (2 : Int32)) hx hb dL_law_274 (by decide) ?_
  refine lv_iadd hx hb dL_law_275 ?_
  refine va_sld hx hb hX0 hbl hbA hS (zidx (k := 2) hi hL rfl (by decide)) dL_law_276 ?_
  have hB0 := tB_of hG.2.2.2.1
  have hI0 := tBI_of hG.2.2.1
  refine gx_text [] hcs C0 hbx hbm hK hO hG hS hl.1 (Nat.le_of_ble_eq_true rfl) kmL_23 dL_law_277 (fun r1 mi' ko' T' I' H locs cells' slots' hx1 e1 e2 hG1 hS1 => ?_)
  obtain ⟨rfl, rfl, hx2⟩ := hx1
  have hB1 := tB_of hG1.2.2.2.1
  have hG := hG1
  have hS := hS1
  refine lv_pop hx hb dL_law_280 rfl ?_
  refine lv_aload_n hx hb dL_law_281 rfl (lv_at hl 2 rfl) ?_
  refine lv_aload_n hx hb dL_law_282 rfl (lv_at hl 0 rfl) ?_
  refine lv_iload_n hx hb dL_law_283 rfl (lv_at hl 3 rfl) ?_
  refine lv_iconst (v := (1 : Int32)) hx hb dL_law_284 (by decide) ?_
  refine lv_iadd hx hb dL_law_285 ?_
  refine va_sld hx hb hX0 hbl hbA hS (zidx (k := 1) hi hL rfl (by decide)) dL_law_286 ?_
  refine lv_aload_n hx hb dL_law_287 rfl (lv_at hl 0 rfl) ?_
  refine lv_iload_n hx hb dL_law_288 rfl (lv_at hl 3 rfl) ?_
  refine lv_iconst (v := (2 : Int32)) hx hb dL_law_289 (by decide) ?_
  refine lv_iadd hx hb dL_law_290 ?_
  refine va_sld hx hb hX0 hbl hbA hS (zidx (k := 2) hi hL rfl (by decide)) dL_law_291 ?_
  refine gm_text [] ⟨Nat.le_trans e1 hcs.1, Nat.le_trans e2 hcs.2⟩ C0 hbx hbm hK hO hG hS hl.1 (Nat.le_of_ble_eq_true rfl) kmL_27 dL_law_292 (fun r2 M' H locs hm1 hG2 hS2 => ?_)
  obtain ⟨hrr, hR⟩ := RG_tx hR hB0 hB1 hI0 hx2 hm1
  have hG := hG2
  have hS := hS2
  refine lv_pop hx hb dL_law_295 rfl ?_
  refine lv_goto (tgt := 1647) hx hb dL_law_296 (by decide) ?_
  exact kk _ _ _ _ _ _ _ _ _ e1 e2 hR hG hS

set_option maxRecDepth 40000 in
set_option maxHeartbeats 4000000 in
theorem g_3 {p : Program} {l : Launch} {e : Env} {s : State} {m : MethodId} {below : List Frame} {meth : Method} {c : Code} {E : zE} {G : zG} {b L i bx bm cells slots : Nat} {xs : Nat → Int32} {mi : Nat → Option Nat} {ko : Option Nat} {T : TT} {M : Nat → Nat → Int32} {I : Nat → TT} {H : Heap} {locs : List Loc} {ls : Array Slot} (hi : i + 6 ≤ L) (hL : L ≤ 3072) (hR : RG T M I mi) (hcs : cells + 47 ≤ room_1.cells ∧ slots + 4608 ≤ room_1.slots) (C0 : lw_At p s m meth c b L xs) (hbx : s.heap.size ≤ bx) (hbm : bx + 93 ≤ bm) (hK : zK E s) (hO : zO s ∧ zZ G (fun q => s.heap.size ≤ q) s s.heap) (hG : GG E bx bm mi ko T M I H) (hS : va_S (fun q => s.heap.size ≤ q) s.heap H locs) (hl : lv_has ls 4 [(0, .ref b), (1, .ref bx), (2, .ref bm), (3, .int (nI i))])
    (kk : ∀ (mi : Nat → Option Nat) (ko : Option Nat) (T : TT) (M : Nat → Nat → Int32) (I : Nat → TT) (H : Heap) (locs : List Loc) (cells' slots' : Nat), cells' ≤ cells + 47 → slots' ≤ slots + 4608 → RG T M I mi → GG E bx bm mi ko T M I H → va_S (fun q => s.heap.size ≤ q) s.heap H locs → W p l e room_1 s m #[Value.ref b] below meth c H locs cells' slots' (lw_Z below #[Value.ref b] s) (F0 m 1647 ls [])) : W p l e room_1 s m #[Value.ref b] below meth c H locs cells slots (lw_Z below #[Value.ref b] s) (F0 m 299 ls []) := by
  obtain ⟨hx, hb, hr, hml, hown, hts, hX0, hbl, hlocks, hgv⟩ := id C0
  have zc : zC p s m #[Value.ref b] meth c cL_law 4 RL ret := ⟨hx, hb, hml, hown, fun w hw => hts w (zb_in hw), hr, hlocks⟩
  have hbA : ¬ (fun q : Nat => s.heap.size ≤ q) b := Nat.not_le.mpr hbl
  refine lv_aload_n hx hb dL_law_299 rfl (lv_at hl 1 rfl) ?_
  refine lv_aload_n hx hb dL_law_300 rfl (lv_at hl 0 rfl) ?_
  refine lv_iload_n hx hb dL_law_301 rfl (lv_at hl 3 rfl) ?_
  refine lv_iconst (v := (1 : Int32)) hx hb dL_law_302 (by decide) ?_
  refine lv_iadd hx hb dL_law_303 ?_
  refine va_sld hx hb hX0 hbl hbA hS (zidx (k := 1) hi hL rfl (by decide)) dL_law_304 ?_
  have hB0 := tB_of hG.2.2.2.1
  have hI0 := tBI_of hG.2.2.1
  refine gx_fault [] hcs C0 hbx hbm hK hO hG hS hl.1 (Nat.le_of_ble_eq_true rfl) kmL_28 dL_law_305 (fun r1 mi' ko' T' I' H locs cells' slots' hx1 e1 e2 hG1 hS1 => ?_)
  obtain ⟨rfl, rfl, rfl⟩ := hx1
  have hG := hG1
  have hS := hS1
  refine lv_pop hx hb dL_law_308 rfl ?_
  refine lv_aload_n hx hb dL_law_309 rfl (lv_at hl 2 rfl) ?_
  refine lv_aload_n hx hb dL_law_310 rfl (lv_at hl 0 rfl) ?_
  refine lv_iload_n hx hb dL_law_311 rfl (lv_at hl 3 rfl) ?_
  refine lv_iconst (v := (1 : Int32)) hx hb dL_law_312 (by decide) ?_
  refine lv_iadd hx hb dL_law_313 ?_
  refine va_sld hx hb hX0 hbl hbA hS (zidx (k := 1) hi hL rfl (by decide)) dL_law_314 ?_
  refine gm_fault [] ⟨Nat.le_trans e1 hcs.1, Nat.le_trans e2 hcs.2⟩ C0 hbx hbm hK hO hG hS hl.1 (Nat.le_of_ble_eq_true rfl) kmL_31 dL_law_315 (fun r2 M' H locs hm1 hG2 hS2 => ?_)
  obtain rfl := hm1
  have hG := hG2
  have hS := hS2
  refine lv_pop hx hb dL_law_318 rfl ?_
  refine lv_goto (tgt := 1647) hx hb dL_law_319 (by decide) ?_
  exact kk _ _ _ _ _ _ _ _ _ e1 e2 hR hG hS

set_option maxRecDepth 40000 in
set_option maxHeartbeats 4000000 in
theorem g_4 {p : Program} {l : Launch} {e : Env} {s : State} {m : MethodId} {below : List Frame} {meth : Method} {c : Code} {E : zE} {G : zG} {b L i bx bm cells slots : Nat} {xs : Nat → Int32} {mi : Nat → Option Nat} {ko : Option Nat} {T : TT} {M : Nat → Nat → Int32} {I : Nat → TT} {H : Heap} {locs : List Loc} {ls : Array Slot} (hi : i + 6 ≤ L) (hL : L ≤ 3072) (hR : RG T M I mi) (hcs : cells + 47 ≤ room_1.cells ∧ slots + 4608 ≤ room_1.slots) (C0 : lw_At p s m meth c b L xs) (hbx : s.heap.size ≤ bx) (hbm : bx + 93 ≤ bm) (hK : zK E s) (hO : zO s ∧ zZ G (fun q => s.heap.size ≤ q) s s.heap) (hG : GG E bx bm mi ko T M I H) (hS : va_S (fun q => s.heap.size ≤ q) s.heap H locs) (hl : lv_has ls 4 [(0, .ref b), (1, .ref bx), (2, .ref bm), (3, .int (nI i))])
    (kk : ∀ (mi : Nat → Option Nat) (ko : Option Nat) (T : TT) (M : Nat → Nat → Int32) (I : Nat → TT) (H : Heap) (locs : List Loc) (cells' slots' : Nat), cells' ≤ cells + 47 → slots' ≤ slots + 4608 → RG T M I mi → GG E bx bm mi ko T M I H → va_S (fun q => s.heap.size ≤ q) s.heap H locs → W p l e room_1 s m #[Value.ref b] below meth c H locs cells' slots' (lw_Z below #[Value.ref b] s) (F0 m 1647 ls [])) : W p l e room_1 s m #[Value.ref b] below meth c H locs cells slots (lw_Z below #[Value.ref b] s) (F0 m 322 ls []) := by
  obtain ⟨hx, hb, hr, hml, hown, hts, hX0, hbl, hlocks, hgv⟩ := id C0
  have zc : zC p s m #[Value.ref b] meth c cL_law 4 RL ret := ⟨hx, hb, hml, hown, fun w hw => hts w (zb_in hw), hr, hlocks⟩
  have hbA : ¬ (fun q : Nat => s.heap.size ≤ q) b := Nat.not_le.mpr hbl
  refine lv_aload_n hx hb dL_law_322 rfl (lv_at hl 1 rfl) ?_
  refine lv_aload_n hx hb dL_law_323 rfl (lv_at hl 0 rfl) ?_
  refine lv_iload_n hx hb dL_law_324 rfl (lv_at hl 3 rfl) ?_
  refine lv_iconst (v := (1 : Int32)) hx hb dL_law_325 (by decide) ?_
  refine lv_iadd hx hb dL_law_326 ?_
  refine va_sld hx hb hX0 hbl hbA hS (zidx (k := 1) hi hL rfl (by decide)) dL_law_327 ?_
  refine lv_aload_n hx hb dL_law_328 rfl (lv_at hl 0 rfl) ?_
  refine lv_iload_n hx hb dL_law_329 rfl (lv_at hl 3 rfl) ?_
  refine lv_iconst (v := (2 : Int32)) hx hb dL_law_330 (by decide) ?_
  refine lv_iadd hx hb dL_law_331 ?_
  refine va_sld hx hb hX0 hbl hbA hS (zidx (k := 2) hi hL rfl (by decide)) dL_law_332 ?_
  have hB0 := tB_of hG.2.2.2.1
  have hI0 := tBI_of hG.2.2.1
  refine gx_land [] hcs C0 hbx hbm hK hO hG hS hl.1 (Nat.le_of_ble_eq_true rfl) kmL_32 dL_law_333 (fun r1 mi' ko' T' I' H locs cells' slots' hx1 e1 e2 hG1 hS1 => ?_)
  obtain ⟨rfl, rfl, rfl⟩ := hx1
  have hG := hG1
  have hS := hS1
  refine lv_pop hx hb dL_law_336 rfl ?_
  refine lv_aload_n hx hb dL_law_337 rfl (lv_at hl 2 rfl) ?_
  refine lv_aload_n hx hb dL_law_338 rfl (lv_at hl 0 rfl) ?_
  refine lv_iload_n hx hb dL_law_339 rfl (lv_at hl 3 rfl) ?_
  refine lv_iconst (v := (1 : Int32)) hx hb dL_law_340 (by decide) ?_
  refine lv_iadd hx hb dL_law_341 ?_
  refine va_sld hx hb hX0 hbl hbA hS (zidx (k := 1) hi hL rfl (by decide)) dL_law_342 ?_
  refine lv_aload_n hx hb dL_law_343 rfl (lv_at hl 0 rfl) ?_
  refine lv_iload_n hx hb dL_law_344 rfl (lv_at hl 3 rfl) ?_
  refine lv_iconst (v := (2 : Int32)) hx hb dL_law_345 (by decide) ?_
  refine lv_iadd hx hb dL_law_346 ?_
  refine va_sld hx hb hX0 hbl hbA hS (zidx (k := 2) hi hL rfl (by decide)) dL_law_347 ?_
  refine gm_land [] ⟨Nat.le_trans e1 hcs.1, Nat.le_trans e2 hcs.2⟩ C0 hbx hbm hK hO hG hS hl.1 (Nat.le_of_ble_eq_true rfl) kmL_35 dL_law_348 (fun r2 M' H locs hm1 hG2 hS2 => ?_)
  obtain rfl := hm1
  have hG := hG2
  have hS := hS2
  refine lv_pop hx hb dL_law_351 rfl ?_
  refine lv_goto (tgt := 1647) hx hb dL_law_352 (by decide) ?_
  exact kk _ _ _ _ _ _ _ _ _ e1 e2 hR hG hS

set_option maxRecDepth 40000 in
set_option maxHeartbeats 4000000 in
theorem g_5 {p : Program} {l : Launch} {e : Env} {s : State} {m : MethodId} {below : List Frame} {meth : Method} {c : Code} {E : zE} {G : zG} {b L i bx bm cells slots : Nat} {xs : Nat → Int32} {mi : Nat → Option Nat} {ko : Option Nat} {T : TT} {M : Nat → Nat → Int32} {I : Nat → TT} {H : Heap} {locs : List Loc} {ls : Array Slot} (hi : i + 6 ≤ L) (hL : L ≤ 3072) (hR : RG T M I mi) (hcs : cells + 47 ≤ room_1.cells ∧ slots + 4608 ≤ room_1.slots) (C0 : lw_At p s m meth c b L xs) (hbx : s.heap.size ≤ bx) (hbm : bx + 93 ≤ bm) (hK : zK E s) (hO : zO s ∧ zZ G (fun q => s.heap.size ≤ q) s s.heap) (hG : GG E bx bm mi ko T M I H) (hS : va_S (fun q => s.heap.size ≤ q) s.heap H locs) (hl : lv_has ls 4 [(0, .ref b), (1, .ref bx), (2, .ref bm), (3, .int (nI i))])
    (kk : ∀ (mi : Nat → Option Nat) (ko : Option Nat) (T : TT) (M : Nat → Nat → Int32) (I : Nat → TT) (H : Heap) (locs : List Loc) (cells' slots' : Nat), cells' ≤ cells + 47 → slots' ≤ slots + 4608 → RG T M I mi → GG E bx bm mi ko T M I H → va_S (fun q => s.heap.size ≤ q) s.heap H locs → W p l e room_1 s m #[Value.ref b] below meth c H locs cells' slots' (lw_Z below #[Value.ref b] s) (F0 m 1647 ls [])) : W p l e room_1 s m #[Value.ref b] below meth c H locs cells slots (lw_Z below #[Value.ref b] s) (F0 m 355 ls []) := by
  obtain ⟨hx, hb, hr, hml, hown, hts, hX0, hbl, hlocks, hgv⟩ := id C0
  have zc : zC p s m #[Value.ref b] meth c cL_law 4 RL ret := ⟨hx, hb, hml, hown, fun w hw => hts w (zb_in hw), hr, hlocks⟩
  have hbA : ¬ (fun q : Nat => s.heap.size ≤ q) b := Nat.not_le.mpr hbl
  refine lv_aload_n hx hb dL_law_355 rfl (lv_at hl 1 rfl) ?_
  refine lv_aload_n hx hb dL_law_356 rfl (lv_at hl 0 rfl) ?_
  refine lv_iload_n hx hb dL_law_357 rfl (lv_at hl 3 rfl) ?_
  refine lv_iconst (v := (1 : Int32)) hx hb dL_law_358 (by decide) ?_
  refine lv_iadd hx hb dL_law_359 ?_
  refine va_sld hx hb hX0 hbl hbA hS (zidx (k := 1) hi hL rfl (by decide)) dL_law_360 ?_
  refine lv_aload_n hx hb dL_law_361 rfl (lv_at hl 0 rfl) ?_
  refine lv_iload_n hx hb dL_law_362 rfl (lv_at hl 3 rfl) ?_
  refine lv_iconst (v := (2 : Int32)) hx hb dL_law_363 (by decide) ?_
  refine lv_iadd hx hb dL_law_364 ?_
  refine va_sld hx hb hX0 hbl hbA hS (zidx (k := 2) hi hL rfl (by decide)) dL_law_365 ?_
  refine lv_aload_n hx hb dL_law_366 rfl (lv_at hl 0 rfl) ?_
  refine lv_iload_n hx hb dL_law_367 rfl (lv_at hl 3 rfl) ?_
  refine lv_iconst (v := (3 : Int32)) hx hb dL_law_368 (by decide) ?_
  refine lv_iadd hx hb dL_law_369 ?_
  refine va_sld hx hb hX0 hbl hbA hS (zidx (k := 3) hi hL rfl (by decide)) dL_law_370 ?_
  have hB0 := tB_of hG.2.2.2.1
  have hI0 := tBI_of hG.2.2.1
  refine gx_echo [] hcs C0 hbx hbm hK hO hG hS hl.1 (Nat.le_of_ble_eq_true rfl) kmL_36 dL_law_371 (fun r1 mi' ko' T' I' H locs cells' slots' hx1 e1 e2 hG1 hS1 => ?_)
  obtain ⟨rfl, rfl, rfl⟩ := hx1
  have hG := hG1
  have hS := hS1
  refine lv_pop hx hb dL_law_374 rfl ?_
  refine lv_aload_n hx hb dL_law_375 rfl (lv_at hl 2 rfl) ?_
  refine lv_aload_n hx hb dL_law_376 rfl (lv_at hl 0 rfl) ?_
  refine lv_iload_n hx hb dL_law_377 rfl (lv_at hl 3 rfl) ?_
  refine lv_iconst (v := (1 : Int32)) hx hb dL_law_378 (by decide) ?_
  refine lv_iadd hx hb dL_law_379 ?_
  refine va_sld hx hb hX0 hbl hbA hS (zidx (k := 1) hi hL rfl (by decide)) dL_law_380 ?_
  refine lv_aload_n hx hb dL_law_381 rfl (lv_at hl 0 rfl) ?_
  refine lv_iload_n hx hb dL_law_382 rfl (lv_at hl 3 rfl) ?_
  refine lv_iconst (v := (2 : Int32)) hx hb dL_law_383 (by decide) ?_
  refine lv_iadd hx hb dL_law_384 ?_
  refine va_sld hx hb hX0 hbl hbA hS (zidx (k := 2) hi hL rfl (by decide)) dL_law_385 ?_
  refine lv_aload_n hx hb dL_law_386 rfl (lv_at hl 0 rfl) ?_
  refine lv_iload_n hx hb dL_law_387 rfl (lv_at hl 3 rfl) ?_
  refine lv_iconst (v := (3 : Int32)) hx hb dL_law_388 (by decide) ?_
  refine lv_iadd hx hb dL_law_389 ?_
  refine va_sld hx hb hX0 hbl hbA hS (zidx (k := 3) hi hL rfl (by decide)) dL_law_390 ?_
  refine gm_echo [] ⟨Nat.le_trans e1 hcs.1, Nat.le_trans e2 hcs.2⟩ C0 hbx hbm hK hO hG hS hl.1 (Nat.le_of_ble_eq_true rfl) kmL_40 dL_law_391 (fun r2 M' H locs hm1 hG2 hS2 => ?_)
  obtain rfl := hm1
  have hG := hG2
  have hS := hS2
  refine lv_pop hx hb dL_law_394 rfl ?_
  refine lv_goto (tgt := 1647) hx hb dL_law_395 (by decide) ?_
  exact kk _ _ _ _ _ _ _ _ _ e1 e2 hR hG hS

set_option maxRecDepth 40000 in
set_option maxHeartbeats 4000000 in
theorem g_6 {p : Program} {l : Launch} {e : Env} {s : State} {m : MethodId} {below : List Frame} {meth : Method} {c : Code} {E : zE} {G : zG} {b L i bx bm cells slots : Nat} {xs : Nat → Int32} {mi : Nat → Option Nat} {ko : Option Nat} {T : TT} {M : Nat → Nat → Int32} {I : Nat → TT} {H : Heap} {locs : List Loc} {ls : Array Slot} (hi : i + 6 ≤ L) (hL : L ≤ 3072) (hR : RG T M I mi) (hcs : cells + 47 ≤ room_1.cells ∧ slots + 4608 ≤ room_1.slots) (C0 : lw_At p s m meth c b L xs) (hbx : s.heap.size ≤ bx) (hbm : bx + 93 ≤ bm) (hK : zK E s) (hO : zO s ∧ zZ G (fun q => s.heap.size ≤ q) s s.heap) (hG : GG E bx bm mi ko T M I H) (hS : va_S (fun q => s.heap.size ≤ q) s.heap H locs) (hl : lv_has ls 4 [(0, .ref b), (1, .ref bx), (2, .ref bm), (3, .int (nI i))])
    (kk : ∀ (mi : Nat → Option Nat) (ko : Option Nat) (T : TT) (M : Nat → Nat → Int32) (I : Nat → TT) (H : Heap) (locs : List Loc) (cells' slots' : Nat), cells' ≤ cells + 47 → slots' ≤ slots + 4608 → RG T M I mi → GG E bx bm mi ko T M I H → va_S (fun q => s.heap.size ≤ q) s.heap H locs → W p l e room_1 s m #[Value.ref b] below meth c H locs cells' slots' (lw_Z below #[Value.ref b] s) (F0 m 1647 ls [])) : W p l e room_1 s m #[Value.ref b] below meth c H locs cells slots (lw_Z below #[Value.ref b] s) (F0 m 398 ls []) := by
  obtain ⟨hx, hb, hr, hml, hown, hts, hX0, hbl, hlocks, hgv⟩ := id C0
  have zc : zC p s m #[Value.ref b] meth c cL_law 4 RL ret := ⟨hx, hb, hml, hown, fun w hw => hts w (zb_in hw), hr, hlocks⟩
  have hbA : ¬ (fun q : Nat => s.heap.size ≤ q) b := Nat.not_le.mpr hbl
  refine lv_aload_n hx hb dL_law_398 rfl (lv_at hl 1 rfl) ?_
  refine lv_aload_n hx hb dL_law_399 rfl (lv_at hl 0 rfl) ?_
  refine lv_iload_n hx hb dL_law_400 rfl (lv_at hl 3 rfl) ?_
  refine lv_iconst (v := (1 : Int32)) hx hb dL_law_401 (by decide) ?_
  refine lv_iadd hx hb dL_law_402 ?_
  refine va_sld hx hb hX0 hbl hbA hS (zidx (k := 1) hi hL rfl (by decide)) dL_law_403 ?_
  refine lv_aload_n hx hb dL_law_404 rfl (lv_at hl 0 rfl) ?_
  refine lv_iload_n hx hb dL_law_405 rfl (lv_at hl 3 rfl) ?_
  refine lv_iconst (v := (2 : Int32)) hx hb dL_law_406 (by decide) ?_
  refine lv_iadd hx hb dL_law_407 ?_
  refine va_sld hx hb hX0 hbl hbA hS (zidx (k := 2) hi hL rfl (by decide)) dL_law_408 ?_
  refine lv_aload_n hx hb dL_law_409 rfl (lv_at hl 0 rfl) ?_
  refine lv_iload_n hx hb dL_law_410 rfl (lv_at hl 3 rfl) ?_
  refine lv_iconst (v := (3 : Int32)) hx hb dL_law_411 (by decide) ?_
  refine lv_iadd hx hb dL_law_412 ?_
  refine va_sld hx hb hX0 hbl hbA hS (zidx (k := 3) hi hL rfl (by decide)) dL_law_413 ?_
  have hB0 := tB_of hG.2.2.2.1
  have hI0 := tBI_of hG.2.2.1
  refine gx_deed [] hcs C0 hbx hbm hK hO hG hS hl.1 (Nat.le_of_ble_eq_true rfl) kmL_41 dL_law_414 (fun r1 mi' ko' T' I' H locs cells' slots' hx1 e1 e2 hG1 hS1 => ?_)
  obtain ⟨rfl, rfl, rfl⟩ := hx1
  have hG := hG1
  have hS := hS1
  refine lv_pop hx hb dL_law_417 rfl ?_
  refine lv_aload_n hx hb dL_law_418 rfl (lv_at hl 2 rfl) ?_
  refine lv_aload_n hx hb dL_law_419 rfl (lv_at hl 0 rfl) ?_
  refine lv_iload_n hx hb dL_law_420 rfl (lv_at hl 3 rfl) ?_
  refine lv_iconst (v := (1 : Int32)) hx hb dL_law_421 (by decide) ?_
  refine lv_iadd hx hb dL_law_422 ?_
  refine va_sld hx hb hX0 hbl hbA hS (zidx (k := 1) hi hL rfl (by decide)) dL_law_423 ?_
  refine lv_aload_n hx hb dL_law_424 rfl (lv_at hl 0 rfl) ?_
  refine lv_iload_n hx hb dL_law_425 rfl (lv_at hl 3 rfl) ?_
  refine lv_iconst (v := (2 : Int32)) hx hb dL_law_426 (by decide) ?_
  refine lv_iadd hx hb dL_law_427 ?_
  refine va_sld hx hb hX0 hbl hbA hS (zidx (k := 2) hi hL rfl (by decide)) dL_law_428 ?_
  refine lv_aload_n hx hb dL_law_429 rfl (lv_at hl 0 rfl) ?_
  refine lv_iload_n hx hb dL_law_430 rfl (lv_at hl 3 rfl) ?_
  refine lv_iconst (v := (3 : Int32)) hx hb dL_law_431 (by decide) ?_
  refine lv_iadd hx hb dL_law_432 ?_
  refine va_sld hx hb hX0 hbl hbA hS (zidx (k := 3) hi hL rfl (by decide)) dL_law_433 ?_
  refine gm_deed [] ⟨Nat.le_trans e1 hcs.1, Nat.le_trans e2 hcs.2⟩ C0 hbx hbm hK hO hG hS hl.1 (Nat.le_of_ble_eq_true rfl) kmL_44 dL_law_434 (fun r2 M' H locs hm1 hG2 hS2 => ?_)
  obtain rfl := hm1
  have hG := hG2
  have hS := hS2
  refine lv_pop hx hb dL_law_437 rfl ?_
  refine lv_goto (tgt := 1647) hx hb dL_law_438 (by decide) ?_
  exact kk _ _ _ _ _ _ _ _ _ e1 e2 hR hG hS

set_option maxRecDepth 40000 in
set_option maxHeartbeats 4000000 in
theorem g_7 {p : Program} {l : Launch} {e : Env} {s : State} {m : MethodId} {below : List Frame} {meth : Method} {c : Code} {E : zE} {G : zG} {b L i bx bm cells slots : Nat} {xs : Nat → Int32} {mi : Nat → Option Nat} {ko : Option Nat} {T : TT} {M : Nat → Nat → Int32} {I : Nat → TT} {H : Heap} {locs : List Loc} {ls : Array Slot} (hi : i + 6 ≤ L) (hL : L ≤ 3072) (hR : RG T M I mi) (hcs : cells + 47 ≤ room_1.cells ∧ slots + 4608 ≤ room_1.slots) (C0 : lw_At p s m meth c b L xs) (hbx : s.heap.size ≤ bx) (hbm : bx + 93 ≤ bm) (hK : zK E s) (hO : zO s ∧ zZ G (fun q => s.heap.size ≤ q) s s.heap) (hG : GG E bx bm mi ko T M I H) (hS : va_S (fun q => s.heap.size ≤ q) s.heap H locs) (hl : lv_has ls 4 [(0, .ref b), (1, .ref bx), (2, .ref bm), (3, .int (nI i))])
    (kk : ∀ (mi : Nat → Option Nat) (ko : Option Nat) (T : TT) (M : Nat → Nat → Int32) (I : Nat → TT) (H : Heap) (locs : List Loc) (cells' slots' : Nat), cells' ≤ cells + 47 → slots' ≤ slots + 4608 → RG T M I mi → GG E bx bm mi ko T M I H → va_S (fun q => s.heap.size ≤ q) s.heap H locs → W p l e room_1 s m #[Value.ref b] below meth c H locs cells' slots' (lw_Z below #[Value.ref b] s) (F0 m 1647 ls [])) : W p l e room_1 s m #[Value.ref b] below meth c H locs cells slots (lw_Z below #[Value.ref b] s) (F0 m 441 ls []) := by
  obtain ⟨hx, hb, hr, hml, hown, hts, hX0, hbl, hlocks, hgv⟩ := id C0
  have zc : zC p s m #[Value.ref b] meth c cL_law 4 RL ret := ⟨hx, hb, hml, hown, fun w hw => hts w (zb_in hw), hr, hlocks⟩
  have hbA : ¬ (fun q : Nat => s.heap.size ≤ q) b := Nat.not_le.mpr hbl
  refine lv_aload_n hx hb dL_law_441 rfl (lv_at hl 1 rfl) ?_
  refine lv_aload_n hx hb dL_law_442 rfl (lv_at hl 0 rfl) ?_
  refine lv_iload_n hx hb dL_law_443 rfl (lv_at hl 3 rfl) ?_
  refine lv_iconst (v := (1 : Int32)) hx hb dL_law_444 (by decide) ?_
  refine lv_iadd hx hb dL_law_445 ?_
  refine va_sld hx hb hX0 hbl hbA hS (zidx (k := 1) hi hL rfl (by decide)) dL_law_446 ?_
  refine lv_aload_n hx hb dL_law_447 rfl (lv_at hl 0 rfl) ?_
  refine lv_iload_n hx hb dL_law_448 rfl (lv_at hl 3 rfl) ?_
  refine lv_iconst (v := (2 : Int32)) hx hb dL_law_449 (by decide) ?_
  refine lv_iadd hx hb dL_law_450 ?_
  refine va_sld hx hb hX0 hbl hbA hS (zidx (k := 2) hi hL rfl (by decide)) dL_law_451 ?_
  have hB0 := tB_of hG.2.2.2.1
  have hI0 := tBI_of hG.2.2.1
  refine gx_stop [] hcs C0 hbx hbm hK hO hG hS hl.1 (Nat.le_of_ble_eq_true rfl) kmL_45 dL_law_452 (fun r1 mi' ko' T' I' H locs cells' slots' hx1 e1 e2 hG1 hS1 => ?_)
  obtain ⟨rfl, rfl, rfl⟩ := hx1
  have hG := hG1
  have hS := hS1
  refine lv_pop hx hb dL_law_455 rfl ?_
  refine lv_aload_n hx hb dL_law_456 rfl (lv_at hl 2 rfl) ?_
  refine lv_aload_n hx hb dL_law_457 rfl (lv_at hl 0 rfl) ?_
  refine lv_iload_n hx hb dL_law_458 rfl (lv_at hl 3 rfl) ?_
  refine lv_iconst (v := (1 : Int32)) hx hb dL_law_459 (by decide) ?_
  refine lv_iadd hx hb dL_law_460 ?_
  refine va_sld hx hb hX0 hbl hbA hS (zidx (k := 1) hi hL rfl (by decide)) dL_law_461 ?_
  refine lv_aload_n hx hb dL_law_462 rfl (lv_at hl 0 rfl) ?_
  refine lv_iload_n hx hb dL_law_463 rfl (lv_at hl 3 rfl) ?_
  refine lv_iconst (v := (2 : Int32)) hx hb dL_law_464 (by decide) ?_
  refine lv_iadd hx hb dL_law_465 ?_
  refine va_sld hx hb hX0 hbl hbA hS (zidx (k := 2) hi hL rfl (by decide)) dL_law_466 ?_
  refine gm_stop [] ⟨Nat.le_trans e1 hcs.1, Nat.le_trans e2 hcs.2⟩ C0 hbx hbm hK hO hG hS hl.1 (Nat.le_of_ble_eq_true rfl) kmL_48 dL_law_467 (fun r2 M' H locs hm1 hG2 hS2 => ?_)
  obtain rfl := hm1
  have hG := hG2
  have hS := hS2
  refine lv_pop hx hb dL_law_470 rfl ?_
  refine lv_goto (tgt := 1647) hx hb dL_law_471 (by decide) ?_
  exact kk _ _ _ _ _ _ _ _ _ e1 e2 hR hG hS

set_option maxRecDepth 40000 in
set_option maxHeartbeats 4000000 in
theorem g_8 {p : Program} {l : Launch} {e : Env} {s : State} {m : MethodId} {below : List Frame} {meth : Method} {c : Code} {E : zE} {G : zG} {b L i bx bm cells slots : Nat} {xs : Nat → Int32} {mi : Nat → Option Nat} {ko : Option Nat} {T : TT} {M : Nat → Nat → Int32} {I : Nat → TT} {H : Heap} {locs : List Loc} {ls : Array Slot} (hi : i + 6 ≤ L) (hL : L ≤ 3072) (hR : RG T M I mi) (hcs : cells + 47 ≤ room_1.cells ∧ slots + 4608 ≤ room_1.slots) (C0 : lw_At p s m meth c b L xs) (hbx : s.heap.size ≤ bx) (hbm : bx + 93 ≤ bm) (hK : zK E s) (hO : zO s ∧ zZ G (fun q => s.heap.size ≤ q) s s.heap) (hG : GG E bx bm mi ko T M I H) (hS : va_S (fun q => s.heap.size ≤ q) s.heap H locs) (hl : lv_has ls 4 [(0, .ref b), (1, .ref bx), (2, .ref bm), (3, .int (nI i))])
    (kk : ∀ (mi : Nat → Option Nat) (ko : Option Nat) (T : TT) (M : Nat → Nat → Int32) (I : Nat → TT) (H : Heap) (locs : List Loc) (cells' slots' : Nat), cells' ≤ cells + 47 → slots' ≤ slots + 4608 → RG T M I mi → GG E bx bm mi ko T M I H → va_S (fun q => s.heap.size ≤ q) s.heap H locs → W p l e room_1 s m #[Value.ref b] below meth c H locs cells' slots' (lw_Z below #[Value.ref b] s) (F0 m 1647 ls [])) : W p l e room_1 s m #[Value.ref b] below meth c H locs cells slots (lw_Z below #[Value.ref b] s) (F0 m 474 ls []) := by
  obtain ⟨hx, hb, hr, hml, hown, hts, hX0, hbl, hlocks, hgv⟩ := id C0
  have zc : zC p s m #[Value.ref b] meth c cL_law 4 RL ret := ⟨hx, hb, hml, hown, fun w hw => hts w (zb_in hw), hr, hlocks⟩
  have hbA : ¬ (fun q : Nat => s.heap.size ≤ q) b := Nat.not_le.mpr hbl
  refine lv_aload_n hx hb dL_law_474 rfl (lv_at hl 1 rfl) ?_
  refine lv_aload_n hx hb dL_law_475 rfl (lv_at hl 0 rfl) ?_
  refine lv_iload_n hx hb dL_law_476 rfl (lv_at hl 3 rfl) ?_
  refine lv_iconst (v := (1 : Int32)) hx hb dL_law_477 (by decide) ?_
  refine lv_iadd hx hb dL_law_478 ?_
  refine va_sld hx hb hX0 hbl hbA hS (zidx (k := 1) hi hL rfl (by decide)) dL_law_479 ?_
  refine lv_aload_n hx hb dL_law_480 rfl (lv_at hl 0 rfl) ?_
  refine lv_iload_n hx hb dL_law_481 rfl (lv_at hl 3 rfl) ?_
  refine lv_iconst (v := (2 : Int32)) hx hb dL_law_482 (by decide) ?_
  refine lv_iadd hx hb dL_law_483 ?_
  refine va_sld hx hb hX0 hbl hbA hS (zidx (k := 2) hi hL rfl (by decide)) dL_law_484 ?_
  refine lv_aload_n hx hb dL_law_485 rfl (lv_at hl 0 rfl) ?_
  refine lv_iload_n hx hb dL_law_486 rfl (lv_at hl 3 rfl) ?_
  refine lv_iconst (v := (3 : Int32)) hx hb dL_law_487 (by decide) ?_
  refine lv_iadd hx hb dL_law_488 ?_
  refine va_sld hx hb hX0 hbl hbA hS (zidx (k := 3) hi hL rfl (by decide)) dL_law_489 ?_
  refine lv_aload_n hx hb dL_law_490 rfl (lv_at hl 0 rfl) ?_
  refine lv_iload_n hx hb dL_law_491 rfl (lv_at hl 3 rfl) ?_
  refine lv_iconst (v := (4 : Int32)) hx hb dL_law_492 (by decide) ?_
  refine lv_iadd hx hb dL_law_493 ?_
  refine va_sld hx hb hX0 hbl hbA hS (zidx (k := 4) hi hL rfl (by decide)) dL_law_494 ?_
  have hB0 := tB_of hG.2.2.2.1
  have hI0 := tBI_of hG.2.2.1
  refine gx_state [] hcs C0 hbx hbm hK hO hG hS hl.1 (Nat.le_of_ble_eq_true rfl) kmL_49 dL_law_495 (fun r1 mi' ko' T' I' H locs cells' slots' hx1 e1 e2 hG1 hS1 => ?_)
  obtain ⟨rfl, rfl, rfl⟩ := hx1
  have hG := hG1
  have hS := hS1
  refine lv_pop hx hb dL_law_498 rfl ?_
  refine lv_aload_n hx hb dL_law_499 rfl (lv_at hl 2 rfl) ?_
  refine lv_aload_n hx hb dL_law_500 rfl (lv_at hl 0 rfl) ?_
  refine lv_iload_n hx hb dL_law_501 rfl (lv_at hl 3 rfl) ?_
  refine lv_iconst (v := (1 : Int32)) hx hb dL_law_502 (by decide) ?_
  refine lv_iadd hx hb dL_law_503 ?_
  refine va_sld hx hb hX0 hbl hbA hS (zidx (k := 1) hi hL rfl (by decide)) dL_law_504 ?_
  refine lv_aload_n hx hb dL_law_505 rfl (lv_at hl 0 rfl) ?_
  refine lv_iload_n hx hb dL_law_506 rfl (lv_at hl 3 rfl) ?_
  refine lv_iconst (v := (2 : Int32)) hx hb dL_law_507 (by decide) ?_
  refine lv_iadd hx hb dL_law_508 ?_
  refine va_sld hx hb hX0 hbl hbA hS (zidx (k := 2) hi hL rfl (by decide)) dL_law_509 ?_
  refine lv_aload_n hx hb dL_law_510 rfl (lv_at hl 0 rfl) ?_
  refine lv_iload_n hx hb dL_law_511 rfl (lv_at hl 3 rfl) ?_
  refine lv_iconst (v := (3 : Int32)) hx hb dL_law_512 (by decide) ?_
  refine lv_iadd hx hb dL_law_513 ?_
  refine va_sld hx hb hX0 hbl hbA hS (zidx (k := 3) hi hL rfl (by decide)) dL_law_514 ?_
  refine lv_aload_n hx hb dL_law_515 rfl (lv_at hl 0 rfl) ?_
  refine lv_iload_n hx hb dL_law_516 rfl (lv_at hl 3 rfl) ?_
  refine lv_iconst (v := (4 : Int32)) hx hb dL_law_517 (by decide) ?_
  refine lv_iadd hx hb dL_law_518 ?_
  refine va_sld hx hb hX0 hbl hbA hS (zidx (k := 4) hi hL rfl (by decide)) dL_law_519 ?_
  refine gm_state [] ⟨Nat.le_trans e1 hcs.1, Nat.le_trans e2 hcs.2⟩ C0 hbx hbm hK hO hG hS hl.1 (Nat.le_of_ble_eq_true rfl) kmL_53 dL_law_520 (fun r2 M' H locs hm1 hG2 hS2 => ?_)
  obtain rfl := hm1
  have hG := hG2
  have hS := hS2
  refine lv_pop hx hb dL_law_523 rfl ?_
  refine lv_goto (tgt := 1647) hx hb dL_law_524 (by decide) ?_
  exact kk _ _ _ _ _ _ _ _ _ e1 e2 hR hG hS

set_option maxRecDepth 40000 in
set_option maxHeartbeats 4000000 in
theorem g_9 {p : Program} {l : Launch} {e : Env} {s : State} {m : MethodId} {below : List Frame} {meth : Method} {c : Code} {E : zE} {G : zG} {b L i bx bm cells slots : Nat} {xs : Nat → Int32} {mi : Nat → Option Nat} {ko : Option Nat} {T : TT} {M : Nat → Nat → Int32} {I : Nat → TT} {H : Heap} {locs : List Loc} {ls : Array Slot} (hi : i + 6 ≤ L) (hL : L ≤ 3072) (hR : RG T M I mi) (hcs : cells + 47 ≤ room_1.cells ∧ slots + 4608 ≤ room_1.slots) (C0 : lw_At p s m meth c b L xs) (hbx : s.heap.size ≤ bx) (hbm : bx + 93 ≤ bm) (hK : zK E s) (hO : zO s ∧ zZ G (fun q => s.heap.size ≤ q) s s.heap) (hG : GG E bx bm mi ko T M I H) (hS : va_S (fun q => s.heap.size ≤ q) s.heap H locs) (hl : lv_has ls 4 [(0, .ref b), (1, .ref bx), (2, .ref bm), (3, .int (nI i))])
    (kk : ∀ (mi : Nat → Option Nat) (ko : Option Nat) (T : TT) (M : Nat → Nat → Int32) (I : Nat → TT) (H : Heap) (locs : List Loc) (cells' slots' : Nat), cells' ≤ cells + 47 → slots' ≤ slots + 4608 → RG T M I mi → GG E bx bm mi ko T M I H → va_S (fun q => s.heap.size ≤ q) s.heap H locs → W p l e room_1 s m #[Value.ref b] below meth c H locs cells' slots' (lw_Z below #[Value.ref b] s) (F0 m 1647 ls [])) : W p l e room_1 s m #[Value.ref b] below meth c H locs cells slots (lw_Z below #[Value.ref b] s) (F0 m 527 ls []) := by
  obtain ⟨hx, hb, hr, hml, hown, hts, hX0, hbl, hlocks, hgv⟩ := id C0
  have zc : zC p s m #[Value.ref b] meth c cL_law 4 RL ret := ⟨hx, hb, hml, hown, fun w hw => hts w (zb_in hw), hr, hlocks⟩
  have hbA : ¬ (fun q : Nat => s.heap.size ≤ q) b := Nat.not_le.mpr hbl
  refine lv_aload_n hx hb dL_law_527 rfl (lv_at hl 1 rfl) ?_
  refine lv_aload_n hx hb dL_law_528 rfl (lv_at hl 0 rfl) ?_
  refine lv_iload_n hx hb dL_law_529 rfl (lv_at hl 3 rfl) ?_
  refine lv_iconst (v := (1 : Int32)) hx hb dL_law_530 (by decide) ?_
  refine lv_iadd hx hb dL_law_531 ?_
  refine va_sld hx hb hX0 hbl hbA hS (zidx (k := 1) hi hL rfl (by decide)) dL_law_532 ?_
  refine lv_aload_n hx hb dL_law_533 rfl (lv_at hl 0 rfl) ?_
  refine lv_iload_n hx hb dL_law_534 rfl (lv_at hl 3 rfl) ?_
  refine lv_iconst (v := (2 : Int32)) hx hb dL_law_535 (by decide) ?_
  refine lv_iadd hx hb dL_law_536 ?_
  refine va_sld hx hb hX0 hbl hbA hS (zidx (k := 2) hi hL rfl (by decide)) dL_law_537 ?_
  refine lv_aload_n hx hb dL_law_538 rfl (lv_at hl 0 rfl) ?_
  refine lv_iload_n hx hb dL_law_539 rfl (lv_at hl 3 rfl) ?_
  refine lv_iconst (v := (3 : Int32)) hx hb dL_law_540 (by decide) ?_
  refine lv_iadd hx hb dL_law_541 ?_
  refine va_sld hx hb hX0 hbl hbA hS (zidx (k := 3) hi hL rfl (by decide)) dL_law_542 ?_
  have hB0 := tB_of hG.2.2.2.1
  have hI0 := tBI_of hG.2.2.1
  refine gx_comes [] hcs C0 hbx hbm hK hO hG hS hl.1 (Nat.le_of_ble_eq_true rfl) kmL_54 dL_law_543 (fun r1 mi' ko' T' I' H locs cells' slots' hx1 e1 e2 hG1 hS1 => ?_)
  obtain ⟨rfl, rfl, rfl⟩ := hx1
  have hG := hG1
  have hS := hS1
  refine lv_pop hx hb dL_law_546 rfl ?_
  refine lv_aload_n hx hb dL_law_547 rfl (lv_at hl 2 rfl) ?_
  refine lv_aload_n hx hb dL_law_548 rfl (lv_at hl 0 rfl) ?_
  refine lv_iload_n hx hb dL_law_549 rfl (lv_at hl 3 rfl) ?_
  refine lv_iconst (v := (1 : Int32)) hx hb dL_law_550 (by decide) ?_
  refine lv_iadd hx hb dL_law_551 ?_
  refine va_sld hx hb hX0 hbl hbA hS (zidx (k := 1) hi hL rfl (by decide)) dL_law_552 ?_
  refine lv_aload_n hx hb dL_law_553 rfl (lv_at hl 0 rfl) ?_
  refine lv_iload_n hx hb dL_law_554 rfl (lv_at hl 3 rfl) ?_
  refine lv_iconst (v := (2 : Int32)) hx hb dL_law_555 (by decide) ?_
  refine lv_iadd hx hb dL_law_556 ?_
  refine va_sld hx hb hX0 hbl hbA hS (zidx (k := 2) hi hL rfl (by decide)) dL_law_557 ?_
  refine lv_aload_n hx hb dL_law_558 rfl (lv_at hl 0 rfl) ?_
  refine lv_iload_n hx hb dL_law_559 rfl (lv_at hl 3 rfl) ?_
  refine lv_iconst (v := (3 : Int32)) hx hb dL_law_560 (by decide) ?_
  refine lv_iadd hx hb dL_law_561 ?_
  refine va_sld hx hb hX0 hbl hbA hS (zidx (k := 3) hi hL rfl (by decide)) dL_law_562 ?_
  refine gm_comes [] ⟨Nat.le_trans e1 hcs.1, Nat.le_trans e2 hcs.2⟩ C0 hbx hbm hK hO hG hS hl.1 (Nat.le_of_ble_eq_true rfl) kmL_57 dL_law_563 (fun r2 M' H locs hm1 hG2 hS2 => ?_)
  obtain rfl := hm1
  have hG := hG2
  have hS := hS2
  refine lv_pop hx hb dL_law_566 rfl ?_
  refine lv_goto (tgt := 1647) hx hb dL_law_567 (by decide) ?_
  exact kk _ _ _ _ _ _ _ _ _ e1 e2 hR hG hS

set_option maxRecDepth 40000 in
set_option maxHeartbeats 4000000 in
theorem g_10 {p : Program} {l : Launch} {e : Env} {s : State} {m : MethodId} {below : List Frame} {meth : Method} {c : Code} {E : zE} {G : zG} {b L i bx bm cells slots : Nat} {xs : Nat → Int32} {mi : Nat → Option Nat} {ko : Option Nat} {T : TT} {M : Nat → Nat → Int32} {I : Nat → TT} {H : Heap} {locs : List Loc} {ls : Array Slot} (hi : i + 6 ≤ L) (hL : L ≤ 3072) (hR : RG T M I mi) (hcs : cells + 47 ≤ room_1.cells ∧ slots + 4608 ≤ room_1.slots) (C0 : lw_At p s m meth c b L xs) (hbx : s.heap.size ≤ bx) (hbm : bx + 93 ≤ bm) (hK : zK E s) (hO : zO s ∧ zZ G (fun q => s.heap.size ≤ q) s s.heap) (hG : GG E bx bm mi ko T M I H) (hS : va_S (fun q => s.heap.size ≤ q) s.heap H locs) (hl : lv_has ls 4 [(0, .ref b), (1, .ref bx), (2, .ref bm), (3, .int (nI i))])
    (kk : ∀ (mi : Nat → Option Nat) (ko : Option Nat) (T : TT) (M : Nat → Nat → Int32) (I : Nat → TT) (H : Heap) (locs : List Loc) (cells' slots' : Nat), cells' ≤ cells + 47 → slots' ≤ slots + 4608 → RG T M I mi → GG E bx bm mi ko T M I H → va_S (fun q => s.heap.size ≤ q) s.heap H locs → W p l e room_1 s m #[Value.ref b] below meth c H locs cells' slots' (lw_Z below #[Value.ref b] s) (F0 m 1647 ls [])) : W p l e room_1 s m #[Value.ref b] below meth c H locs cells slots (lw_Z below #[Value.ref b] s) (F0 m 570 ls []) := by
  obtain ⟨hx, hb, hr, hml, hown, hts, hX0, hbl, hlocks, hgv⟩ := id C0
  have zc : zC p s m #[Value.ref b] meth c cL_law 4 RL ret := ⟨hx, hb, hml, hown, fun w hw => hts w (zb_in hw), hr, hlocks⟩
  have hbA : ¬ (fun q : Nat => s.heap.size ≤ q) b := Nat.not_le.mpr hbl
  refine lv_aload_n hx hb dL_law_570 rfl (lv_at hl 1 rfl) ?_
  refine lv_aload_n hx hb dL_law_571 rfl (lv_at hl 0 rfl) ?_
  refine lv_iload_n hx hb dL_law_572 rfl (lv_at hl 3 rfl) ?_
  refine lv_iconst (v := (1 : Int32)) hx hb dL_law_573 (by decide) ?_
  refine lv_iadd hx hb dL_law_574 ?_
  refine va_sld hx hb hX0 hbl hbA hS (zidx (k := 1) hi hL rfl (by decide)) dL_law_575 ?_
  refine lv_aload_n hx hb dL_law_576 rfl (lv_at hl 0 rfl) ?_
  refine lv_iload_n hx hb dL_law_577 rfl (lv_at hl 3 rfl) ?_
  refine lv_iconst (v := (2 : Int32)) hx hb dL_law_578 (by decide) ?_
  refine lv_iadd hx hb dL_law_579 ?_
  refine va_sld hx hb hX0 hbl hbA hS (zidx (k := 2) hi hL rfl (by decide)) dL_law_580 ?_
  refine lv_aload_n hx hb dL_law_581 rfl (lv_at hl 0 rfl) ?_
  refine lv_iload_n hx hb dL_law_582 rfl (lv_at hl 3 rfl) ?_
  refine lv_iconst (v := (3 : Int32)) hx hb dL_law_583 (by decide) ?_
  refine lv_iadd hx hb dL_law_584 ?_
  refine va_sld hx hb hX0 hbl hbA hS (zidx (k := 3) hi hL rfl (by decide)) dL_law_585 ?_
  have hB0 := tB_of hG.2.2.2.1
  have hI0 := tBI_of hG.2.2.1
  refine gx_villages [] hcs C0 hbx hbm hK hO hG hS hl.1 (Nat.le_of_ble_eq_true rfl) kmL_58 dL_law_586 (fun r1 mi' ko' T' I' H locs cells' slots' hx1 e1 e2 hG1 hS1 => ?_)
  obtain ⟨rfl, rfl, rfl⟩ := hx1
  have hG := hG1
  have hS := hS1
  refine lv_pop hx hb dL_law_589 rfl ?_
  refine lv_aload_n hx hb dL_law_590 rfl (lv_at hl 2 rfl) ?_
  refine lv_aload_n hx hb dL_law_591 rfl (lv_at hl 0 rfl) ?_
  refine lv_iload_n hx hb dL_law_592 rfl (lv_at hl 3 rfl) ?_
  refine lv_iconst (v := (1 : Int32)) hx hb dL_law_593 (by decide) ?_
  refine lv_iadd hx hb dL_law_594 ?_
  refine va_sld hx hb hX0 hbl hbA hS (zidx (k := 1) hi hL rfl (by decide)) dL_law_595 ?_
  refine lv_aload_n hx hb dL_law_596 rfl (lv_at hl 0 rfl) ?_
  refine lv_iload_n hx hb dL_law_597 rfl (lv_at hl 3 rfl) ?_
  refine lv_iconst (v := (2 : Int32)) hx hb dL_law_598 (by decide) ?_
  refine lv_iadd hx hb dL_law_599 ?_
  refine va_sld hx hb hX0 hbl hbA hS (zidx (k := 2) hi hL rfl (by decide)) dL_law_600 ?_
  refine lv_aload_n hx hb dL_law_601 rfl (lv_at hl 0 rfl) ?_
  refine lv_iload_n hx hb dL_law_602 rfl (lv_at hl 3 rfl) ?_
  refine lv_iconst (v := (3 : Int32)) hx hb dL_law_603 (by decide) ?_
  refine lv_iadd hx hb dL_law_604 ?_
  refine va_sld hx hb hX0 hbl hbA hS (zidx (k := 3) hi hL rfl (by decide)) dL_law_605 ?_
  refine gm_villages [] ⟨Nat.le_trans e1 hcs.1, Nat.le_trans e2 hcs.2⟩ C0 hbx hbm hK hO hG hS hl.1 (Nat.le_of_ble_eq_true rfl) kmL_61 dL_law_606 (fun r2 M' H locs hm1 hG2 hS2 => ?_)
  obtain rfl := hm1
  have hG := hG2
  have hS := hS2
  refine lv_pop hx hb dL_law_609 rfl ?_
  refine lv_goto (tgt := 1647) hx hb dL_law_610 (by decide) ?_
  exact kk _ _ _ _ _ _ _ _ _ e1 e2 hR hG hS
end
section
set_option maxRecDepth 40000 in
set_option maxHeartbeats 4000000 in
theorem g_11 {p : Program} {l : Launch} {e : Env} {s : State} {m : MethodId} {below : List Frame} {meth : Method} {c : Code} {E : zE} {G : zG} {b L i bx bm cells slots : Nat} {xs : Nat → Int32} {mi : Nat → Option Nat} {ko : Option Nat} {T : TT} {M : Nat → Nat → Int32} {I : Nat → TT} {H : Heap} {locs : List Loc} {ls : Array Slot} (hi : i + 6 ≤ L) (hL : L ≤ 3072) (hR : RG T M I mi) (hcs : cells + 47 ≤ room_1.cells ∧ slots + 4608 ≤ room_1.slots) (C0 : lw_At p s m meth c b L xs) (hbx : s.heap.size ≤ bx) (hbm : bx + 93 ≤ bm) (hK : zK E s) (hO : zO s ∧ zZ G (fun q => s.heap.size ≤ q) s s.heap) (hG : GG E bx bm mi ko T M I H) (hS : va_S (fun q => s.heap.size ≤ q) s.heap H locs) (hl : lv_has ls 4 [(0, .ref b), (1, .ref bx), (2, .ref bm), (3, .int (nI i))])
    (kk : ∀ (mi : Nat → Option Nat) (ko : Option Nat) (T : TT) (M : Nat → Nat → Int32) (I : Nat → TT) (H : Heap) (locs : List Loc) (cells' slots' : Nat), cells' ≤ cells + 47 → slots' ≤ slots + 4608 → RG T M I mi → GG E bx bm mi ko T M I H → va_S (fun q => s.heap.size ≤ q) s.heap H locs → W p l e room_1 s m #[Value.ref b] below meth c H locs cells' slots' (lw_Z below #[Value.ref b] s) (F0 m 1647 ls [])) : W p l e room_1 s m #[Value.ref b] below meth c H locs cells slots (lw_Z below #[Value.ref b] s) (F0 m 613 ls []) := by
  obtain ⟨hx, hb, hr, hml, hown, hts, hX0, hbl, hlocks, hgv⟩ := id C0
  have zc : zC p s m #[Value.ref b] meth c cL_law 4 RL ret := ⟨hx, hb, hml, hown, fun w hw => hts w (zb_in hw), hr, hlocks⟩
  have hbA : ¬ (fun q : Nat => s.heap.size ≤ q) b := Nat.not_le.mpr hbl
  refine lv_aload_n hx hb dL_law_613 rfl (lv_at hl 1 rfl) ?_
  refine lv_aload_n hx hb dL_law_614 rfl (lv_at hl 0 rfl) ?_
  refine lv_iload_n hx hb dL_law_615 rfl (lv_at hl 3 rfl) ?_
  refine lv_iconst (v := (1 : Int32)) hx hb dL_law_616 (by decide) ?_
  refine lv_iadd hx hb dL_law_617 ?_
  refine va_sld hx hb hX0 hbl hbA hS (zidx (k := 1) hi hL rfl (by decide)) dL_law_618 ?_
  refine lv_aload_n hx hb dL_law_619 rfl (lv_at hl 0 rfl) ?_
  refine lv_iload_n hx hb dL_law_620 rfl (lv_at hl 3 rfl) ?_
  refine lv_iconst (v := (2 : Int32)) hx hb dL_law_621 (by decide) ?_
  refine lv_iadd hx hb dL_law_622 ?_
  refine va_sld hx hb hX0 hbl hbA hS (zidx (k := 2) hi hL rfl (by decide)) dL_law_623 ?_
  refine lv_if_eq (tgt := 631) hx hb dL_law_624 (by decide) (fun hc0 => ?_) (fun hc0 => ?_)
  ·
    refine lv_iconst (v := (0 : Int32)) hx hb dL_law_631 (by decide) ?_
    have hB0 := tB_of hG.2.2.2.1
    have hI0 := tBI_of hG.2.2.1
    refine gx_best [] hcs C0 hbx hbm hK hO hG hS hl.1 (Nat.le_of_ble_eq_true rfl) kmL_62 dL_law_632 (fun r1 mi' ko' T' I' H locs cells' slots' hx1 e1 e2 hG1 hS1 => ?_)
    obtain ⟨rfl, rfl, rfl⟩ := hx1
    have hG := hG1
    have hS := hS1
    refine lv_pop hx hb dL_law_635 rfl ?_
    refine lv_aload_n hx hb dL_law_636 rfl (lv_at hl 2 rfl) ?_
    refine lv_aload_n hx hb dL_law_637 rfl (lv_at hl 0 rfl) ?_
    refine lv_iload_n hx hb dL_law_638 rfl (lv_at hl 3 rfl) ?_
    refine lv_iconst (v := (1 : Int32)) hx hb dL_law_639 (by decide) ?_
    refine lv_iadd hx hb dL_law_640 ?_
    refine va_sld hx hb hX0 hbl hbA hS (zidx (k := 1) hi hL rfl (by decide)) dL_law_641 ?_
    refine lv_aload_n hx hb dL_law_642 rfl (lv_at hl 0 rfl) ?_
    refine lv_iload_n hx hb dL_law_643 rfl (lv_at hl 3 rfl) ?_
    refine lv_iconst (v := (2 : Int32)) hx hb dL_law_644 (by decide) ?_
    refine lv_iadd hx hb dL_law_645 ?_
    refine va_sld hx hb hX0 hbl hbA hS (zidx (k := 2) hi hL rfl (by decide)) dL_law_646 ?_
    refine lv_if_eq (tgt := 654) hx hb dL_law_647 (by decide) (fun hc11 => ?_) (fun hc11 => ?_)
    ·
      refine lv_iconst (v := (0 : Int32)) hx hb dL_law_654 (by decide) ?_
      refine gm_best [] ⟨Nat.le_trans e1 hcs.1, Nat.le_trans e2 hcs.2⟩ C0 hbx hbm hK hO hG hS hl.1 (Nat.le_of_ble_eq_true rfl) kmL_66 dL_law_655 (fun r2 M' H locs hm1 hG2 hS2 => ?_)
      obtain rfl := hm1
      have hG := hG2
      have hS := hS2
      refine lv_pop hx hb dL_law_658 rfl ?_
      refine lv_goto (tgt := 1647) hx hb dL_law_659 (by decide) ?_
      exact kk _ _ _ _ _ _ _ _ _ e1 e2 hR hG hS
    ·
      refine lv_iconst (v := (1 : Int32)) hx hb dL_law_650 (by decide) ?_
      refine lv_goto (tgt := 655) hx hb dL_law_651 (by decide) ?_
      refine gm_best [] ⟨Nat.le_trans e1 hcs.1, Nat.le_trans e2 hcs.2⟩ C0 hbx hbm hK hO hG hS hl.1 (Nat.le_of_ble_eq_true rfl) kmL_66 dL_law_655 (fun r2 M' H locs hm1 hG2 hS2 => ?_)
      obtain rfl := hm1
      have hG := hG2
      have hS := hS2
      refine lv_pop hx hb dL_law_658 rfl ?_
      refine lv_goto (tgt := 1647) hx hb dL_law_659 (by decide) ?_
      exact kk _ _ _ _ _ _ _ _ _ e1 e2 hR hG hS
  ·
    refine lv_iconst (v := (1 : Int32)) hx hb dL_law_627 (by decide) ?_
    refine lv_goto (tgt := 632) hx hb dL_law_628 (by decide) ?_
    have hB0 := tB_of hG.2.2.2.1
    have hI0 := tBI_of hG.2.2.1
    refine gx_best [] hcs C0 hbx hbm hK hO hG hS hl.1 (Nat.le_of_ble_eq_true rfl) kmL_62 dL_law_632 (fun r1 mi' ko' T' I' H locs cells' slots' hx1 e1 e2 hG1 hS1 => ?_)
    obtain ⟨rfl, rfl, rfl⟩ := hx1
    have hG := hG1
    have hS := hS1
    refine lv_pop hx hb dL_law_635 rfl ?_
    refine lv_aload_n hx hb dL_law_636 rfl (lv_at hl 2 rfl) ?_
    refine lv_aload_n hx hb dL_law_637 rfl (lv_at hl 0 rfl) ?_
    refine lv_iload_n hx hb dL_law_638 rfl (lv_at hl 3 rfl) ?_
    refine lv_iconst (v := (1 : Int32)) hx hb dL_law_639 (by decide) ?_
    refine lv_iadd hx hb dL_law_640 ?_
    refine va_sld hx hb hX0 hbl hbA hS (zidx (k := 1) hi hL rfl (by decide)) dL_law_641 ?_
    refine lv_aload_n hx hb dL_law_642 rfl (lv_at hl 0 rfl) ?_
    refine lv_iload_n hx hb dL_law_643 rfl (lv_at hl 3 rfl) ?_
    refine lv_iconst (v := (2 : Int32)) hx hb dL_law_644 (by decide) ?_
    refine lv_iadd hx hb dL_law_645 ?_
    refine va_sld hx hb hX0 hbl hbA hS (zidx (k := 2) hi hL rfl (by decide)) dL_law_646 ?_
    refine lv_if_eq (tgt := 654) hx hb dL_law_647 (by decide) (fun hc11 => ?_) (fun hc11 => ?_)
    ·
      refine lv_iconst (v := (0 : Int32)) hx hb dL_law_654 (by decide) ?_
      refine gm_best [] ⟨Nat.le_trans e1 hcs.1, Nat.le_trans e2 hcs.2⟩ C0 hbx hbm hK hO hG hS hl.1 (Nat.le_of_ble_eq_true rfl) kmL_66 dL_law_655 (fun r2 M' H locs hm1 hG2 hS2 => ?_)
      obtain rfl := hm1
      have hG := hG2
      have hS := hS2
      refine lv_pop hx hb dL_law_658 rfl ?_
      refine lv_goto (tgt := 1647) hx hb dL_law_659 (by decide) ?_
      exact kk _ _ _ _ _ _ _ _ _ e1 e2 hR hG hS
    ·
      refine lv_iconst (v := (1 : Int32)) hx hb dL_law_650 (by decide) ?_
      refine lv_goto (tgt := 655) hx hb dL_law_651 (by decide) ?_
      refine gm_best [] ⟨Nat.le_trans e1 hcs.1, Nat.le_trans e2 hcs.2⟩ C0 hbx hbm hK hO hG hS hl.1 (Nat.le_of_ble_eq_true rfl) kmL_66 dL_law_655 (fun r2 M' H locs hm1 hG2 hS2 => ?_)
      obtain rfl := hm1
      have hG := hG2
      have hS := hS2
      refine lv_pop hx hb dL_law_658 rfl ?_
      refine lv_goto (tgt := 1647) hx hb dL_law_659 (by decide) ?_
      exact kk _ _ _ _ _ _ _ _ _ e1 e2 hR hG hS

set_option maxRecDepth 40000 in
set_option maxHeartbeats 4000000 in
theorem g_12 {p : Program} {l : Launch} {e : Env} {s : State} {m : MethodId} {below : List Frame} {meth : Method} {c : Code} {E : zE} {G : zG} {b L i bx bm cells slots : Nat} {xs : Nat → Int32} {mi : Nat → Option Nat} {ko : Option Nat} {T : TT} {M : Nat → Nat → Int32} {I : Nat → TT} {H : Heap} {locs : List Loc} {ls : Array Slot} (hi : i + 6 ≤ L) (hL : L ≤ 3072) (hR : RG T M I mi) (hcs : cells + 47 ≤ room_1.cells ∧ slots + 4608 ≤ room_1.slots) (C0 : lw_At p s m meth c b L xs) (hbx : s.heap.size ≤ bx) (hbm : bx + 93 ≤ bm) (hK : zK E s) (hO : zO s ∧ zZ G (fun q => s.heap.size ≤ q) s s.heap) (hG : GG E bx bm mi ko T M I H) (hS : va_S (fun q => s.heap.size ≤ q) s.heap H locs) (hl : lv_has ls 4 [(0, .ref b), (1, .ref bx), (2, .ref bm), (3, .int (nI i))])
    (kk : ∀ (mi : Nat → Option Nat) (ko : Option Nat) (T : TT) (M : Nat → Nat → Int32) (I : Nat → TT) (H : Heap) (locs : List Loc) (cells' slots' : Nat), cells' ≤ cells + 47 → slots' ≤ slots + 4608 → RG T M I mi → GG E bx bm mi ko T M I H → va_S (fun q => s.heap.size ≤ q) s.heap H locs → W p l e room_1 s m #[Value.ref b] below meth c H locs cells' slots' (lw_Z below #[Value.ref b] s) (F0 m 1647 ls [])) : W p l e room_1 s m #[Value.ref b] below meth c H locs cells slots (lw_Z below #[Value.ref b] s) (F0 m 662 ls []) := by
  obtain ⟨hx, hb, hr, hml, hown, hts, hX0, hbl, hlocks, hgv⟩ := id C0
  have zc : zC p s m #[Value.ref b] meth c cL_law 4 RL ret := ⟨hx, hb, hml, hown, fun w hw => hts w (zb_in hw), hr, hlocks⟩
  have hbA : ¬ (fun q : Nat => s.heap.size ≤ q) b := Nat.not_le.mpr hbl
  refine lv_aload_n hx hb dL_law_662 rfl (lv_at hl 1 rfl) ?_
  refine lv_aload_n hx hb dL_law_663 rfl (lv_at hl 0 rfl) ?_
  refine lv_iload_n hx hb dL_law_664 rfl (lv_at hl 3 rfl) ?_
  refine lv_iconst (v := (1 : Int32)) hx hb dL_law_665 (by decide) ?_
  refine lv_iadd hx hb dL_law_666 ?_
  refine va_sld hx hb hX0 hbl hbA hS (zidx (k := 1) hi hL rfl (by decide)) dL_law_667 ?_
  refine lv_aload_n hx hb dL_law_668 rfl (lv_at hl 0 rfl) ?_
  refine lv_iload_n hx hb dL_law_669 rfl (lv_at hl 3 rfl) ?_
  refine lv_iconst (v := (2 : Int32)) hx hb dL_law_670 (by decide) ?_
  refine lv_iadd hx hb dL_law_671 ?_
  refine va_sld hx hb hX0 hbl hbA hS (zidx (k := 2) hi hL rfl (by decide)) dL_law_672 ?_
  refine lv_aload_n hx hb dL_law_673 rfl (lv_at hl 0 rfl) ?_
  refine lv_iload_n hx hb dL_law_674 rfl (lv_at hl 3 rfl) ?_
  refine lv_iconst (v := (3 : Int32)) hx hb dL_law_675 (by decide) ?_
  refine lv_iadd hx hb dL_law_676 ?_
  refine va_sld hx hb hX0 hbl hbA hS (zidx (k := 3) hi hL rfl (by decide)) dL_law_677 ?_
  refine lv_aload_n hx hb dL_law_678 rfl (lv_at hl 0 rfl) ?_
  refine lv_iload_n hx hb dL_law_679 rfl (lv_at hl 3 rfl) ?_
  refine lv_iconst (v := (4 : Int32)) hx hb dL_law_680 (by decide) ?_
  refine lv_iadd hx hb dL_law_681 ?_
  refine va_sld hx hb hX0 hbl hbA hS (zidx (k := 4) hi hL rfl (by decide)) dL_law_682 ?_
  have hB0 := tB_of hG.2.2.2.1
  have hI0 := tBI_of hG.2.2.1
  refine gx_routes [] hcs C0 hbx hbm hK hO hG hS hl.1 (Nat.le_of_ble_eq_true rfl) kmL_67 dL_law_683 (fun r1 mi' ko' T' I' H locs cells' slots' hx1 e1 e2 hG1 hS1 => ?_)
  obtain ⟨rfl, rfl, rfl⟩ := hx1
  have hG := hG1
  have hS := hS1
  refine lv_pop hx hb dL_law_686 rfl ?_
  refine lv_aload_n hx hb dL_law_687 rfl (lv_at hl 2 rfl) ?_
  refine lv_aload_n hx hb dL_law_688 rfl (lv_at hl 0 rfl) ?_
  refine lv_iload_n hx hb dL_law_689 rfl (lv_at hl 3 rfl) ?_
  refine lv_iconst (v := (1 : Int32)) hx hb dL_law_690 (by decide) ?_
  refine lv_iadd hx hb dL_law_691 ?_
  refine va_sld hx hb hX0 hbl hbA hS (zidx (k := 1) hi hL rfl (by decide)) dL_law_692 ?_
  refine lv_aload_n hx hb dL_law_693 rfl (lv_at hl 0 rfl) ?_
  refine lv_iload_n hx hb dL_law_694 rfl (lv_at hl 3 rfl) ?_
  refine lv_iconst (v := (2 : Int32)) hx hb dL_law_695 (by decide) ?_
  refine lv_iadd hx hb dL_law_696 ?_
  refine va_sld hx hb hX0 hbl hbA hS (zidx (k := 2) hi hL rfl (by decide)) dL_law_697 ?_
  refine lv_aload_n hx hb dL_law_698 rfl (lv_at hl 0 rfl) ?_
  refine lv_iload_n hx hb dL_law_699 rfl (lv_at hl 3 rfl) ?_
  refine lv_iconst (v := (3 : Int32)) hx hb dL_law_700 (by decide) ?_
  refine lv_iadd hx hb dL_law_701 ?_
  refine va_sld hx hb hX0 hbl hbA hS (zidx (k := 3) hi hL rfl (by decide)) dL_law_702 ?_
  refine lv_aload_n hx hb dL_law_703 rfl (lv_at hl 0 rfl) ?_
  refine lv_iload_n hx hb dL_law_704 rfl (lv_at hl 3 rfl) ?_
  refine lv_iconst (v := (4 : Int32)) hx hb dL_law_705 (by decide) ?_
  refine lv_iadd hx hb dL_law_706 ?_
  refine va_sld hx hb hX0 hbl hbA hS (zidx (k := 4) hi hL rfl (by decide)) dL_law_707 ?_
  refine gm_routes [] ⟨Nat.le_trans e1 hcs.1, Nat.le_trans e2 hcs.2⟩ C0 hbx hbm hK hO hG hS hl.1 (Nat.le_of_ble_eq_true rfl) kmL_70 dL_law_708 (fun r2 M' H locs hm1 hG2 hS2 => ?_)
  obtain rfl := hm1
  have hG := hG2
  have hS := hS2
  refine lv_pop hx hb dL_law_711 rfl ?_
  refine lv_goto (tgt := 1647) hx hb dL_law_712 (by decide) ?_
  exact kk _ _ _ _ _ _ _ _ _ e1 e2 hR hG hS

set_option maxRecDepth 40000 in
set_option maxHeartbeats 4000000 in
theorem g_13 {p : Program} {l : Launch} {e : Env} {s : State} {m : MethodId} {below : List Frame} {meth : Method} {c : Code} {E : zE} {G : zG} {b L i bx bm cells slots : Nat} {xs : Nat → Int32} {mi : Nat → Option Nat} {ko : Option Nat} {T : TT} {M : Nat → Nat → Int32} {I : Nat → TT} {H : Heap} {locs : List Loc} {ls : Array Slot} (hi : i + 6 ≤ L) (hL : L ≤ 3072) (hR : RG T M I mi) (hcs : cells + 47 ≤ room_1.cells ∧ slots + 4608 ≤ room_1.slots) (C0 : lw_At p s m meth c b L xs) (hbx : s.heap.size ≤ bx) (hbm : bx + 93 ≤ bm) (hK : zK E s) (hO : zO s ∧ zZ G (fun q => s.heap.size ≤ q) s s.heap) (hG : GG E bx bm mi ko T M I H) (hS : va_S (fun q => s.heap.size ≤ q) s.heap H locs) (hl : lv_has ls 4 [(0, .ref b), (1, .ref bx), (2, .ref bm), (3, .int (nI i))])
    (kk : ∀ (mi : Nat → Option Nat) (ko : Option Nat) (T : TT) (M : Nat → Nat → Int32) (I : Nat → TT) (H : Heap) (locs : List Loc) (cells' slots' : Nat), cells' ≤ cells + 47 → slots' ≤ slots + 4608 → RG T M I mi → GG E bx bm mi ko T M I H → va_S (fun q => s.heap.size ≤ q) s.heap H locs → W p l e room_1 s m #[Value.ref b] below meth c H locs cells' slots' (lw_Z below #[Value.ref b] s) (F0 m 1647 ls [])) : W p l e room_1 s m #[Value.ref b] below meth c H locs cells slots (lw_Z below #[Value.ref b] s) (F0 m 715 ls []) := by
  obtain ⟨hx, hb, hr, hml, hown, hts, hX0, hbl, hlocks, hgv⟩ := id C0
  have zc : zC p s m #[Value.ref b] meth c cL_law 4 RL ret := ⟨hx, hb, hml, hown, fun w hw => hts w (zb_in hw), hr, hlocks⟩
  have hbA : ¬ (fun q : Nat => s.heap.size ≤ q) b := Nat.not_le.mpr hbl
  refine lv_aload_n hx hb dL_law_715 rfl (lv_at hl 1 rfl) ?_
  refine lv_aload_n hx hb dL_law_716 rfl (lv_at hl 0 rfl) ?_
  refine lv_iload_n hx hb dL_law_717 rfl (lv_at hl 3 rfl) ?_
  refine lv_iconst (v := (1 : Int32)) hx hb dL_law_718 (by decide) ?_
  refine lv_iadd hx hb dL_law_719 ?_
  refine va_sld hx hb hX0 hbl hbA hS (zidx (k := 1) hi hL rfl (by decide)) dL_law_720 ?_
  refine lv_aload_n hx hb dL_law_721 rfl (lv_at hl 0 rfl) ?_
  refine lv_iload_n hx hb dL_law_722 rfl (lv_at hl 3 rfl) ?_
  refine lv_iconst (v := (2 : Int32)) hx hb dL_law_723 (by decide) ?_
  refine lv_iadd hx hb dL_law_724 ?_
  refine va_sld hx hb hX0 hbl hbA hS (zidx (k := 2) hi hL rfl (by decide)) dL_law_725 ?_
  refine lv_aload_n hx hb dL_law_726 rfl (lv_at hl 0 rfl) ?_
  refine lv_iload_n hx hb dL_law_727 rfl (lv_at hl 3 rfl) ?_
  refine lv_iconst (v := (3 : Int32)) hx hb dL_law_728 (by decide) ?_
  refine lv_iadd hx hb dL_law_729 ?_
  refine va_sld hx hb hX0 hbl hbA hS (zidx (k := 3) hi hL rfl (by decide)) dL_law_730 ?_
  have hB0 := tB_of hG.2.2.2.1
  have hI0 := tBI_of hG.2.2.1
  refine gx_mutes [] hcs C0 hbx hbm hK hO hG hS hl.1 (Nat.le_of_ble_eq_true rfl) kmL_71 dL_law_731 (fun r1 mi' ko' T' I' H locs cells' slots' hx1 e1 e2 hG1 hS1 => ?_)
  obtain ⟨rfl, rfl, rfl⟩ := hx1
  have hG := hG1
  have hS := hS1
  refine lv_pop hx hb dL_law_734 rfl ?_
  refine lv_aload_n hx hb dL_law_735 rfl (lv_at hl 2 rfl) ?_
  refine lv_aload_n hx hb dL_law_736 rfl (lv_at hl 0 rfl) ?_
  refine lv_iload_n hx hb dL_law_737 rfl (lv_at hl 3 rfl) ?_
  refine lv_iconst (v := (1 : Int32)) hx hb dL_law_738 (by decide) ?_
  refine lv_iadd hx hb dL_law_739 ?_
  refine va_sld hx hb hX0 hbl hbA hS (zidx (k := 1) hi hL rfl (by decide)) dL_law_740 ?_
  refine lv_aload_n hx hb dL_law_741 rfl (lv_at hl 0 rfl) ?_
  refine lv_iload_n hx hb dL_law_742 rfl (lv_at hl 3 rfl) ?_
  refine lv_iconst (v := (2 : Int32)) hx hb dL_law_743 (by decide) ?_
  refine lv_iadd hx hb dL_law_744 ?_
  refine va_sld hx hb hX0 hbl hbA hS (zidx (k := 2) hi hL rfl (by decide)) dL_law_745 ?_
  refine lv_aload_n hx hb dL_law_746 rfl (lv_at hl 0 rfl) ?_
  refine lv_iload_n hx hb dL_law_747 rfl (lv_at hl 3 rfl) ?_
  refine lv_iconst (v := (3 : Int32)) hx hb dL_law_748 (by decide) ?_
  refine lv_iadd hx hb dL_law_749 ?_
  refine va_sld hx hb hX0 hbl hbA hS (zidx (k := 3) hi hL rfl (by decide)) dL_law_750 ?_
  refine gm_mutes [] ⟨Nat.le_trans e1 hcs.1, Nat.le_trans e2 hcs.2⟩ C0 hbx hbm hK hO hG hS hl.1 (Nat.le_of_ble_eq_true rfl) kmL_74 dL_law_751 (fun r2 M' H locs hm1 hG2 hS2 => ?_)
  obtain rfl := hm1
  have hG := hG2
  have hS := hS2
  refine lv_pop hx hb dL_law_754 rfl ?_
  refine lv_goto (tgt := 1647) hx hb dL_law_755 (by decide) ?_
  exact kk _ _ _ _ _ _ _ _ _ e1 e2 hR hG hS

set_option maxRecDepth 40000 in
set_option maxHeartbeats 4000000 in
theorem g_14 {p : Program} {l : Launch} {e : Env} {s : State} {m : MethodId} {below : List Frame} {meth : Method} {c : Code} {E : zE} {G : zG} {b L i bx bm cells slots : Nat} {xs : Nat → Int32} {mi : Nat → Option Nat} {ko : Option Nat} {T : TT} {M : Nat → Nat → Int32} {I : Nat → TT} {H : Heap} {locs : List Loc} {ls : Array Slot} (hi : i + 6 ≤ L) (hL : L ≤ 3072) (hR : RG T M I mi) (hcs : cells + 47 ≤ room_1.cells ∧ slots + 4608 ≤ room_1.slots) (C0 : lw_At p s m meth c b L xs) (hbx : s.heap.size ≤ bx) (hbm : bx + 93 ≤ bm) (hK : zK E s) (hO : zO s ∧ zZ G (fun q => s.heap.size ≤ q) s s.heap) (hG : GG E bx bm mi ko T M I H) (hS : va_S (fun q => s.heap.size ≤ q) s.heap H locs) (hl : lv_has ls 4 [(0, .ref b), (1, .ref bx), (2, .ref bm), (3, .int (nI i))])
    (kk : ∀ (mi : Nat → Option Nat) (ko : Option Nat) (T : TT) (M : Nat → Nat → Int32) (I : Nat → TT) (H : Heap) (locs : List Loc) (cells' slots' : Nat), cells' ≤ cells + 47 → slots' ≤ slots + 4608 → RG T M I mi → GG E bx bm mi ko T M I H → va_S (fun q => s.heap.size ≤ q) s.heap H locs → W p l e room_1 s m #[Value.ref b] below meth c H locs cells' slots' (lw_Z below #[Value.ref b] s) (F0 m 1647 ls [])) : W p l e room_1 s m #[Value.ref b] below meth c H locs cells slots (lw_Z below #[Value.ref b] s) (F0 m 758 ls []) := by
  obtain ⟨hx, hb, hr, hml, hown, hts, hX0, hbl, hlocks, hgv⟩ := id C0
  have zc : zC p s m #[Value.ref b] meth c cL_law 4 RL ret := ⟨hx, hb, hml, hown, fun w hw => hts w (zb_in hw), hr, hlocks⟩
  have hbA : ¬ (fun q : Nat => s.heap.size ≤ q) b := Nat.not_le.mpr hbl
  refine lv_aload_n hx hb dL_law_758 rfl (lv_at hl 1 rfl) ?_
  refine lv_aload_n hx hb dL_law_759 rfl (lv_at hl 0 rfl) ?_
  refine lv_iload_n hx hb dL_law_760 rfl (lv_at hl 3 rfl) ?_
  refine lv_iconst (v := (1 : Int32)) hx hb dL_law_761 (by decide) ?_
  refine lv_iadd hx hb dL_law_762 ?_
  refine va_sld hx hb hX0 hbl hbA hS (zidx (k := 1) hi hL rfl (by decide)) dL_law_763 ?_
  refine lv_aload_n hx hb dL_law_764 rfl (lv_at hl 0 rfl) ?_
  refine lv_iload_n hx hb dL_law_765 rfl (lv_at hl 3 rfl) ?_
  refine lv_iconst (v := (2 : Int32)) hx hb dL_law_766 (by decide) ?_
  refine lv_iadd hx hb dL_law_767 ?_
  refine va_sld hx hb hX0 hbl hbA hS (zidx (k := 2) hi hL rfl (by decide)) dL_law_768 ?_
  refine lv_aload_n hx hb dL_law_769 rfl (lv_at hl 0 rfl) ?_
  refine lv_iload_n hx hb dL_law_770 rfl (lv_at hl 3 rfl) ?_
  refine lv_iconst (v := (3 : Int32)) hx hb dL_law_771 (by decide) ?_
  refine lv_iadd hx hb dL_law_772 ?_
  refine va_sld hx hb hX0 hbl hbA hS (zidx (k := 3) hi hL rfl (by decide)) dL_law_773 ?_
  refine lv_if_eq (tgt := 781) hx hb dL_law_774 (by decide) (fun hc0 => ?_) (fun hc0 => ?_)
  ·
    refine lv_iconst (v := (0 : Int32)) hx hb dL_law_781 (by decide) ?_
    have hB0 := tB_of hG.2.2.2.1
    have hI0 := tBI_of hG.2.2.1
    refine gx_masses [] hcs C0 hbx hbm hK hO hG hS hl.1 (Nat.le_of_ble_eq_true rfl) kmL_75 dL_law_782 (fun r1 mi' ko' T' I' H locs cells' slots' hx1 e1 e2 hG1 hS1 => ?_)
    obtain ⟨rfl, rfl, rfl⟩ := hx1
    have hG := hG1
    have hS := hS1
    refine lv_pop hx hb dL_law_785 rfl ?_
    refine lv_aload_n hx hb dL_law_786 rfl (lv_at hl 2 rfl) ?_
    refine lv_aload_n hx hb dL_law_787 rfl (lv_at hl 0 rfl) ?_
    refine lv_iload_n hx hb dL_law_788 rfl (lv_at hl 3 rfl) ?_
    refine lv_iconst (v := (1 : Int32)) hx hb dL_law_789 (by decide) ?_
    refine lv_iadd hx hb dL_law_790 ?_
    refine va_sld hx hb hX0 hbl hbA hS (zidx (k := 1) hi hL rfl (by decide)) dL_law_791 ?_
    refine lv_aload_n hx hb dL_law_792 rfl (lv_at hl 0 rfl) ?_
    refine lv_iload_n hx hb dL_law_793 rfl (lv_at hl 3 rfl) ?_
    refine lv_iconst (v := (2 : Int32)) hx hb dL_law_794 (by decide) ?_
    refine lv_iadd hx hb dL_law_795 ?_
    refine va_sld hx hb hX0 hbl hbA hS (zidx (k := 2) hi hL rfl (by decide)) dL_law_796 ?_
    refine lv_aload_n hx hb dL_law_797 rfl (lv_at hl 0 rfl) ?_
    refine lv_iload_n hx hb dL_law_798 rfl (lv_at hl 3 rfl) ?_
    refine lv_iconst (v := (3 : Int32)) hx hb dL_law_799 (by decide) ?_
    refine lv_iadd hx hb dL_law_800 ?_
    refine va_sld hx hb hX0 hbl hbA hS (zidx (k := 3) hi hL rfl (by decide)) dL_law_801 ?_
    refine lv_if_eq (tgt := 809) hx hb dL_law_802 (by decide) (fun hc11 => ?_) (fun hc11 => ?_)
    ·
      refine lv_iconst (v := (0 : Int32)) hx hb dL_law_809 (by decide) ?_
      refine gm_masses [] ⟨Nat.le_trans e1 hcs.1, Nat.le_trans e2 hcs.2⟩ C0 hbx hbm hK hO hG hS hl.1 (Nat.le_of_ble_eq_true rfl) kmL_79 dL_law_810 (fun r2 M' H locs hm1 hG2 hS2 => ?_)
      obtain rfl := hm1
      have hG := hG2
      have hS := hS2
      refine lv_pop hx hb dL_law_813 rfl ?_
      refine lv_goto (tgt := 1647) hx hb dL_law_814 (by decide) ?_
      exact kk _ _ _ _ _ _ _ _ _ e1 e2 hR hG hS
    ·
      refine lv_iconst (v := (1 : Int32)) hx hb dL_law_805 (by decide) ?_
      refine lv_goto (tgt := 810) hx hb dL_law_806 (by decide) ?_
      refine gm_masses [] ⟨Nat.le_trans e1 hcs.1, Nat.le_trans e2 hcs.2⟩ C0 hbx hbm hK hO hG hS hl.1 (Nat.le_of_ble_eq_true rfl) kmL_79 dL_law_810 (fun r2 M' H locs hm1 hG2 hS2 => ?_)
      obtain rfl := hm1
      have hG := hG2
      have hS := hS2
      refine lv_pop hx hb dL_law_813 rfl ?_
      refine lv_goto (tgt := 1647) hx hb dL_law_814 (by decide) ?_
      exact kk _ _ _ _ _ _ _ _ _ e1 e2 hR hG hS
  ·
    refine lv_iconst (v := (1 : Int32)) hx hb dL_law_777 (by decide) ?_
    refine lv_goto (tgt := 782) hx hb dL_law_778 (by decide) ?_
    have hB0 := tB_of hG.2.2.2.1
    have hI0 := tBI_of hG.2.2.1
    refine gx_masses [] hcs C0 hbx hbm hK hO hG hS hl.1 (Nat.le_of_ble_eq_true rfl) kmL_75 dL_law_782 (fun r1 mi' ko' T' I' H locs cells' slots' hx1 e1 e2 hG1 hS1 => ?_)
    obtain ⟨rfl, rfl, rfl⟩ := hx1
    have hG := hG1
    have hS := hS1
    refine lv_pop hx hb dL_law_785 rfl ?_
    refine lv_aload_n hx hb dL_law_786 rfl (lv_at hl 2 rfl) ?_
    refine lv_aload_n hx hb dL_law_787 rfl (lv_at hl 0 rfl) ?_
    refine lv_iload_n hx hb dL_law_788 rfl (lv_at hl 3 rfl) ?_
    refine lv_iconst (v := (1 : Int32)) hx hb dL_law_789 (by decide) ?_
    refine lv_iadd hx hb dL_law_790 ?_
    refine va_sld hx hb hX0 hbl hbA hS (zidx (k := 1) hi hL rfl (by decide)) dL_law_791 ?_
    refine lv_aload_n hx hb dL_law_792 rfl (lv_at hl 0 rfl) ?_
    refine lv_iload_n hx hb dL_law_793 rfl (lv_at hl 3 rfl) ?_
    refine lv_iconst (v := (2 : Int32)) hx hb dL_law_794 (by decide) ?_
    refine lv_iadd hx hb dL_law_795 ?_
    refine va_sld hx hb hX0 hbl hbA hS (zidx (k := 2) hi hL rfl (by decide)) dL_law_796 ?_
    refine lv_aload_n hx hb dL_law_797 rfl (lv_at hl 0 rfl) ?_
    refine lv_iload_n hx hb dL_law_798 rfl (lv_at hl 3 rfl) ?_
    refine lv_iconst (v := (3 : Int32)) hx hb dL_law_799 (by decide) ?_
    refine lv_iadd hx hb dL_law_800 ?_
    refine va_sld hx hb hX0 hbl hbA hS (zidx (k := 3) hi hL rfl (by decide)) dL_law_801 ?_
    refine lv_if_eq (tgt := 809) hx hb dL_law_802 (by decide) (fun hc11 => ?_) (fun hc11 => ?_)
    ·
      refine lv_iconst (v := (0 : Int32)) hx hb dL_law_809 (by decide) ?_
      refine gm_masses [] ⟨Nat.le_trans e1 hcs.1, Nat.le_trans e2 hcs.2⟩ C0 hbx hbm hK hO hG hS hl.1 (Nat.le_of_ble_eq_true rfl) kmL_79 dL_law_810 (fun r2 M' H locs hm1 hG2 hS2 => ?_)
      obtain rfl := hm1
      have hG := hG2
      have hS := hS2
      refine lv_pop hx hb dL_law_813 rfl ?_
      refine lv_goto (tgt := 1647) hx hb dL_law_814 (by decide) ?_
      exact kk _ _ _ _ _ _ _ _ _ e1 e2 hR hG hS
    ·
      refine lv_iconst (v := (1 : Int32)) hx hb dL_law_805 (by decide) ?_
      refine lv_goto (tgt := 810) hx hb dL_law_806 (by decide) ?_
      refine gm_masses [] ⟨Nat.le_trans e1 hcs.1, Nat.le_trans e2 hcs.2⟩ C0 hbx hbm hK hO hG hS hl.1 (Nat.le_of_ble_eq_true rfl) kmL_79 dL_law_810 (fun r2 M' H locs hm1 hG2 hS2 => ?_)
      obtain rfl := hm1
      have hG := hG2
      have hS := hS2
      refine lv_pop hx hb dL_law_813 rfl ?_
      refine lv_goto (tgt := 1647) hx hb dL_law_814 (by decide) ?_
      exact kk _ _ _ _ _ _ _ _ _ e1 e2 hR hG hS

set_option maxRecDepth 40000 in
set_option maxHeartbeats 4000000 in
theorem g_15 {p : Program} {l : Launch} {e : Env} {s : State} {m : MethodId} {below : List Frame} {meth : Method} {c : Code} {E : zE} {G : zG} {b L i bx bm cells slots : Nat} {xs : Nat → Int32} {mi : Nat → Option Nat} {ko : Option Nat} {T : TT} {M : Nat → Nat → Int32} {I : Nat → TT} {H : Heap} {locs : List Loc} {ls : Array Slot} (hi : i + 6 ≤ L) (hL : L ≤ 3072) (hR : RG T M I mi) (hcs : cells + 47 ≤ room_1.cells ∧ slots + 4608 ≤ room_1.slots) (C0 : lw_At p s m meth c b L xs) (hbx : s.heap.size ≤ bx) (hbm : bx + 93 ≤ bm) (hK : zK E s) (hO : zO s ∧ zZ G (fun q => s.heap.size ≤ q) s s.heap) (hG : GG E bx bm mi ko T M I H) (hS : va_S (fun q => s.heap.size ≤ q) s.heap H locs) (hl : lv_has ls 4 [(0, .ref b), (1, .ref bx), (2, .ref bm), (3, .int (nI i))])
    (kk : ∀ (mi : Nat → Option Nat) (ko : Option Nat) (T : TT) (M : Nat → Nat → Int32) (I : Nat → TT) (H : Heap) (locs : List Loc) (cells' slots' : Nat), cells' ≤ cells + 47 → slots' ≤ slots + 4608 → RG T M I mi → GG E bx bm mi ko T M I H → va_S (fun q => s.heap.size ≤ q) s.heap H locs → W p l e room_1 s m #[Value.ref b] below meth c H locs cells' slots' (lw_Z below #[Value.ref b] s) (F0 m 1647 ls [])) : W p l e room_1 s m #[Value.ref b] below meth c H locs cells slots (lw_Z below #[Value.ref b] s) (F0 m 817 ls []) := by
  obtain ⟨hx, hb, hr, hml, hown, hts, hX0, hbl, hlocks, hgv⟩ := id C0
  have zc : zC p s m #[Value.ref b] meth c cL_law 4 RL ret := ⟨hx, hb, hml, hown, fun w hw => hts w (zb_in hw), hr, hlocks⟩
  have hbA : ¬ (fun q : Nat => s.heap.size ≤ q) b := Nat.not_le.mpr hbl
  refine lv_aload_n hx hb dL_law_817 rfl (lv_at hl 1 rfl) ?_
  refine lv_aload_n hx hb dL_law_818 rfl (lv_at hl 0 rfl) ?_
  refine lv_iload_n hx hb dL_law_819 rfl (lv_at hl 3 rfl) ?_
  refine lv_iconst (v := (1 : Int32)) hx hb dL_law_820 (by decide) ?_
  refine lv_iadd hx hb dL_law_821 ?_
  refine va_sld hx hb hX0 hbl hbA hS (zidx (k := 1) hi hL rfl (by decide)) dL_law_822 ?_
  refine lv_aload_n hx hb dL_law_823 rfl (lv_at hl 0 rfl) ?_
  refine lv_iload_n hx hb dL_law_824 rfl (lv_at hl 3 rfl) ?_
  refine lv_iconst (v := (2 : Int32)) hx hb dL_law_825 (by decide) ?_
  refine lv_iadd hx hb dL_law_826 ?_
  refine va_sld hx hb hX0 hbl hbA hS (zidx (k := 2) hi hL rfl (by decide)) dL_law_827 ?_
  refine lv_aload_n hx hb dL_law_828 rfl (lv_at hl 0 rfl) ?_
  refine lv_iload_n hx hb dL_law_829 rfl (lv_at hl 3 rfl) ?_
  refine lv_iconst (v := (3 : Int32)) hx hb dL_law_830 (by decide) ?_
  refine lv_iadd hx hb dL_law_831 ?_
  refine va_sld hx hb hX0 hbl hbA hS (zidx (k := 3) hi hL rfl (by decide)) dL_law_832 ?_
  have hB0 := tB_of hG.2.2.2.1
  have hI0 := tBI_of hG.2.2.1
  refine gx_fact [] hcs C0 hbx hbm hK hO hG hS hl.1 (Nat.le_of_ble_eq_true rfl) kmL_80 dL_law_833 (fun r1 mi' ko' T' I' H locs cells' slots' hx1 e1 e2 hG1 hS1 => ?_)
  obtain ⟨rfl, rfl, rfl⟩ := hx1
  have hG := hG1
  have hS := hS1
  refine lv_pop hx hb dL_law_836 rfl ?_
  refine lv_aload_n hx hb dL_law_837 rfl (lv_at hl 2 rfl) ?_
  refine lv_aload_n hx hb dL_law_838 rfl (lv_at hl 0 rfl) ?_
  refine lv_iload_n hx hb dL_law_839 rfl (lv_at hl 3 rfl) ?_
  refine lv_iconst (v := (1 : Int32)) hx hb dL_law_840 (by decide) ?_
  refine lv_iadd hx hb dL_law_841 ?_
  refine va_sld hx hb hX0 hbl hbA hS (zidx (k := 1) hi hL rfl (by decide)) dL_law_842 ?_
  refine lv_aload_n hx hb dL_law_843 rfl (lv_at hl 0 rfl) ?_
  refine lv_iload_n hx hb dL_law_844 rfl (lv_at hl 3 rfl) ?_
  refine lv_iconst (v := (2 : Int32)) hx hb dL_law_845 (by decide) ?_
  refine lv_iadd hx hb dL_law_846 ?_
  refine va_sld hx hb hX0 hbl hbA hS (zidx (k := 2) hi hL rfl (by decide)) dL_law_847 ?_
  refine lv_aload_n hx hb dL_law_848 rfl (lv_at hl 0 rfl) ?_
  refine lv_iload_n hx hb dL_law_849 rfl (lv_at hl 3 rfl) ?_
  refine lv_iconst (v := (3 : Int32)) hx hb dL_law_850 (by decide) ?_
  refine lv_iadd hx hb dL_law_851 ?_
  refine va_sld hx hb hX0 hbl hbA hS (zidx (k := 3) hi hL rfl (by decide)) dL_law_852 ?_
  refine gm_fact [] ⟨Nat.le_trans e1 hcs.1, Nat.le_trans e2 hcs.2⟩ C0 hbx hbm hK hO hG hS hl.1 (Nat.le_of_ble_eq_true rfl) kmL_83 dL_law_853 (fun r2 M' H locs hm1 hG2 hS2 => ?_)
  obtain rfl := hm1
  have hG := hG2
  have hS := hS2
  refine lv_pop hx hb dL_law_856 rfl ?_
  refine lv_goto (tgt := 1647) hx hb dL_law_857 (by decide) ?_
  exact kk _ _ _ _ _ _ _ _ _ e1 e2 hR hG hS

set_option maxRecDepth 40000 in
set_option maxHeartbeats 4000000 in
theorem g_16 {p : Program} {l : Launch} {e : Env} {s : State} {m : MethodId} {below : List Frame} {meth : Method} {c : Code} {E : zE} {G : zG} {b L i bx bm cells slots : Nat} {xs : Nat → Int32} {mi : Nat → Option Nat} {ko : Option Nat} {T : TT} {M : Nat → Nat → Int32} {I : Nat → TT} {H : Heap} {locs : List Loc} {ls : Array Slot} (hi : i + 6 ≤ L) (hL : L ≤ 3072) (hR : RG T M I mi) (hcs : cells + 47 ≤ room_1.cells ∧ slots + 4608 ≤ room_1.slots) (C0 : lw_At p s m meth c b L xs) (hbx : s.heap.size ≤ bx) (hbm : bx + 93 ≤ bm) (hK : zK E s) (hO : zO s ∧ zZ G (fun q => s.heap.size ≤ q) s s.heap) (hG : GG E bx bm mi ko T M I H) (hS : va_S (fun q => s.heap.size ≤ q) s.heap H locs) (hl : lv_has ls 4 [(0, .ref b), (1, .ref bx), (2, .ref bm), (3, .int (nI i))])
    (kk : ∀ (mi : Nat → Option Nat) (ko : Option Nat) (T : TT) (M : Nat → Nat → Int32) (I : Nat → TT) (H : Heap) (locs : List Loc) (cells' slots' : Nat), cells' ≤ cells + 47 → slots' ≤ slots + 4608 → RG T M I mi → GG E bx bm mi ko T M I H → va_S (fun q => s.heap.size ≤ q) s.heap H locs → W p l e room_1 s m #[Value.ref b] below meth c H locs cells' slots' (lw_Z below #[Value.ref b] s) (F0 m 1647 ls [])) : W p l e room_1 s m #[Value.ref b] below meth c H locs cells slots (lw_Z below #[Value.ref b] s) (F0 m 860 ls []) := by
  obtain ⟨hx, hb, hr, hml, hown, hts, hX0, hbl, hlocks, hgv⟩ := id C0
  have zc : zC p s m #[Value.ref b] meth c cL_law 4 RL ret := ⟨hx, hb, hml, hown, fun w hw => hts w (zb_in hw), hr, hlocks⟩
  have hbA : ¬ (fun q : Nat => s.heap.size ≤ q) b := Nat.not_le.mpr hbl
  refine lv_aload_n hx hb dL_law_860 rfl (lv_at hl 1 rfl) ?_
  refine lv_aload_n hx hb dL_law_861 rfl (lv_at hl 0 rfl) ?_
  refine lv_iload_n hx hb dL_law_862 rfl (lv_at hl 3 rfl) ?_
  refine lv_iconst (v := (1 : Int32)) hx hb dL_law_863 (by decide) ?_
  refine lv_iadd hx hb dL_law_864 ?_
  refine va_sld hx hb hX0 hbl hbA hS (zidx (k := 1) hi hL rfl (by decide)) dL_law_865 ?_
  refine lv_aload_n hx hb dL_law_866 rfl (lv_at hl 0 rfl) ?_
  refine lv_iload_n hx hb dL_law_867 rfl (lv_at hl 3 rfl) ?_
  refine lv_iconst (v := (2 : Int32)) hx hb dL_law_868 (by decide) ?_
  refine lv_iadd hx hb dL_law_869 ?_
  refine va_sld hx hb hX0 hbl hbA hS (zidx (k := 2) hi hL rfl (by decide)) dL_law_870 ?_
  refine lv_aload_n hx hb dL_law_871 rfl (lv_at hl 0 rfl) ?_
  refine lv_iload_n hx hb dL_law_872 rfl (lv_at hl 3 rfl) ?_
  refine lv_iconst (v := (3 : Int32)) hx hb dL_law_873 (by decide) ?_
  refine lv_iadd hx hb dL_law_874 ?_
  refine va_sld hx hb hX0 hbl hbA hS (zidx (k := 3) hi hL rfl (by decide)) dL_law_875 ?_
  refine lv_if_eq (tgt := 883) hx hb dL_law_876 (by decide) (fun hc0 => ?_) (fun hc0 => ?_)
  ·
    refine lv_iconst (v := (0 : Int32)) hx hb dL_law_883 (by decide) ?_
    have hB0 := tB_of hG.2.2.2.1
    have hI0 := tBI_of hG.2.2.1
    refine gx_fits [] hcs C0 hbx hbm hK hO hG hS hl.1 (Nat.le_of_ble_eq_true rfl) kmL_84 dL_law_884 (fun r1 mi' ko' T' I' H locs cells' slots' hx1 e1 e2 hG1 hS1 => ?_)
    obtain ⟨rfl, rfl, rfl⟩ := hx1
    have hG := hG1
    have hS := hS1
    refine lv_pop hx hb dL_law_887 rfl ?_
    refine lv_aload_n hx hb dL_law_888 rfl (lv_at hl 2 rfl) ?_
    refine lv_aload_n hx hb dL_law_889 rfl (lv_at hl 0 rfl) ?_
    refine lv_iload_n hx hb dL_law_890 rfl (lv_at hl 3 rfl) ?_
    refine lv_iconst (v := (1 : Int32)) hx hb dL_law_891 (by decide) ?_
    refine lv_iadd hx hb dL_law_892 ?_
    refine va_sld hx hb hX0 hbl hbA hS (zidx (k := 1) hi hL rfl (by decide)) dL_law_893 ?_
    refine lv_aload_n hx hb dL_law_894 rfl (lv_at hl 0 rfl) ?_
    refine lv_iload_n hx hb dL_law_895 rfl (lv_at hl 3 rfl) ?_
    refine lv_iconst (v := (2 : Int32)) hx hb dL_law_896 (by decide) ?_
    refine lv_iadd hx hb dL_law_897 ?_
    refine va_sld hx hb hX0 hbl hbA hS (zidx (k := 2) hi hL rfl (by decide)) dL_law_898 ?_
    refine lv_aload_n hx hb dL_law_899 rfl (lv_at hl 0 rfl) ?_
    refine lv_iload_n hx hb dL_law_900 rfl (lv_at hl 3 rfl) ?_
    refine lv_iconst (v := (3 : Int32)) hx hb dL_law_901 (by decide) ?_
    refine lv_iadd hx hb dL_law_902 ?_
    refine va_sld hx hb hX0 hbl hbA hS (zidx (k := 3) hi hL rfl (by decide)) dL_law_903 ?_
    refine lv_if_eq (tgt := 911) hx hb dL_law_904 (by decide) (fun hc11 => ?_) (fun hc11 => ?_)
    ·
      refine lv_iconst (v := (0 : Int32)) hx hb dL_law_911 (by decide) ?_
      refine gm_fits [] ⟨Nat.le_trans e1 hcs.1, Nat.le_trans e2 hcs.2⟩ C0 hbx hbm hK hO hG hS hl.1 (Nat.le_of_ble_eq_true rfl) kmL_87 dL_law_912 (fun r2 M' H locs hm1 hG2 hS2 => ?_)
      obtain rfl := hm1
      have hG := hG2
      have hS := hS2
      refine lv_pop hx hb dL_law_915 rfl ?_
      refine lv_goto (tgt := 1647) hx hb dL_law_916 (by decide) ?_
      exact kk _ _ _ _ _ _ _ _ _ e1 e2 hR hG hS
    ·
      refine lv_iconst (v := (1 : Int32)) hx hb dL_law_907 (by decide) ?_
      refine lv_goto (tgt := 912) hx hb dL_law_908 (by decide) ?_
      refine gm_fits [] ⟨Nat.le_trans e1 hcs.1, Nat.le_trans e2 hcs.2⟩ C0 hbx hbm hK hO hG hS hl.1 (Nat.le_of_ble_eq_true rfl) kmL_87 dL_law_912 (fun r2 M' H locs hm1 hG2 hS2 => ?_)
      obtain rfl := hm1
      have hG := hG2
      have hS := hS2
      refine lv_pop hx hb dL_law_915 rfl ?_
      refine lv_goto (tgt := 1647) hx hb dL_law_916 (by decide) ?_
      exact kk _ _ _ _ _ _ _ _ _ e1 e2 hR hG hS
  ·
    refine lv_iconst (v := (1 : Int32)) hx hb dL_law_879 (by decide) ?_
    refine lv_goto (tgt := 884) hx hb dL_law_880 (by decide) ?_
    have hB0 := tB_of hG.2.2.2.1
    have hI0 := tBI_of hG.2.2.1
    refine gx_fits [] hcs C0 hbx hbm hK hO hG hS hl.1 (Nat.le_of_ble_eq_true rfl) kmL_84 dL_law_884 (fun r1 mi' ko' T' I' H locs cells' slots' hx1 e1 e2 hG1 hS1 => ?_)
    obtain ⟨rfl, rfl, rfl⟩ := hx1
    have hG := hG1
    have hS := hS1
    refine lv_pop hx hb dL_law_887 rfl ?_
    refine lv_aload_n hx hb dL_law_888 rfl (lv_at hl 2 rfl) ?_
    refine lv_aload_n hx hb dL_law_889 rfl (lv_at hl 0 rfl) ?_
    refine lv_iload_n hx hb dL_law_890 rfl (lv_at hl 3 rfl) ?_
    refine lv_iconst (v := (1 : Int32)) hx hb dL_law_891 (by decide) ?_
    refine lv_iadd hx hb dL_law_892 ?_
    refine va_sld hx hb hX0 hbl hbA hS (zidx (k := 1) hi hL rfl (by decide)) dL_law_893 ?_
    refine lv_aload_n hx hb dL_law_894 rfl (lv_at hl 0 rfl) ?_
    refine lv_iload_n hx hb dL_law_895 rfl (lv_at hl 3 rfl) ?_
    refine lv_iconst (v := (2 : Int32)) hx hb dL_law_896 (by decide) ?_
    refine lv_iadd hx hb dL_law_897 ?_
    refine va_sld hx hb hX0 hbl hbA hS (zidx (k := 2) hi hL rfl (by decide)) dL_law_898 ?_
    refine lv_aload_n hx hb dL_law_899 rfl (lv_at hl 0 rfl) ?_
    refine lv_iload_n hx hb dL_law_900 rfl (lv_at hl 3 rfl) ?_
    refine lv_iconst (v := (3 : Int32)) hx hb dL_law_901 (by decide) ?_
    refine lv_iadd hx hb dL_law_902 ?_
    refine va_sld hx hb hX0 hbl hbA hS (zidx (k := 3) hi hL rfl (by decide)) dL_law_903 ?_
    refine lv_if_eq (tgt := 911) hx hb dL_law_904 (by decide) (fun hc11 => ?_) (fun hc11 => ?_)
    ·
      refine lv_iconst (v := (0 : Int32)) hx hb dL_law_911 (by decide) ?_
      refine gm_fits [] ⟨Nat.le_trans e1 hcs.1, Nat.le_trans e2 hcs.2⟩ C0 hbx hbm hK hO hG hS hl.1 (Nat.le_of_ble_eq_true rfl) kmL_87 dL_law_912 (fun r2 M' H locs hm1 hG2 hS2 => ?_)
      obtain rfl := hm1
      have hG := hG2
      have hS := hS2
      refine lv_pop hx hb dL_law_915 rfl ?_
      refine lv_goto (tgt := 1647) hx hb dL_law_916 (by decide) ?_
      exact kk _ _ _ _ _ _ _ _ _ e1 e2 hR hG hS
    ·
      refine lv_iconst (v := (1 : Int32)) hx hb dL_law_907 (by decide) ?_
      refine lv_goto (tgt := 912) hx hb dL_law_908 (by decide) ?_
      refine gm_fits [] ⟨Nat.le_trans e1 hcs.1, Nat.le_trans e2 hcs.2⟩ C0 hbx hbm hK hO hG hS hl.1 (Nat.le_of_ble_eq_true rfl) kmL_87 dL_law_912 (fun r2 M' H locs hm1 hG2 hS2 => ?_)
      obtain rfl := hm1
      have hG := hG2
      have hS := hS2
      refine lv_pop hx hb dL_law_915 rfl ?_
      refine lv_goto (tgt := 1647) hx hb dL_law_916 (by decide) ?_
      exact kk _ _ _ _ _ _ _ _ _ e1 e2 hR hG hS

set_option maxRecDepth 40000 in
set_option maxHeartbeats 4000000 in
theorem g_17 {p : Program} {l : Launch} {e : Env} {s : State} {m : MethodId} {below : List Frame} {meth : Method} {c : Code} {E : zE} {G : zG} {b L i bx bm cells slots : Nat} {xs : Nat → Int32} {mi : Nat → Option Nat} {ko : Option Nat} {T : TT} {M : Nat → Nat → Int32} {I : Nat → TT} {H : Heap} {locs : List Loc} {ls : Array Slot} (hi : i + 6 ≤ L) (hL : L ≤ 3072) (hR : RG T M I mi) (hcs : cells + 47 ≤ room_1.cells ∧ slots + 4608 ≤ room_1.slots) (C0 : lw_At p s m meth c b L xs) (hbx : s.heap.size ≤ bx) (hbm : bx + 93 ≤ bm) (hK : zK E s) (hO : zO s ∧ zZ G (fun q => s.heap.size ≤ q) s s.heap) (hG : GG E bx bm mi ko T M I H) (hS : va_S (fun q => s.heap.size ≤ q) s.heap H locs) (hl : lv_has ls 4 [(0, .ref b), (1, .ref bx), (2, .ref bm), (3, .int (nI i))])
    (kk : ∀ (mi : Nat → Option Nat) (ko : Option Nat) (T : TT) (M : Nat → Nat → Int32) (I : Nat → TT) (H : Heap) (locs : List Loc) (cells' slots' : Nat), cells' ≤ cells + 47 → slots' ≤ slots + 4608 → RG T M I mi → GG E bx bm mi ko T M I H → va_S (fun q => s.heap.size ≤ q) s.heap H locs → W p l e room_1 s m #[Value.ref b] below meth c H locs cells' slots' (lw_Z below #[Value.ref b] s) (F0 m 1647 ls [])) : W p l e room_1 s m #[Value.ref b] below meth c H locs cells slots (lw_Z below #[Value.ref b] s) (F0 m 919 ls []) := by
  obtain ⟨hx, hb, hr, hml, hown, hts, hX0, hbl, hlocks, hgv⟩ := id C0
  have zc : zC p s m #[Value.ref b] meth c cL_law 4 RL ret := ⟨hx, hb, hml, hown, fun w hw => hts w (zb_in hw), hr, hlocks⟩
  have hbA : ¬ (fun q : Nat => s.heap.size ≤ q) b := Nat.not_le.mpr hbl
  refine lv_aload_n hx hb dL_law_919 rfl (lv_at hl 1 rfl) ?_
  refine lv_aload_n hx hb dL_law_920 rfl (lv_at hl 0 rfl) ?_
  refine lv_iload_n hx hb dL_law_921 rfl (lv_at hl 3 rfl) ?_
  refine lv_iconst (v := (1 : Int32)) hx hb dL_law_922 (by decide) ?_
  refine lv_iadd hx hb dL_law_923 ?_
  refine va_sld hx hb hX0 hbl hbA hS (zidx (k := 1) hi hL rfl (by decide)) dL_law_924 ?_
  refine lv_aload_n hx hb dL_law_925 rfl (lv_at hl 0 rfl) ?_
  refine lv_iload_n hx hb dL_law_926 rfl (lv_at hl 3 rfl) ?_
  refine lv_iconst (v := (2 : Int32)) hx hb dL_law_927 (by decide) ?_
  refine lv_iadd hx hb dL_law_928 ?_
  refine va_sld hx hb hX0 hbl hbA hS (zidx (k := 2) hi hL rfl (by decide)) dL_law_929 ?_
  have hB0 := tB_of hG.2.2.2.1
  have hI0 := tBI_of hG.2.2.1
  refine gx_choir [] hcs C0 hbx hbm hK hO hG hS hl.1 (Nat.le_of_ble_eq_true rfl) kmL_88 dL_law_930 (fun r1 mi' ko' T' I' H locs cells' slots' hx1 e1 e2 hG1 hS1 => ?_)
  obtain ⟨rfl, rfl, rfl⟩ := hx1
  have hG := hG1
  have hS := hS1
  refine lv_pop hx hb dL_law_933 rfl ?_
  refine lv_aload_n hx hb dL_law_934 rfl (lv_at hl 2 rfl) ?_
  refine lv_aload_n hx hb dL_law_935 rfl (lv_at hl 0 rfl) ?_
  refine lv_iload_n hx hb dL_law_936 rfl (lv_at hl 3 rfl) ?_
  refine lv_iconst (v := (1 : Int32)) hx hb dL_law_937 (by decide) ?_
  refine lv_iadd hx hb dL_law_938 ?_
  refine va_sld hx hb hX0 hbl hbA hS (zidx (k := 1) hi hL rfl (by decide)) dL_law_939 ?_
  refine lv_aload_n hx hb dL_law_940 rfl (lv_at hl 0 rfl) ?_
  refine lv_iload_n hx hb dL_law_941 rfl (lv_at hl 3 rfl) ?_
  refine lv_iconst (v := (2 : Int32)) hx hb dL_law_942 (by decide) ?_
  refine lv_iadd hx hb dL_law_943 ?_
  refine va_sld hx hb hX0 hbl hbA hS (zidx (k := 2) hi hL rfl (by decide)) dL_law_944 ?_
  refine gm_choir [] ⟨Nat.le_trans e1 hcs.1, Nat.le_trans e2 hcs.2⟩ C0 hbx hbm hK hO hG hS hl.1 (Nat.le_of_ble_eq_true rfl) kmL_91 dL_law_945 (fun r2 M' H locs hm1 hG2 hS2 => ?_)
  obtain rfl := hm1
  have hG := hG2
  have hS := hS2
  refine lv_pop hx hb dL_law_948 rfl ?_
  refine lv_goto (tgt := 1647) hx hb dL_law_949 (by decide) ?_
  exact kk _ _ _ _ _ _ _ _ _ e1 e2 hR hG hS

set_option maxRecDepth 40000 in
set_option maxHeartbeats 4000000 in
theorem g_18 {p : Program} {l : Launch} {e : Env} {s : State} {m : MethodId} {below : List Frame} {meth : Method} {c : Code} {E : zE} {G : zG} {b L i bx bm cells slots : Nat} {xs : Nat → Int32} {mi : Nat → Option Nat} {ko : Option Nat} {T : TT} {M : Nat → Nat → Int32} {I : Nat → TT} {H : Heap} {locs : List Loc} {ls : Array Slot} (hi : i + 6 ≤ L) (hL : L ≤ 3072) (hR : RG T M I mi) (hcs : cells + 47 ≤ room_1.cells ∧ slots + 4608 ≤ room_1.slots) (C0 : lw_At p s m meth c b L xs) (hbx : s.heap.size ≤ bx) (hbm : bx + 93 ≤ bm) (hK : zK E s) (hO : zO s ∧ zZ G (fun q => s.heap.size ≤ q) s s.heap) (hG : GG E bx bm mi ko T M I H) (hS : va_S (fun q => s.heap.size ≤ q) s.heap H locs) (hl : lv_has ls 4 [(0, .ref b), (1, .ref bx), (2, .ref bm), (3, .int (nI i))])
    (kk : ∀ (mi : Nat → Option Nat) (ko : Option Nat) (T : TT) (M : Nat → Nat → Int32) (I : Nat → TT) (H : Heap) (locs : List Loc) (cells' slots' : Nat), cells' ≤ cells + 47 → slots' ≤ slots + 4608 → RG T M I mi → GG E bx bm mi ko T M I H → va_S (fun q => s.heap.size ≤ q) s.heap H locs → W p l e room_1 s m #[Value.ref b] below meth c H locs cells' slots' (lw_Z below #[Value.ref b] s) (F0 m 1647 ls [])) : W p l e room_1 s m #[Value.ref b] below meth c H locs cells slots (lw_Z below #[Value.ref b] s) (F0 m 952 ls []) := by
  obtain ⟨hx, hb, hr, hml, hown, hts, hX0, hbl, hlocks, hgv⟩ := id C0
  have zc : zC p s m #[Value.ref b] meth c cL_law 4 RL ret := ⟨hx, hb, hml, hown, fun w hw => hts w (zb_in hw), hr, hlocks⟩
  have hbA : ¬ (fun q : Nat => s.heap.size ≤ q) b := Nat.not_le.mpr hbl
  refine lv_aload_n hx hb dL_law_952 rfl (lv_at hl 1 rfl) ?_
  refine lv_aload_n hx hb dL_law_953 rfl (lv_at hl 0 rfl) ?_
  refine lv_iload_n hx hb dL_law_954 rfl (lv_at hl 3 rfl) ?_
  refine lv_iconst (v := (1 : Int32)) hx hb dL_law_955 (by decide) ?_
  refine lv_iadd hx hb dL_law_956 ?_
  refine va_sld hx hb hX0 hbl hbA hS (zidx (k := 1) hi hL rfl (by decide)) dL_law_957 ?_
  have hB0 := tB_of hG.2.2.2.1
  have hI0 := tBI_of hG.2.2.1
  refine gx_orders [] hcs C0 hbx hbm hK hO hG hS hl.1 (Nat.le_of_ble_eq_true rfl) kmL_92 dL_law_958 (fun r1 mi' ko' T' I' H locs cells' slots' hx1 e1 e2 hG1 hS1 => ?_)
  obtain ⟨rfl, rfl, rfl⟩ := hx1
  have hG := hG1
  have hS := hS1
  refine lv_pop2_2 hx hb dL_law_961 rfl ?_
  refine lv_aload_n hx hb dL_law_962 rfl (lv_at hl 2 rfl) ?_
  refine lv_aload_n hx hb dL_law_963 rfl (lv_at hl 0 rfl) ?_
  refine lv_iload_n hx hb dL_law_964 rfl (lv_at hl 3 rfl) ?_
  refine lv_iconst (v := (1 : Int32)) hx hb dL_law_965 (by decide) ?_
  refine lv_iadd hx hb dL_law_966 ?_
  refine va_sld hx hb hX0 hbl hbA hS (zidx (k := 1) hi hL rfl (by decide)) dL_law_967 ?_
  refine gm_orders [] ⟨Nat.le_trans e1 hcs.1, Nat.le_trans e2 hcs.2⟩ C0 hbx hbm hK hO hG hS hl.1 (Nat.le_of_ble_eq_true rfl) kmL_96 dL_law_968 (fun r2 M' H locs hm1 hG2 hS2 => ?_)
  obtain rfl := hm1
  have hG := hG2
  have hS := hS2
  refine lv_pop2_2 hx hb dL_law_971 rfl ?_
  refine lv_goto (tgt := 1647) hx hb dL_law_972 (by decide) ?_
  exact kk _ _ _ _ _ _ _ _ _ e1 e2 hR hG hS

set_option maxRecDepth 40000 in
set_option maxHeartbeats 4000000 in
theorem g_19 {p : Program} {l : Launch} {e : Env} {s : State} {m : MethodId} {below : List Frame} {meth : Method} {c : Code} {E : zE} {G : zG} {b L i bx bm cells slots : Nat} {xs : Nat → Int32} {mi : Nat → Option Nat} {ko : Option Nat} {T : TT} {M : Nat → Nat → Int32} {I : Nat → TT} {H : Heap} {locs : List Loc} {ls : Array Slot} (hi : i + 6 ≤ L) (hL : L ≤ 3072) (hR : RG T M I mi) (hcs : cells + 47 ≤ room_1.cells ∧ slots + 4608 ≤ room_1.slots) (C0 : lw_At p s m meth c b L xs) (hbx : s.heap.size ≤ bx) (hbm : bx + 93 ≤ bm) (hK : zK E s) (hO : zO s ∧ zZ G (fun q => s.heap.size ≤ q) s s.heap) (hG : GG E bx bm mi ko T M I H) (hS : va_S (fun q => s.heap.size ≤ q) s.heap H locs) (hl : lv_has ls 4 [(0, .ref b), (1, .ref bx), (2, .ref bm), (3, .int (nI i))])
    (kk : ∀ (mi : Nat → Option Nat) (ko : Option Nat) (T : TT) (M : Nat → Nat → Int32) (I : Nat → TT) (H : Heap) (locs : List Loc) (cells' slots' : Nat), cells' ≤ cells + 47 → slots' ≤ slots + 4608 → RG T M I mi → GG E bx bm mi ko T M I H → va_S (fun q => s.heap.size ≤ q) s.heap H locs → W p l e room_1 s m #[Value.ref b] below meth c H locs cells' slots' (lw_Z below #[Value.ref b] s) (F0 m 1647 ls [])) : W p l e room_1 s m #[Value.ref b] below meth c H locs cells slots (lw_Z below #[Value.ref b] s) (F0 m 975 ls []) := by
  obtain ⟨hx, hb, hr, hml, hown, hts, hX0, hbl, hlocks, hgv⟩ := id C0
  have zc : zC p s m #[Value.ref b] meth c cL_law 4 RL ret := ⟨hx, hb, hml, hown, fun w hw => hts w (zb_in hw), hr, hlocks⟩
  have hbA : ¬ (fun q : Nat => s.heap.size ≤ q) b := Nat.not_le.mpr hbl
  refine lv_aload_n hx hb dL_law_975 rfl (lv_at hl 1 rfl) ?_
  refine lv_aload_n hx hb dL_law_976 rfl (lv_at hl 0 rfl) ?_
  refine lv_iload_n hx hb dL_law_977 rfl (lv_at hl 3 rfl) ?_
  refine lv_iconst (v := (1 : Int32)) hx hb dL_law_978 (by decide) ?_
  refine lv_iadd hx hb dL_law_979 ?_
  refine va_sld hx hb hX0 hbl hbA hS (zidx (k := 1) hi hL rfl (by decide)) dL_law_980 ?_
  refine lv_aload_n hx hb dL_law_981 rfl (lv_at hl 0 rfl) ?_
  refine lv_iload_n hx hb dL_law_982 rfl (lv_at hl 3 rfl) ?_
  refine lv_iconst (v := (2 : Int32)) hx hb dL_law_983 (by decide) ?_
  refine lv_iadd hx hb dL_law_984 ?_
  refine va_sld hx hb hX0 hbl hbA hS (zidx (k := 2) hi hL rfl (by decide)) dL_law_985 ?_
  have hB0 := tB_of hG.2.2.2.1
  have hI0 := tBI_of hG.2.2.1
  refine gx_order [] hcs C0 hbx hbm hK hO hG hS hl.1 (Nat.le_of_ble_eq_true rfl) kmL_97 dL_law_986 (fun r1 mi' ko' T' I' H locs cells' slots' hx1 e1 e2 hG1 hS1 => ?_)
  obtain ⟨rfl, rfl, rfl⟩ := hx1
  have hG := hG1
  have hS := hS1
  refine lv_pop hx hb dL_law_989 rfl ?_
  refine lv_aload_n hx hb dL_law_990 rfl (lv_at hl 2 rfl) ?_
  refine lv_aload_n hx hb dL_law_991 rfl (lv_at hl 0 rfl) ?_
  refine lv_iload_n hx hb dL_law_992 rfl (lv_at hl 3 rfl) ?_
  refine lv_iconst (v := (1 : Int32)) hx hb dL_law_993 (by decide) ?_
  refine lv_iadd hx hb dL_law_994 ?_
  refine va_sld hx hb hX0 hbl hbA hS (zidx (k := 1) hi hL rfl (by decide)) dL_law_995 ?_
  refine lv_aload_n hx hb dL_law_996 rfl (lv_at hl 0 rfl) ?_
  refine lv_iload_n hx hb dL_law_997 rfl (lv_at hl 3 rfl) ?_
  refine lv_iconst (v := (2 : Int32)) hx hb dL_law_998 (by decide) ?_
  refine lv_iadd hx hb dL_law_999 ?_
  refine va_sld hx hb hX0 hbl hbA hS (zidx (k := 2) hi hL rfl (by decide)) dL_law_1000 ?_
  refine gm_order [] ⟨Nat.le_trans e1 hcs.1, Nat.le_trans e2 hcs.2⟩ C0 hbx hbm hK hO hG hS hl.1 (Nat.le_of_ble_eq_true rfl) kmL_100 dL_law_1001 (fun r2 M' H locs hm1 hG2 hS2 => ?_)
  obtain rfl := hm1
  have hG := hG2
  have hS := hS2
  refine lv_pop hx hb dL_law_1004 rfl ?_
  refine lv_goto (tgt := 1647) hx hb dL_law_1005 (by decide) ?_
  exact kk _ _ _ _ _ _ _ _ _ e1 e2 hR hG hS

set_option maxRecDepth 40000 in
set_option maxHeartbeats 4000000 in
theorem g_20 {p : Program} {l : Launch} {e : Env} {s : State} {m : MethodId} {below : List Frame} {meth : Method} {c : Code} {E : zE} {G : zG} {b L i bx bm cells slots : Nat} {xs : Nat → Int32} {mi : Nat → Option Nat} {ko : Option Nat} {T : TT} {M : Nat → Nat → Int32} {I : Nat → TT} {H : Heap} {locs : List Loc} {ls : Array Slot} (hi : i + 6 ≤ L) (hL : L ≤ 3072) (hR : RG T M I mi) (hcs : cells + 47 ≤ room_1.cells ∧ slots + 4608 ≤ room_1.slots) (C0 : lw_At p s m meth c b L xs) (hbx : s.heap.size ≤ bx) (hbm : bx + 93 ≤ bm) (hK : zK E s) (hO : zO s ∧ zZ G (fun q => s.heap.size ≤ q) s s.heap) (hG : GG E bx bm mi ko T M I H) (hS : va_S (fun q => s.heap.size ≤ q) s.heap H locs) (hl : lv_has ls 4 [(0, .ref b), (1, .ref bx), (2, .ref bm), (3, .int (nI i))])
    (kk : ∀ (mi : Nat → Option Nat) (ko : Option Nat) (T : TT) (M : Nat → Nat → Int32) (I : Nat → TT) (H : Heap) (locs : List Loc) (cells' slots' : Nat), cells' ≤ cells + 47 → slots' ≤ slots + 4608 → RG T M I mi → GG E bx bm mi ko T M I H → va_S (fun q => s.heap.size ≤ q) s.heap H locs → W p l e room_1 s m #[Value.ref b] below meth c H locs cells' slots' (lw_Z below #[Value.ref b] s) (F0 m 1647 ls [])) : W p l e room_1 s m #[Value.ref b] below meth c H locs cells slots (lw_Z below #[Value.ref b] s) (F0 m 1008 ls []) := by
  obtain ⟨hx, hb, hr, hml, hown, hts, hX0, hbl, hlocks, hgv⟩ := id C0
  have zc : zC p s m #[Value.ref b] meth c cL_law 4 RL ret := ⟨hx, hb, hml, hown, fun w hw => hts w (zb_in hw), hr, hlocks⟩
  have hbA : ¬ (fun q : Nat => s.heap.size ≤ q) b := Nat.not_le.mpr hbl
  refine lv_aload_n hx hb dL_law_1008 rfl (lv_at hl 1 rfl) ?_
  refine lv_aload_n hx hb dL_law_1009 rfl (lv_at hl 0 rfl) ?_
  refine lv_iload_n hx hb dL_law_1010 rfl (lv_at hl 3 rfl) ?_
  refine lv_iconst (v := (1 : Int32)) hx hb dL_law_1011 (by decide) ?_
  refine lv_iadd hx hb dL_law_1012 ?_
  refine va_sld hx hb hX0 hbl hbA hS (zidx (k := 1) hi hL rfl (by decide)) dL_law_1013 ?_
  refine lv_aload_n hx hb dL_law_1014 rfl (lv_at hl 0 rfl) ?_
  refine lv_iload_n hx hb dL_law_1015 rfl (lv_at hl 3 rfl) ?_
  refine lv_iconst (v := (2 : Int32)) hx hb dL_law_1016 (by decide) ?_
  refine lv_iadd hx hb dL_law_1017 ?_
  refine va_sld hx hb hX0 hbl hbA hS (zidx (k := 2) hi hL rfl (by decide)) dL_law_1018 ?_
  refine lv_aload_n hx hb dL_law_1019 rfl (lv_at hl 0 rfl) ?_
  refine lv_iload_n hx hb dL_law_1020 rfl (lv_at hl 3 rfl) ?_
  refine lv_iconst (v := (3 : Int32)) hx hb dL_law_1021 (by decide) ?_
  refine lv_iadd hx hb dL_law_1022 ?_
  refine va_sld hx hb hX0 hbl hbA hS (zidx (k := 3) hi hL rfl (by decide)) dL_law_1023 ?_
  refine lv_aload_n hx hb dL_law_1024 rfl (lv_at hl 0 rfl) ?_
  refine lv_iload_n hx hb dL_law_1025 rfl (lv_at hl 3 rfl) ?_
  refine lv_iconst (v := (4 : Int32)) hx hb dL_law_1026 (by decide) ?_
  refine lv_iadd hx hb dL_law_1027 ?_
  refine va_sld hx hb hX0 hbl hbA hS (zidx (k := 4) hi hL rfl (by decide)) dL_law_1028 ?_
  refine lv_if_eq (tgt := 1036) hx hb dL_law_1029 (by decide) (fun hc0 => ?_) (fun hc0 => ?_)
  ·
    refine lv_iconst (v := (0 : Int32)) hx hb dL_law_1036 (by decide) ?_
    have hB0 := tB_of hG.2.2.2.1
    have hI0 := tBI_of hG.2.2.1
    refine gx_trade [] hcs C0 hbx hbm hK hO hG hS hl.1 (Nat.le_of_ble_eq_true rfl) kmL_101 dL_law_1037 (fun r1 mi' ko' T' I' H locs cells' slots' hx1 e1 e2 hG1 hS1 => ?_)
    obtain ⟨rfl, rfl, rfl⟩ := hx1
    have hG := hG1
    have hS := hS1
    refine lv_pop hx hb dL_law_1040 rfl ?_
    refine lv_aload_n hx hb dL_law_1041 rfl (lv_at hl 2 rfl) ?_
    refine lv_aload_n hx hb dL_law_1042 rfl (lv_at hl 0 rfl) ?_
    refine lv_iload_n hx hb dL_law_1043 rfl (lv_at hl 3 rfl) ?_
    refine lv_iconst (v := (1 : Int32)) hx hb dL_law_1044 (by decide) ?_
    refine lv_iadd hx hb dL_law_1045 ?_
    refine va_sld hx hb hX0 hbl hbA hS (zidx (k := 1) hi hL rfl (by decide)) dL_law_1046 ?_
    refine lv_aload_n hx hb dL_law_1047 rfl (lv_at hl 0 rfl) ?_
    refine lv_iload_n hx hb dL_law_1048 rfl (lv_at hl 3 rfl) ?_
    refine lv_iconst (v := (2 : Int32)) hx hb dL_law_1049 (by decide) ?_
    refine lv_iadd hx hb dL_law_1050 ?_
    refine va_sld hx hb hX0 hbl hbA hS (zidx (k := 2) hi hL rfl (by decide)) dL_law_1051 ?_
    refine lv_aload_n hx hb dL_law_1052 rfl (lv_at hl 0 rfl) ?_
    refine lv_iload_n hx hb dL_law_1053 rfl (lv_at hl 3 rfl) ?_
    refine lv_iconst (v := (3 : Int32)) hx hb dL_law_1054 (by decide) ?_
    refine lv_iadd hx hb dL_law_1055 ?_
    refine va_sld hx hb hX0 hbl hbA hS (zidx (k := 3) hi hL rfl (by decide)) dL_law_1056 ?_
    refine lv_aload_n hx hb dL_law_1057 rfl (lv_at hl 0 rfl) ?_
    refine lv_iload_n hx hb dL_law_1058 rfl (lv_at hl 3 rfl) ?_
    refine lv_iconst (v := (4 : Int32)) hx hb dL_law_1059 (by decide) ?_
    refine lv_iadd hx hb dL_law_1060 ?_
    refine va_sld hx hb hX0 hbl hbA hS (zidx (k := 4) hi hL rfl (by decide)) dL_law_1061 ?_
    refine lv_if_eq (tgt := 1069) hx hb dL_law_1062 (by decide) (fun hc11 => ?_) (fun hc11 => ?_)
    ·
      refine lv_iconst (v := (0 : Int32)) hx hb dL_law_1069 (by decide) ?_
      refine gm_trade [] ⟨Nat.le_trans e1 hcs.1, Nat.le_trans e2 hcs.2⟩ C0 hbx hbm hK hO hG hS hl.1 (Nat.le_of_ble_eq_true rfl) kmL_105 dL_law_1070 (fun r2 M' H locs hm1 hG2 hS2 => ?_)
      obtain rfl := hm1
      have hG := hG2
      have hS := hS2
      refine lv_pop hx hb dL_law_1073 rfl ?_
      refine lv_goto (tgt := 1647) hx hb dL_law_1074 (by decide) ?_
      exact kk _ _ _ _ _ _ _ _ _ e1 e2 hR hG hS
    ·
      refine lv_iconst (v := (1 : Int32)) hx hb dL_law_1065 (by decide) ?_
      refine lv_goto (tgt := 1070) hx hb dL_law_1066 (by decide) ?_
      refine gm_trade [] ⟨Nat.le_trans e1 hcs.1, Nat.le_trans e2 hcs.2⟩ C0 hbx hbm hK hO hG hS hl.1 (Nat.le_of_ble_eq_true rfl) kmL_105 dL_law_1070 (fun r2 M' H locs hm1 hG2 hS2 => ?_)
      obtain rfl := hm1
      have hG := hG2
      have hS := hS2
      refine lv_pop hx hb dL_law_1073 rfl ?_
      refine lv_goto (tgt := 1647) hx hb dL_law_1074 (by decide) ?_
      exact kk _ _ _ _ _ _ _ _ _ e1 e2 hR hG hS
  ·
    refine lv_iconst (v := (1 : Int32)) hx hb dL_law_1032 (by decide) ?_
    refine lv_goto (tgt := 1037) hx hb dL_law_1033 (by decide) ?_
    have hB0 := tB_of hG.2.2.2.1
    have hI0 := tBI_of hG.2.2.1
    refine gx_trade [] hcs C0 hbx hbm hK hO hG hS hl.1 (Nat.le_of_ble_eq_true rfl) kmL_101 dL_law_1037 (fun r1 mi' ko' T' I' H locs cells' slots' hx1 e1 e2 hG1 hS1 => ?_)
    obtain ⟨rfl, rfl, rfl⟩ := hx1
    have hG := hG1
    have hS := hS1
    refine lv_pop hx hb dL_law_1040 rfl ?_
    refine lv_aload_n hx hb dL_law_1041 rfl (lv_at hl 2 rfl) ?_
    refine lv_aload_n hx hb dL_law_1042 rfl (lv_at hl 0 rfl) ?_
    refine lv_iload_n hx hb dL_law_1043 rfl (lv_at hl 3 rfl) ?_
    refine lv_iconst (v := (1 : Int32)) hx hb dL_law_1044 (by decide) ?_
    refine lv_iadd hx hb dL_law_1045 ?_
    refine va_sld hx hb hX0 hbl hbA hS (zidx (k := 1) hi hL rfl (by decide)) dL_law_1046 ?_
    refine lv_aload_n hx hb dL_law_1047 rfl (lv_at hl 0 rfl) ?_
    refine lv_iload_n hx hb dL_law_1048 rfl (lv_at hl 3 rfl) ?_
    refine lv_iconst (v := (2 : Int32)) hx hb dL_law_1049 (by decide) ?_
    refine lv_iadd hx hb dL_law_1050 ?_
    refine va_sld hx hb hX0 hbl hbA hS (zidx (k := 2) hi hL rfl (by decide)) dL_law_1051 ?_
    refine lv_aload_n hx hb dL_law_1052 rfl (lv_at hl 0 rfl) ?_
    refine lv_iload_n hx hb dL_law_1053 rfl (lv_at hl 3 rfl) ?_
    refine lv_iconst (v := (3 : Int32)) hx hb dL_law_1054 (by decide) ?_
    refine lv_iadd hx hb dL_law_1055 ?_
    refine va_sld hx hb hX0 hbl hbA hS (zidx (k := 3) hi hL rfl (by decide)) dL_law_1056 ?_
    refine lv_aload_n hx hb dL_law_1057 rfl (lv_at hl 0 rfl) ?_
    refine lv_iload_n hx hb dL_law_1058 rfl (lv_at hl 3 rfl) ?_
    refine lv_iconst (v := (4 : Int32)) hx hb dL_law_1059 (by decide) ?_
    refine lv_iadd hx hb dL_law_1060 ?_
    refine va_sld hx hb hX0 hbl hbA hS (zidx (k := 4) hi hL rfl (by decide)) dL_law_1061 ?_
    refine lv_if_eq (tgt := 1069) hx hb dL_law_1062 (by decide) (fun hc11 => ?_) (fun hc11 => ?_)
    ·
      refine lv_iconst (v := (0 : Int32)) hx hb dL_law_1069 (by decide) ?_
      refine gm_trade [] ⟨Nat.le_trans e1 hcs.1, Nat.le_trans e2 hcs.2⟩ C0 hbx hbm hK hO hG hS hl.1 (Nat.le_of_ble_eq_true rfl) kmL_105 dL_law_1070 (fun r2 M' H locs hm1 hG2 hS2 => ?_)
      obtain rfl := hm1
      have hG := hG2
      have hS := hS2
      refine lv_pop hx hb dL_law_1073 rfl ?_
      refine lv_goto (tgt := 1647) hx hb dL_law_1074 (by decide) ?_
      exact kk _ _ _ _ _ _ _ _ _ e1 e2 hR hG hS
    ·
      refine lv_iconst (v := (1 : Int32)) hx hb dL_law_1065 (by decide) ?_
      refine lv_goto (tgt := 1070) hx hb dL_law_1066 (by decide) ?_
      refine gm_trade [] ⟨Nat.le_trans e1 hcs.1, Nat.le_trans e2 hcs.2⟩ C0 hbx hbm hK hO hG hS hl.1 (Nat.le_of_ble_eq_true rfl) kmL_105 dL_law_1070 (fun r2 M' H locs hm1 hG2 hS2 => ?_)
      obtain rfl := hm1
      have hG := hG2
      have hS := hS2
      refine lv_pop hx hb dL_law_1073 rfl ?_
      refine lv_goto (tgt := 1647) hx hb dL_law_1074 (by decide) ?_
      exact kk _ _ _ _ _ _ _ _ _ e1 e2 hR hG hS

set_option maxRecDepth 40000 in
set_option maxHeartbeats 4000000 in
theorem g_21 {p : Program} {l : Launch} {e : Env} {s : State} {m : MethodId} {below : List Frame} {meth : Method} {c : Code} {E : zE} {G : zG} {b L i bx bm cells slots : Nat} {xs : Nat → Int32} {mi : Nat → Option Nat} {ko : Option Nat} {T : TT} {M : Nat → Nat → Int32} {I : Nat → TT} {H : Heap} {locs : List Loc} {ls : Array Slot} (hi : i + 6 ≤ L) (hL : L ≤ 3072) (hR : RG T M I mi) (hcs : cells + 47 ≤ room_1.cells ∧ slots + 4608 ≤ room_1.slots) (C0 : lw_At p s m meth c b L xs) (hbx : s.heap.size ≤ bx) (hbm : bx + 93 ≤ bm) (hK : zK E s) (hO : zO s ∧ zZ G (fun q => s.heap.size ≤ q) s s.heap) (hG : GG E bx bm mi ko T M I H) (hS : va_S (fun q => s.heap.size ≤ q) s.heap H locs) (hl : lv_has ls 4 [(0, .ref b), (1, .ref bx), (2, .ref bm), (3, .int (nI i))])
    (kk : ∀ (mi : Nat → Option Nat) (ko : Option Nat) (T : TT) (M : Nat → Nat → Int32) (I : Nat → TT) (H : Heap) (locs : List Loc) (cells' slots' : Nat), cells' ≤ cells + 47 → slots' ≤ slots + 4608 → RG T M I mi → GG E bx bm mi ko T M I H → va_S (fun q => s.heap.size ≤ q) s.heap H locs → W p l e room_1 s m #[Value.ref b] below meth c H locs cells' slots' (lw_Z below #[Value.ref b] s) (F0 m 1647 ls [])) : W p l e room_1 s m #[Value.ref b] below meth c H locs cells slots (lw_Z below #[Value.ref b] s) (F0 m 1077 ls []) := by
  obtain ⟨hx, hb, hr, hml, hown, hts, hX0, hbl, hlocks, hgv⟩ := id C0
  have zc : zC p s m #[Value.ref b] meth c cL_law 4 RL ret := ⟨hx, hb, hml, hown, fun w hw => hts w (zb_in hw), hr, hlocks⟩
  have hbA : ¬ (fun q : Nat => s.heap.size ≤ q) b := Nat.not_le.mpr hbl
  refine lv_aload_n hx hb dL_law_1077 rfl (lv_at hl 1 rfl) ?_
  refine lv_aload_n hx hb dL_law_1078 rfl (lv_at hl 0 rfl) ?_
  refine lv_iload_n hx hb dL_law_1079 rfl (lv_at hl 3 rfl) ?_
  refine lv_iconst (v := (1 : Int32)) hx hb dL_law_1080 (by decide) ?_
  refine lv_iadd hx hb dL_law_1081 ?_
  refine va_sld hx hb hX0 hbl hbA hS (zidx (k := 1) hi hL rfl (by decide)) dL_law_1082 ?_
  refine lv_aload_n hx hb dL_law_1083 rfl (lv_at hl 0 rfl) ?_
  refine lv_iload_n hx hb dL_law_1084 rfl (lv_at hl 3 rfl) ?_
  refine lv_iconst (v := (2 : Int32)) hx hb dL_law_1085 (by decide) ?_
  refine lv_iadd hx hb dL_law_1086 ?_
  refine va_sld hx hb hX0 hbl hbA hS (zidx (k := 2) hi hL rfl (by decide)) dL_law_1087 ?_
  refine lv_aload_n hx hb dL_law_1088 rfl (lv_at hl 0 rfl) ?_
  refine lv_iload_n hx hb dL_law_1089 rfl (lv_at hl 3 rfl) ?_
  refine lv_iconst (v := (3 : Int32)) hx hb dL_law_1090 (by decide) ?_
  refine lv_iadd hx hb dL_law_1091 ?_
  refine va_sld hx hb hX0 hbl hbA hS (zidx (k := 3) hi hL rfl (by decide)) dL_law_1092 ?_
  have hB0 := tB_of hG.2.2.2.1
  have hI0 := tBI_of hG.2.2.1
  refine gx_odds [] hcs C0 hbx hbm hK hO hG hS hl.1 (Nat.le_of_ble_eq_true rfl) kmL_106 dL_law_1093 (fun r1 mi' ko' T' I' H locs cells' slots' hx1 e1 e2 hG1 hS1 => ?_)
  obtain ⟨rfl, rfl, rfl⟩ := hx1
  have hG := hG1
  have hS := hS1
  refine lv_pop2_2 hx hb dL_law_1096 rfl ?_
  refine lv_aload_n hx hb dL_law_1097 rfl (lv_at hl 2 rfl) ?_
  refine lv_aload_n hx hb dL_law_1098 rfl (lv_at hl 0 rfl) ?_
  refine lv_iload_n hx hb dL_law_1099 rfl (lv_at hl 3 rfl) ?_
  refine lv_iconst (v := (1 : Int32)) hx hb dL_law_1100 (by decide) ?_
  refine lv_iadd hx hb dL_law_1101 ?_
  refine va_sld hx hb hX0 hbl hbA hS (zidx (k := 1) hi hL rfl (by decide)) dL_law_1102 ?_
  refine lv_aload_n hx hb dL_law_1103 rfl (lv_at hl 0 rfl) ?_
  refine lv_iload_n hx hb dL_law_1104 rfl (lv_at hl 3 rfl) ?_
  refine lv_iconst (v := (2 : Int32)) hx hb dL_law_1105 (by decide) ?_
  refine lv_iadd hx hb dL_law_1106 ?_
  refine va_sld hx hb hX0 hbl hbA hS (zidx (k := 2) hi hL rfl (by decide)) dL_law_1107 ?_
  refine lv_aload_n hx hb dL_law_1108 rfl (lv_at hl 0 rfl) ?_
  refine lv_iload_n hx hb dL_law_1109 rfl (lv_at hl 3 rfl) ?_
  refine lv_iconst (v := (3 : Int32)) hx hb dL_law_1110 (by decide) ?_
  refine lv_iadd hx hb dL_law_1111 ?_
  refine va_sld hx hb hX0 hbl hbA hS (zidx (k := 3) hi hL rfl (by decide)) dL_law_1112 ?_
  refine gm_odds [] ⟨Nat.le_trans e1 hcs.1, Nat.le_trans e2 hcs.2⟩ C0 hbx hbm hK hO hG hS hl.1 (Nat.le_of_ble_eq_true rfl) kmL_110 dL_law_1113 (fun r2 M' H locs hm1 hG2 hS2 => ?_)
  obtain rfl := hm1
  have hG := hG2
  have hS := hS2
  refine lv_pop2_2 hx hb dL_law_1116 rfl ?_
  refine lv_goto (tgt := 1647) hx hb dL_law_1117 (by decide) ?_
  exact kk _ _ _ _ _ _ _ _ _ e1 e2 hR hG hS
end
section
set_option maxRecDepth 40000 in
set_option maxHeartbeats 4000000 in
theorem g_22 {p : Program} {l : Launch} {e : Env} {s : State} {m : MethodId} {below : List Frame} {meth : Method} {c : Code} {E : zE} {G : zG} {b L i bx bm cells slots : Nat} {xs : Nat → Int32} {mi : Nat → Option Nat} {ko : Option Nat} {T : TT} {M : Nat → Nat → Int32} {I : Nat → TT} {H : Heap} {locs : List Loc} {ls : Array Slot} (hi : i + 6 ≤ L) (hL : L ≤ 3072) (hR : RG T M I mi) (hcs : cells + 47 ≤ room_1.cells ∧ slots + 4608 ≤ room_1.slots) (C0 : lw_At p s m meth c b L xs) (hbx : s.heap.size ≤ bx) (hbm : bx + 93 ≤ bm) (hK : zK E s) (hO : zO s ∧ zZ G (fun q => s.heap.size ≤ q) s s.heap) (hG : GG E bx bm mi ko T M I H) (hS : va_S (fun q => s.heap.size ≤ q) s.heap H locs) (hl : lv_has ls 4 [(0, .ref b), (1, .ref bx), (2, .ref bm), (3, .int (nI i))])
    (kk : ∀ (mi : Nat → Option Nat) (ko : Option Nat) (T : TT) (M : Nat → Nat → Int32) (I : Nat → TT) (H : Heap) (locs : List Loc) (cells' slots' : Nat), cells' ≤ cells + 47 → slots' ≤ slots + 4608 → RG T M I mi → GG E bx bm mi ko T M I H → va_S (fun q => s.heap.size ≤ q) s.heap H locs → W p l e room_1 s m #[Value.ref b] below meth c H locs cells' slots' (lw_Z below #[Value.ref b] s) (F0 m 1647 ls [])) : W p l e room_1 s m #[Value.ref b] below meth c H locs cells slots (lw_Z below #[Value.ref b] s) (F0 m 1120 ls []) := by
  obtain ⟨hx, hb, hr, hml, hown, hts, hX0, hbl, hlocks, hgv⟩ := id C0
  have zc : zC p s m #[Value.ref b] meth c cL_law 4 RL ret := ⟨hx, hb, hml, hown, fun w hw => hts w (zb_in hw), hr, hlocks⟩
  have hbA : ¬ (fun q : Nat => s.heap.size ≤ q) b := Nat.not_le.mpr hbl
  refine lv_aload_n hx hb dL_law_1120 rfl (lv_at hl 1 rfl) ?_
  refine lv_aload_n hx hb dL_law_1121 rfl (lv_at hl 0 rfl) ?_
  refine lv_iload_n hx hb dL_law_1122 rfl (lv_at hl 3 rfl) ?_
  refine lv_iconst (v := (1 : Int32)) hx hb dL_law_1123 (by decide) ?_
  refine lv_iadd hx hb dL_law_1124 ?_
  refine va_sld hx hb hX0 hbl hbA hS (zidx (k := 1) hi hL rfl (by decide)) dL_law_1125 ?_
  refine lv_aload_n hx hb dL_law_1126 rfl (lv_at hl 0 rfl) ?_
  refine lv_iload_n hx hb dL_law_1127 rfl (lv_at hl 3 rfl) ?_
  refine lv_iconst (v := (2 : Int32)) hx hb dL_law_1128 (by decide) ?_
  refine lv_iadd hx hb dL_law_1129 ?_
  refine va_sld hx hb hX0 hbl hbA hS (zidx (k := 2) hi hL rfl (by decide)) dL_law_1130 ?_
  refine lv_aload_n hx hb dL_law_1131 rfl (lv_at hl 0 rfl) ?_
  refine lv_iload_n hx hb dL_law_1132 rfl (lv_at hl 3 rfl) ?_
  refine lv_iconst (v := (3 : Int32)) hx hb dL_law_1133 (by decide) ?_
  refine lv_iadd hx hb dL_law_1134 ?_
  refine va_sld hx hb hX0 hbl hbA hS (zidx (k := 3) hi hL rfl (by decide)) dL_law_1135 ?_
  refine lv_aload_n hx hb dL_law_1136 rfl (lv_at hl 0 rfl) ?_
  refine lv_iload_n hx hb dL_law_1137 rfl (lv_at hl 3 rfl) ?_
  refine lv_iconst (v := (4 : Int32)) hx hb dL_law_1138 (by decide) ?_
  refine lv_iadd hx hb dL_law_1139 ?_
  refine va_sld hx hb hX0 hbl hbA hS (zidx (k := 4) hi hL rfl (by decide)) dL_law_1140 ?_
  have hB0 := tB_of hG.2.2.2.1
  have hI0 := tBI_of hG.2.2.1
  refine gx_drawn [] hcs C0 hbx hbm hK hO hG hS hR hl.1 (Nat.le_of_ble_eq_true rfl) kmL_111 dL_law_1141 (fun r1 mi' ko' T' I' H locs cells' slots' hx1 e1 e2 hG1 hS1 => ?_)
  obtain ⟨⟨rfl, rfl, rfl⟩, hx2⟩ := hx1
  have hG := hG1
  have hS := hS1
  refine lv_aload_n hx hb dL_law_1144 rfl (lv_at hl 2 rfl) ?_
  refine lv_aload_n hx hb dL_law_1145 rfl (lv_at hl 0 rfl) ?_
  refine lv_iload_n hx hb dL_law_1146 rfl (lv_at hl 3 rfl) ?_
  refine lv_iconst (v := (1 : Int32)) hx hb dL_law_1147 (by decide) ?_
  refine lv_iadd hx hb dL_law_1148 ?_
  refine va_sld hx hb hX0 hbl hbA hS (zidx (k := 1) hi hL rfl (by decide)) dL_law_1149 ?_
  refine lv_aload_n hx hb dL_law_1150 rfl (lv_at hl 0 rfl) ?_
  refine lv_iload_n hx hb dL_law_1151 rfl (lv_at hl 3 rfl) ?_
  refine lv_iconst (v := (2 : Int32)) hx hb dL_law_1152 (by decide) ?_
  refine lv_iadd hx hb dL_law_1153 ?_
  refine va_sld hx hb hX0 hbl hbA hS (zidx (k := 2) hi hL rfl (by decide)) dL_law_1154 ?_
  refine lv_aload_n hx hb dL_law_1155 rfl (lv_at hl 0 rfl) ?_
  refine lv_iload_n hx hb dL_law_1156 rfl (lv_at hl 3 rfl) ?_
  refine lv_iconst (v := (3 : Int32)) hx hb dL_law_1157 (by decide) ?_
  refine lv_iadd hx hb dL_law_1158 ?_
  refine va_sld hx hb hX0 hbl hbA hS (zidx (k := 3) hi hL rfl (by decide)) dL_law_1159 ?_
  refine lv_aload_n hx hb dL_law_1160 rfl (lv_at hl 0 rfl) ?_
  refine lv_iload_n hx hb dL_law_1161 rfl (lv_at hl 3 rfl) ?_
  refine lv_iconst (v := (4 : Int32)) hx hb dL_law_1162 (by decide) ?_
  refine lv_iadd hx hb dL_law_1163 ?_
  refine va_sld hx hb hX0 hbl hbA hS (zidx (k := 4) hi hL rfl (by decide)) dL_law_1164 ?_
  refine gm_drawn [.int r1] ⟨Nat.le_trans e1 hcs.1, Nat.le_trans e2 hcs.2⟩ C0 hbx hbm hK hO hG hS hR.2 hl.1 (Nat.le_of_ble_eq_true rfl) kmL_114 dL_law_1165 (fun r2 M' H locs hm1 hG2 hS2 => ?_)
  obtain ⟨rfl, hm2⟩ := hm1
  have hrr := hx2.trans hm2.symm
  have hG := hG2
  have hS := hS2
  refine lv_icmp_eq (tgt := 1647) hx hb dL_law_1168 (by decide) (fun hd => ?_) (fun hd => absurd hrr hd)
  exact kk _ _ _ _ _ _ _ _ _ e1 e2 hR hG hS

set_option maxRecDepth 40000 in
set_option maxHeartbeats 4000000 in
theorem g_23 {p : Program} {l : Launch} {e : Env} {s : State} {m : MethodId} {below : List Frame} {meth : Method} {c : Code} {E : zE} {G : zG} {b L i bx bm cells slots : Nat} {xs : Nat → Int32} {mi : Nat → Option Nat} {ko : Option Nat} {T : TT} {M : Nat → Nat → Int32} {I : Nat → TT} {H : Heap} {locs : List Loc} {ls : Array Slot} (hi : i + 6 ≤ L) (hL : L ≤ 3072) (hR : RG T M I mi) (hcs : cells + 47 ≤ room_1.cells ∧ slots + 4608 ≤ room_1.slots) (C0 : lw_At p s m meth c b L xs) (hbx : s.heap.size ≤ bx) (hbm : bx + 93 ≤ bm) (hK : zK E s) (hO : zO s ∧ zZ G (fun q => s.heap.size ≤ q) s s.heap) (hG : GG E bx bm mi ko T M I H) (hS : va_S (fun q => s.heap.size ≤ q) s.heap H locs) (hl : lv_has ls 4 [(0, .ref b), (1, .ref bx), (2, .ref bm), (3, .int (nI i))])
    (kk : ∀ (mi : Nat → Option Nat) (ko : Option Nat) (T : TT) (M : Nat → Nat → Int32) (I : Nat → TT) (H : Heap) (locs : List Loc) (cells' slots' : Nat), cells' ≤ cells + 47 → slots' ≤ slots + 4608 → RG T M I mi → GG E bx bm mi ko T M I H → va_S (fun q => s.heap.size ≤ q) s.heap H locs → W p l e room_1 s m #[Value.ref b] below meth c H locs cells' slots' (lw_Z below #[Value.ref b] s) (F0 m 1647 ls [])) : W p l e room_1 s m #[Value.ref b] below meth c H locs cells slots (lw_Z below #[Value.ref b] s) (F0 m 1173 ls []) := by
  obtain ⟨hx, hb, hr, hml, hown, hts, hX0, hbl, hlocks, hgv⟩ := id C0
  have zc : zC p s m #[Value.ref b] meth c cL_law 4 RL ret := ⟨hx, hb, hml, hown, fun w hw => hts w (zb_in hw), hr, hlocks⟩
  have hbA : ¬ (fun q : Nat => s.heap.size ≤ q) b := Nat.not_le.mpr hbl
  refine lv_aload_n hx hb dL_law_1173 rfl (lv_at hl 1 rfl) ?_
  refine lv_aload_n hx hb dL_law_1174 rfl (lv_at hl 0 rfl) ?_
  refine lv_iload_n hx hb dL_law_1175 rfl (lv_at hl 3 rfl) ?_
  refine lv_iconst (v := (1 : Int32)) hx hb dL_law_1176 (by decide) ?_
  refine lv_iadd hx hb dL_law_1177 ?_
  refine va_sld hx hb hX0 hbl hbA hS (zidx (k := 1) hi hL rfl (by decide)) dL_law_1178 ?_
  refine lv_aload_n hx hb dL_law_1179 rfl (lv_at hl 0 rfl) ?_
  refine lv_iload_n hx hb dL_law_1180 rfl (lv_at hl 3 rfl) ?_
  refine lv_iconst (v := (2 : Int32)) hx hb dL_law_1181 (by decide) ?_
  refine lv_iadd hx hb dL_law_1182 ?_
  refine va_sld hx hb hX0 hbl hbA hS (zidx (k := 2) hi hL rfl (by decide)) dL_law_1183 ?_
  refine lv_aload_n hx hb dL_law_1184 rfl (lv_at hl 0 rfl) ?_
  refine lv_iload_n hx hb dL_law_1185 rfl (lv_at hl 3 rfl) ?_
  refine lv_iconst (v := (3 : Int32)) hx hb dL_law_1186 (by decide) ?_
  refine lv_iadd hx hb dL_law_1187 ?_
  refine va_sld hx hb hX0 hbl hbA hS (zidx (k := 3) hi hL rfl (by decide)) dL_law_1188 ?_
  refine lv_aload_n hx hb dL_law_1189 rfl (lv_at hl 0 rfl) ?_
  refine lv_iload_n hx hb dL_law_1190 rfl (lv_at hl 3 rfl) ?_
  refine lv_iconst (v := (4 : Int32)) hx hb dL_law_1191 (by decide) ?_
  refine lv_iadd hx hb dL_law_1192 ?_
  refine va_sld hx hb hX0 hbl hbA hS (zidx (k := 4) hi hL rfl (by decide)) dL_law_1193 ?_
  have hB0 := tB_of hG.2.2.2.1
  have hI0 := tBI_of hG.2.2.1
  refine gx_psalm [] hcs C0 hbx hbm hK hO hG hS hl.1 (Nat.le_of_ble_eq_true rfl) kmL_115 dL_law_1194 (fun r1 mi' ko' T' I' H locs cells' slots' hx1 e1 e2 hG1 hS1 => ?_)
  obtain ⟨rfl, rfl, rfl⟩ := hx1
  have hG := hG1
  have hS := hS1
  refine lv_pop hx hb dL_law_1197 rfl ?_
  refine lv_aload_n hx hb dL_law_1198 rfl (lv_at hl 2 rfl) ?_
  refine lv_aload_n hx hb dL_law_1199 rfl (lv_at hl 0 rfl) ?_
  refine lv_iload_n hx hb dL_law_1200 rfl (lv_at hl 3 rfl) ?_
  refine lv_iconst (v := (1 : Int32)) hx hb dL_law_1201 (by decide) ?_
  refine lv_iadd hx hb dL_law_1202 ?_
  refine va_sld hx hb hX0 hbl hbA hS (zidx (k := 1) hi hL rfl (by decide)) dL_law_1203 ?_
  refine lv_aload_n hx hb dL_law_1204 rfl (lv_at hl 0 rfl) ?_
  refine lv_iload_n hx hb dL_law_1205 rfl (lv_at hl 3 rfl) ?_
  refine lv_iconst (v := (2 : Int32)) hx hb dL_law_1206 (by decide) ?_
  refine lv_iadd hx hb dL_law_1207 ?_
  refine va_sld hx hb hX0 hbl hbA hS (zidx (k := 2) hi hL rfl (by decide)) dL_law_1208 ?_
  refine lv_aload_n hx hb dL_law_1209 rfl (lv_at hl 0 rfl) ?_
  refine lv_iload_n hx hb dL_law_1210 rfl (lv_at hl 3 rfl) ?_
  refine lv_iconst (v := (3 : Int32)) hx hb dL_law_1211 (by decide) ?_
  refine lv_iadd hx hb dL_law_1212 ?_
  refine va_sld hx hb hX0 hbl hbA hS (zidx (k := 3) hi hL rfl (by decide)) dL_law_1213 ?_
  refine lv_aload_n hx hb dL_law_1214 rfl (lv_at hl 0 rfl) ?_
  refine lv_iload_n hx hb dL_law_1215 rfl (lv_at hl 3 rfl) ?_
  refine lv_iconst (v := (4 : Int32)) hx hb dL_law_1216 (by decide) ?_
  refine lv_iadd hx hb dL_law_1217 ?_
  refine va_sld hx hb hX0 hbl hbA hS (zidx (k := 4) hi hL rfl (by decide)) dL_law_1218 ?_
  refine gm_psalm [] ⟨Nat.le_trans e1 hcs.1, Nat.le_trans e2 hcs.2⟩ C0 hbx hbm hK hO hG hS hl.1 (Nat.le_of_ble_eq_true rfl) kmL_118 dL_law_1219 (fun r2 M' H locs hm1 hG2 hS2 => ?_)
  obtain rfl := hm1
  have hG := hG2
  have hS := hS2
  refine lv_pop hx hb dL_law_1222 rfl ?_
  refine lv_goto (tgt := 1647) hx hb dL_law_1223 (by decide) ?_
  exact kk _ _ _ _ _ _ _ _ _ e1 e2 hR hG hS

set_option maxRecDepth 40000 in
set_option maxHeartbeats 4000000 in
theorem g_24 {p : Program} {l : Launch} {e : Env} {s : State} {m : MethodId} {below : List Frame} {meth : Method} {c : Code} {E : zE} {G : zG} {b L i bx bm cells slots : Nat} {xs : Nat → Int32} {mi : Nat → Option Nat} {ko : Option Nat} {T : TT} {M : Nat → Nat → Int32} {I : Nat → TT} {H : Heap} {locs : List Loc} {ls : Array Slot} (hi : i + 6 ≤ L) (hL : L ≤ 3072) (hR : RG T M I mi) (hcs : cells + 47 ≤ room_1.cells ∧ slots + 4608 ≤ room_1.slots) (C0 : lw_At p s m meth c b L xs) (hbx : s.heap.size ≤ bx) (hbm : bx + 93 ≤ bm) (hK : zK E s) (hO : zO s ∧ zZ G (fun q => s.heap.size ≤ q) s s.heap) (hG : GG E bx bm mi ko T M I H) (hS : va_S (fun q => s.heap.size ≤ q) s.heap H locs) (hl : lv_has ls 4 [(0, .ref b), (1, .ref bx), (2, .ref bm), (3, .int (nI i))])
    (kk : ∀ (mi : Nat → Option Nat) (ko : Option Nat) (T : TT) (M : Nat → Nat → Int32) (I : Nat → TT) (H : Heap) (locs : List Loc) (cells' slots' : Nat), cells' ≤ cells + 47 → slots' ≤ slots + 4608 → RG T M I mi → GG E bx bm mi ko T M I H → va_S (fun q => s.heap.size ≤ q) s.heap H locs → W p l e room_1 s m #[Value.ref b] below meth c H locs cells' slots' (lw_Z below #[Value.ref b] s) (F0 m 1647 ls [])) : W p l e room_1 s m #[Value.ref b] below meth c H locs cells slots (lw_Z below #[Value.ref b] s) (F0 m 1226 ls []) := by
  obtain ⟨hx, hb, hr, hml, hown, hts, hX0, hbl, hlocks, hgv⟩ := id C0
  have zc : zC p s m #[Value.ref b] meth c cL_law 4 RL ret := ⟨hx, hb, hml, hown, fun w hw => hts w (zb_in hw), hr, hlocks⟩
  have hbA : ¬ (fun q : Nat => s.heap.size ≤ q) b := Nat.not_le.mpr hbl
  refine lv_aload_n hx hb dL_law_1226 rfl (lv_at hl 1 rfl) ?_
  refine lv_aload_n hx hb dL_law_1227 rfl (lv_at hl 0 rfl) ?_
  refine lv_iload_n hx hb dL_law_1228 rfl (lv_at hl 3 rfl) ?_
  refine lv_iconst (v := (1 : Int32)) hx hb dL_law_1229 (by decide) ?_
  refine lv_iadd hx hb dL_law_1230 ?_
  refine va_sld hx hb hX0 hbl hbA hS (zidx (k := 1) hi hL rfl (by decide)) dL_law_1231 ?_
  refine lv_aload_n hx hb dL_law_1232 rfl (lv_at hl 0 rfl) ?_
  refine lv_iload_n hx hb dL_law_1233 rfl (lv_at hl 3 rfl) ?_
  refine lv_iconst (v := (2 : Int32)) hx hb dL_law_1234 (by decide) ?_
  refine lv_iadd hx hb dL_law_1235 ?_
  refine va_sld hx hb hX0 hbl hbA hS (zidx (k := 2) hi hL rfl (by decide)) dL_law_1236 ?_
  refine lv_aload_n hx hb dL_law_1237 rfl (lv_at hl 0 rfl) ?_
  refine lv_iload_n hx hb dL_law_1238 rfl (lv_at hl 3 rfl) ?_
  refine lv_iconst (v := (3 : Int32)) hx hb dL_law_1239 (by decide) ?_
  refine lv_iadd hx hb dL_law_1240 ?_
  refine va_sld hx hb hX0 hbl hbA hS (zidx (k := 3) hi hL rfl (by decide)) dL_law_1241 ?_
  refine lv_aload_n hx hb dL_law_1242 rfl (lv_at hl 0 rfl) ?_
  refine lv_iload_n hx hb dL_law_1243 rfl (lv_at hl 3 rfl) ?_
  refine lv_iconst (v := (4 : Int32)) hx hb dL_law_1244 (by decide) ?_
  refine lv_iadd hx hb dL_law_1245 ?_
  refine va_sld hx hb hX0 hbl hbA hS (zidx (k := 4) hi hL rfl (by decide)) dL_law_1246 ?_
  refine lv_if_eq (tgt := 1254) hx hb dL_law_1247 (by decide) (fun hc0 => ?_) (fun hc0 => ?_)
  ·
    refine lv_iconst (v := (0 : Int32)) hx hb dL_law_1254 (by decide) ?_
    have hB0 := tB_of hG.2.2.2.1
    have hI0 := tBI_of hG.2.2.1
    refine gx_meet [] hcs C0 hbx hbm hK hO hG hS hl.1 (Nat.le_of_ble_eq_true rfl) kmL_119 dL_law_1255 (fun r1 mi' ko' T' I' H locs cells' slots' hx1 e1 e2 hG1 hS1 => ?_)
    obtain ⟨rfl, rfl, rfl⟩ := hx1
    have hG := hG1
    have hS := hS1
    refine lv_pop hx hb dL_law_1258 rfl ?_
    refine lv_aload_n hx hb dL_law_1259 rfl (lv_at hl 2 rfl) ?_
    refine lv_aload_n hx hb dL_law_1260 rfl (lv_at hl 0 rfl) ?_
    refine lv_iload_n hx hb dL_law_1261 rfl (lv_at hl 3 rfl) ?_
    refine lv_iconst (v := (1 : Int32)) hx hb dL_law_1262 (by decide) ?_
    refine lv_iadd hx hb dL_law_1263 ?_
    refine va_sld hx hb hX0 hbl hbA hS (zidx (k := 1) hi hL rfl (by decide)) dL_law_1264 ?_
    refine lv_aload_n hx hb dL_law_1265 rfl (lv_at hl 0 rfl) ?_
    refine lv_iload_n hx hb dL_law_1266 rfl (lv_at hl 3 rfl) ?_
    refine lv_iconst (v := (2 : Int32)) hx hb dL_law_1267 (by decide) ?_
    refine lv_iadd hx hb dL_law_1268 ?_
    refine va_sld hx hb hX0 hbl hbA hS (zidx (k := 2) hi hL rfl (by decide)) dL_law_1269 ?_
    refine lv_aload_n hx hb dL_law_1270 rfl (lv_at hl 0 rfl) ?_
    refine lv_iload_n hx hb dL_law_1271 rfl (lv_at hl 3 rfl) ?_
    refine lv_iconst (v := (3 : Int32)) hx hb dL_law_1272 (by decide) ?_
    refine lv_iadd hx hb dL_law_1273 ?_
    refine va_sld hx hb hX0 hbl hbA hS (zidx (k := 3) hi hL rfl (by decide)) dL_law_1274 ?_
    refine lv_aload_n hx hb dL_law_1275 rfl (lv_at hl 0 rfl) ?_
    refine lv_iload_n hx hb dL_law_1276 rfl (lv_at hl 3 rfl) ?_
    refine lv_iconst (v := (4 : Int32)) hx hb dL_law_1277 (by decide) ?_
    refine lv_iadd hx hb dL_law_1278 ?_
    refine va_sld hx hb hX0 hbl hbA hS (zidx (k := 4) hi hL rfl (by decide)) dL_law_1279 ?_
    refine lv_if_eq (tgt := 1287) hx hb dL_law_1280 (by decide) (fun hc11 => ?_) (fun hc11 => ?_)
    ·
      refine lv_iconst (v := (0 : Int32)) hx hb dL_law_1287 (by decide) ?_
      refine gm_meet [] ⟨Nat.le_trans e1 hcs.1, Nat.le_trans e2 hcs.2⟩ C0 hbx hbm hK hO hG hS hl.1 (Nat.le_of_ble_eq_true rfl) kmL_122 dL_law_1288 (fun r2 M' H locs hm1 hG2 hS2 => ?_)
      obtain rfl := hm1
      have hG := hG2
      have hS := hS2
      refine lv_pop hx hb dL_law_1291 rfl ?_
      refine lv_goto (tgt := 1647) hx hb dL_law_1292 (by decide) ?_
      exact kk _ _ _ _ _ _ _ _ _ e1 e2 hR hG hS
    ·
      refine lv_iconst (v := (1 : Int32)) hx hb dL_law_1283 (by decide) ?_
      refine lv_goto (tgt := 1288) hx hb dL_law_1284 (by decide) ?_
      refine gm_meet [] ⟨Nat.le_trans e1 hcs.1, Nat.le_trans e2 hcs.2⟩ C0 hbx hbm hK hO hG hS hl.1 (Nat.le_of_ble_eq_true rfl) kmL_122 dL_law_1288 (fun r2 M' H locs hm1 hG2 hS2 => ?_)
      obtain rfl := hm1
      have hG := hG2
      have hS := hS2
      refine lv_pop hx hb dL_law_1291 rfl ?_
      refine lv_goto (tgt := 1647) hx hb dL_law_1292 (by decide) ?_
      exact kk _ _ _ _ _ _ _ _ _ e1 e2 hR hG hS
  ·
    refine lv_iconst (v := (1 : Int32)) hx hb dL_law_1250 (by decide) ?_
    refine lv_goto (tgt := 1255) hx hb dL_law_1251 (by decide) ?_
    have hB0 := tB_of hG.2.2.2.1
    have hI0 := tBI_of hG.2.2.1
    refine gx_meet [] hcs C0 hbx hbm hK hO hG hS hl.1 (Nat.le_of_ble_eq_true rfl) kmL_119 dL_law_1255 (fun r1 mi' ko' T' I' H locs cells' slots' hx1 e1 e2 hG1 hS1 => ?_)
    obtain ⟨rfl, rfl, rfl⟩ := hx1
    have hG := hG1
    have hS := hS1
    refine lv_pop hx hb dL_law_1258 rfl ?_
    refine lv_aload_n hx hb dL_law_1259 rfl (lv_at hl 2 rfl) ?_
    refine lv_aload_n hx hb dL_law_1260 rfl (lv_at hl 0 rfl) ?_
    refine lv_iload_n hx hb dL_law_1261 rfl (lv_at hl 3 rfl) ?_
    refine lv_iconst (v := (1 : Int32)) hx hb dL_law_1262 (by decide) ?_
    refine lv_iadd hx hb dL_law_1263 ?_
    refine va_sld hx hb hX0 hbl hbA hS (zidx (k := 1) hi hL rfl (by decide)) dL_law_1264 ?_
    refine lv_aload_n hx hb dL_law_1265 rfl (lv_at hl 0 rfl) ?_
    refine lv_iload_n hx hb dL_law_1266 rfl (lv_at hl 3 rfl) ?_
    refine lv_iconst (v := (2 : Int32)) hx hb dL_law_1267 (by decide) ?_
    refine lv_iadd hx hb dL_law_1268 ?_
    refine va_sld hx hb hX0 hbl hbA hS (zidx (k := 2) hi hL rfl (by decide)) dL_law_1269 ?_
    refine lv_aload_n hx hb dL_law_1270 rfl (lv_at hl 0 rfl) ?_
    refine lv_iload_n hx hb dL_law_1271 rfl (lv_at hl 3 rfl) ?_
    refine lv_iconst (v := (3 : Int32)) hx hb dL_law_1272 (by decide) ?_
    refine lv_iadd hx hb dL_law_1273 ?_
    refine va_sld hx hb hX0 hbl hbA hS (zidx (k := 3) hi hL rfl (by decide)) dL_law_1274 ?_
    refine lv_aload_n hx hb dL_law_1275 rfl (lv_at hl 0 rfl) ?_
    refine lv_iload_n hx hb dL_law_1276 rfl (lv_at hl 3 rfl) ?_
    refine lv_iconst (v := (4 : Int32)) hx hb dL_law_1277 (by decide) ?_
    refine lv_iadd hx hb dL_law_1278 ?_
    refine va_sld hx hb hX0 hbl hbA hS (zidx (k := 4) hi hL rfl (by decide)) dL_law_1279 ?_
    refine lv_if_eq (tgt := 1287) hx hb dL_law_1280 (by decide) (fun hc11 => ?_) (fun hc11 => ?_)
    ·
      refine lv_iconst (v := (0 : Int32)) hx hb dL_law_1287 (by decide) ?_
      refine gm_meet [] ⟨Nat.le_trans e1 hcs.1, Nat.le_trans e2 hcs.2⟩ C0 hbx hbm hK hO hG hS hl.1 (Nat.le_of_ble_eq_true rfl) kmL_122 dL_law_1288 (fun r2 M' H locs hm1 hG2 hS2 => ?_)
      obtain rfl := hm1
      have hG := hG2
      have hS := hS2
      refine lv_pop hx hb dL_law_1291 rfl ?_
      refine lv_goto (tgt := 1647) hx hb dL_law_1292 (by decide) ?_
      exact kk _ _ _ _ _ _ _ _ _ e1 e2 hR hG hS
    ·
      refine lv_iconst (v := (1 : Int32)) hx hb dL_law_1283 (by decide) ?_
      refine lv_goto (tgt := 1288) hx hb dL_law_1284 (by decide) ?_
      refine gm_meet [] ⟨Nat.le_trans e1 hcs.1, Nat.le_trans e2 hcs.2⟩ C0 hbx hbm hK hO hG hS hl.1 (Nat.le_of_ble_eq_true rfl) kmL_122 dL_law_1288 (fun r2 M' H locs hm1 hG2 hS2 => ?_)
      obtain rfl := hm1
      have hG := hG2
      have hS := hS2
      refine lv_pop hx hb dL_law_1291 rfl ?_
      refine lv_goto (tgt := 1647) hx hb dL_law_1292 (by decide) ?_
      exact kk _ _ _ _ _ _ _ _ _ e1 e2 hR hG hS

set_option maxRecDepth 40000 in
set_option maxHeartbeats 4000000 in
theorem g_25 {p : Program} {l : Launch} {e : Env} {s : State} {m : MethodId} {below : List Frame} {meth : Method} {c : Code} {E : zE} {G : zG} {b L i bx bm cells slots : Nat} {xs : Nat → Int32} {mi : Nat → Option Nat} {ko : Option Nat} {T : TT} {M : Nat → Nat → Int32} {I : Nat → TT} {H : Heap} {locs : List Loc} {ls : Array Slot} (hi : i + 6 ≤ L) (hL : L ≤ 3072) (hR : RG T M I mi) (hcs : cells + 47 ≤ room_1.cells ∧ slots + 4608 ≤ room_1.slots) (C0 : lw_At p s m meth c b L xs) (hbx : s.heap.size ≤ bx) (hbm : bx + 93 ≤ bm) (hK : zK E s) (hO : zO s ∧ zZ G (fun q => s.heap.size ≤ q) s s.heap) (hG : GG E bx bm mi ko T M I H) (hS : va_S (fun q => s.heap.size ≤ q) s.heap H locs) (hl : lv_has ls 4 [(0, .ref b), (1, .ref bx), (2, .ref bm), (3, .int (nI i))])
    (kk : ∀ (mi : Nat → Option Nat) (ko : Option Nat) (T : TT) (M : Nat → Nat → Int32) (I : Nat → TT) (H : Heap) (locs : List Loc) (cells' slots' : Nat), cells' ≤ cells + 47 → slots' ≤ slots + 4608 → RG T M I mi → GG E bx bm mi ko T M I H → va_S (fun q => s.heap.size ≤ q) s.heap H locs → W p l e room_1 s m #[Value.ref b] below meth c H locs cells' slots' (lw_Z below #[Value.ref b] s) (F0 m 1647 ls [])) : W p l e room_1 s m #[Value.ref b] below meth c H locs cells slots (lw_Z below #[Value.ref b] s) (F0 m 1295 ls []) := by
  obtain ⟨hx, hb, hr, hml, hown, hts, hX0, hbl, hlocks, hgv⟩ := id C0
  have zc : zC p s m #[Value.ref b] meth c cL_law 4 RL ret := ⟨hx, hb, hml, hown, fun w hw => hts w (zb_in hw), hr, hlocks⟩
  have hbA : ¬ (fun q : Nat => s.heap.size ≤ q) b := Nat.not_le.mpr hbl
  refine lv_aload_n hx hb dL_law_1295 rfl (lv_at hl 1 rfl) ?_
  refine lv_aload_n hx hb dL_law_1296 rfl (lv_at hl 0 rfl) ?_
  refine lv_iload_n hx hb dL_law_1297 rfl (lv_at hl 3 rfl) ?_
  refine lv_iconst (v := (1 : Int32)) hx hb dL_law_1298 (by decide) ?_
  refine lv_iadd hx hb dL_law_1299 ?_
  refine va_sld hx hb hX0 hbl hbA hS (zidx (k := 1) hi hL rfl (by decide)) dL_law_1300 ?_
  refine lv_aload_n hx hb dL_law_1301 rfl (lv_at hl 0 rfl) ?_
  refine lv_iload_n hx hb dL_law_1302 rfl (lv_at hl 3 rfl) ?_
  refine lv_iconst (v := (2 : Int32)) hx hb dL_law_1303 (by decide) ?_
  refine lv_iadd hx hb dL_law_1304 ?_
  refine va_sld hx hb hX0 hbl hbA hS (zidx (k := 2) hi hL rfl (by decide)) dL_law_1305 ?_
  refine lv_aload_n hx hb dL_law_1306 rfl (lv_at hl 0 rfl) ?_
  refine lv_iload_n hx hb dL_law_1307 rfl (lv_at hl 3 rfl) ?_
  refine lv_iconst (v := (3 : Int32)) hx hb dL_law_1308 (by decide) ?_
  refine lv_iadd hx hb dL_law_1309 ?_
  refine va_sld hx hb hX0 hbl hbA hS (zidx (k := 3) hi hL rfl (by decide)) dL_law_1310 ?_
  refine lv_if_eq (tgt := 1318) hx hb dL_law_1311 (by decide) (fun hc0 => ?_) (fun hc0 => ?_)
  ·
    refine lv_iconst (v := (0 : Int32)) hx hb dL_law_1318 (by decide) ?_
    have hB0 := tB_of hG.2.2.2.1
    have hI0 := tBI_of hG.2.2.1
    refine gx_carry [] hcs C0 hbx hbm hK hO hG hS hl.1 (Nat.le_of_ble_eq_true rfl) kmL_123 dL_law_1319 (fun r1 mi' ko' T' I' H locs cells' slots' hx1 e1 e2 hG1 hS1 => ?_)
    obtain ⟨rfl, rfl, rfl⟩ := hx1
    have hG := hG1
    have hS := hS1
    refine lv_pop hx hb dL_law_1322 rfl ?_
    refine lv_aload_n hx hb dL_law_1323 rfl (lv_at hl 2 rfl) ?_
    refine lv_aload_n hx hb dL_law_1324 rfl (lv_at hl 0 rfl) ?_
    refine lv_iload_n hx hb dL_law_1325 rfl (lv_at hl 3 rfl) ?_
    refine lv_iconst (v := (1 : Int32)) hx hb dL_law_1326 (by decide) ?_
    refine lv_iadd hx hb dL_law_1327 ?_
    refine va_sld hx hb hX0 hbl hbA hS (zidx (k := 1) hi hL rfl (by decide)) dL_law_1328 ?_
    refine lv_aload_n hx hb dL_law_1329 rfl (lv_at hl 0 rfl) ?_
    refine lv_iload_n hx hb dL_law_1330 rfl (lv_at hl 3 rfl) ?_
    refine lv_iconst (v := (2 : Int32)) hx hb dL_law_1331 (by decide) ?_
    refine lv_iadd hx hb dL_law_1332 ?_
    refine va_sld hx hb hX0 hbl hbA hS (zidx (k := 2) hi hL rfl (by decide)) dL_law_1333 ?_
    refine lv_aload_n hx hb dL_law_1334 rfl (lv_at hl 0 rfl) ?_
    refine lv_iload_n hx hb dL_law_1335 rfl (lv_at hl 3 rfl) ?_
    refine lv_iconst (v := (3 : Int32)) hx hb dL_law_1336 (by decide) ?_
    refine lv_iadd hx hb dL_law_1337 ?_
    refine va_sld hx hb hX0 hbl hbA hS (zidx (k := 3) hi hL rfl (by decide)) dL_law_1338 ?_
    refine lv_if_eq (tgt := 1346) hx hb dL_law_1339 (by decide) (fun hc11 => ?_) (fun hc11 => ?_)
    ·
      refine lv_iconst (v := (0 : Int32)) hx hb dL_law_1346 (by decide) ?_
      refine gm_carry [] ⟨Nat.le_trans e1 hcs.1, Nat.le_trans e2 hcs.2⟩ C0 hbx hbm hK hO hG hS hl.1 (Nat.le_of_ble_eq_true rfl) kmL_126 dL_law_1347 (fun r2 M' H locs hm1 hG2 hS2 => ?_)
      obtain rfl := hm1
      have hG := hG2
      have hS := hS2
      refine lv_pop hx hb dL_law_1350 rfl ?_
      refine lv_goto (tgt := 1647) hx hb dL_law_1351 (by decide) ?_
      exact kk _ _ _ _ _ _ _ _ _ e1 e2 hR hG hS
    ·
      refine lv_iconst (v := (1 : Int32)) hx hb dL_law_1342 (by decide) ?_
      refine lv_goto (tgt := 1347) hx hb dL_law_1343 (by decide) ?_
      refine gm_carry [] ⟨Nat.le_trans e1 hcs.1, Nat.le_trans e2 hcs.2⟩ C0 hbx hbm hK hO hG hS hl.1 (Nat.le_of_ble_eq_true rfl) kmL_126 dL_law_1347 (fun r2 M' H locs hm1 hG2 hS2 => ?_)
      obtain rfl := hm1
      have hG := hG2
      have hS := hS2
      refine lv_pop hx hb dL_law_1350 rfl ?_
      refine lv_goto (tgt := 1647) hx hb dL_law_1351 (by decide) ?_
      exact kk _ _ _ _ _ _ _ _ _ e1 e2 hR hG hS
  ·
    refine lv_iconst (v := (1 : Int32)) hx hb dL_law_1314 (by decide) ?_
    refine lv_goto (tgt := 1319) hx hb dL_law_1315 (by decide) ?_
    have hB0 := tB_of hG.2.2.2.1
    have hI0 := tBI_of hG.2.2.1
    refine gx_carry [] hcs C0 hbx hbm hK hO hG hS hl.1 (Nat.le_of_ble_eq_true rfl) kmL_123 dL_law_1319 (fun r1 mi' ko' T' I' H locs cells' slots' hx1 e1 e2 hG1 hS1 => ?_)
    obtain ⟨rfl, rfl, rfl⟩ := hx1
    have hG := hG1
    have hS := hS1
    refine lv_pop hx hb dL_law_1322 rfl ?_
    refine lv_aload_n hx hb dL_law_1323 rfl (lv_at hl 2 rfl) ?_
    refine lv_aload_n hx hb dL_law_1324 rfl (lv_at hl 0 rfl) ?_
    refine lv_iload_n hx hb dL_law_1325 rfl (lv_at hl 3 rfl) ?_
    refine lv_iconst (v := (1 : Int32)) hx hb dL_law_1326 (by decide) ?_
    refine lv_iadd hx hb dL_law_1327 ?_
    refine va_sld hx hb hX0 hbl hbA hS (zidx (k := 1) hi hL rfl (by decide)) dL_law_1328 ?_
    refine lv_aload_n hx hb dL_law_1329 rfl (lv_at hl 0 rfl) ?_
    refine lv_iload_n hx hb dL_law_1330 rfl (lv_at hl 3 rfl) ?_
    refine lv_iconst (v := (2 : Int32)) hx hb dL_law_1331 (by decide) ?_
    refine lv_iadd hx hb dL_law_1332 ?_
    refine va_sld hx hb hX0 hbl hbA hS (zidx (k := 2) hi hL rfl (by decide)) dL_law_1333 ?_
    refine lv_aload_n hx hb dL_law_1334 rfl (lv_at hl 0 rfl) ?_
    refine lv_iload_n hx hb dL_law_1335 rfl (lv_at hl 3 rfl) ?_
    refine lv_iconst (v := (3 : Int32)) hx hb dL_law_1336 (by decide) ?_
    refine lv_iadd hx hb dL_law_1337 ?_
    refine va_sld hx hb hX0 hbl hbA hS (zidx (k := 3) hi hL rfl (by decide)) dL_law_1338 ?_
    refine lv_if_eq (tgt := 1346) hx hb dL_law_1339 (by decide) (fun hc11 => ?_) (fun hc11 => ?_)
    ·
      refine lv_iconst (v := (0 : Int32)) hx hb dL_law_1346 (by decide) ?_
      refine gm_carry [] ⟨Nat.le_trans e1 hcs.1, Nat.le_trans e2 hcs.2⟩ C0 hbx hbm hK hO hG hS hl.1 (Nat.le_of_ble_eq_true rfl) kmL_126 dL_law_1347 (fun r2 M' H locs hm1 hG2 hS2 => ?_)
      obtain rfl := hm1
      have hG := hG2
      have hS := hS2
      refine lv_pop hx hb dL_law_1350 rfl ?_
      refine lv_goto (tgt := 1647) hx hb dL_law_1351 (by decide) ?_
      exact kk _ _ _ _ _ _ _ _ _ e1 e2 hR hG hS
    ·
      refine lv_iconst (v := (1 : Int32)) hx hb dL_law_1342 (by decide) ?_
      refine lv_goto (tgt := 1347) hx hb dL_law_1343 (by decide) ?_
      refine gm_carry [] ⟨Nat.le_trans e1 hcs.1, Nat.le_trans e2 hcs.2⟩ C0 hbx hbm hK hO hG hS hl.1 (Nat.le_of_ble_eq_true rfl) kmL_126 dL_law_1347 (fun r2 M' H locs hm1 hG2 hS2 => ?_)
      obtain rfl := hm1
      have hG := hG2
      have hS := hS2
      refine lv_pop hx hb dL_law_1350 rfl ?_
      refine lv_goto (tgt := 1647) hx hb dL_law_1351 (by decide) ?_
      exact kk _ _ _ _ _ _ _ _ _ e1 e2 hR hG hS

set_option maxRecDepth 40000 in
set_option maxHeartbeats 4000000 in
theorem g_26 {p : Program} {l : Launch} {e : Env} {s : State} {m : MethodId} {below : List Frame} {meth : Method} {c : Code} {E : zE} {G : zG} {b L i bx bm cells slots : Nat} {xs : Nat → Int32} {mi : Nat → Option Nat} {ko : Option Nat} {T : TT} {M : Nat → Nat → Int32} {I : Nat → TT} {H : Heap} {locs : List Loc} {ls : Array Slot} (hi : i + 6 ≤ L) (hL : L ≤ 3072) (hR : RG T M I mi) (hcs : cells + 47 ≤ room_1.cells ∧ slots + 4608 ≤ room_1.slots) (C0 : lw_At p s m meth c b L xs) (hbx : s.heap.size ≤ bx) (hbm : bx + 93 ≤ bm) (hK : zK E s) (hO : zO s ∧ zZ G (fun q => s.heap.size ≤ q) s s.heap) (hG : GG E bx bm mi ko T M I H) (hS : va_S (fun q => s.heap.size ≤ q) s.heap H locs) (hl : lv_has ls 4 [(0, .ref b), (1, .ref bx), (2, .ref bm), (3, .int (nI i))])
    (kk : ∀ (mi : Nat → Option Nat) (ko : Option Nat) (T : TT) (M : Nat → Nat → Int32) (I : Nat → TT) (H : Heap) (locs : List Loc) (cells' slots' : Nat), cells' ≤ cells + 47 → slots' ≤ slots + 4608 → RG T M I mi → GG E bx bm mi ko T M I H → va_S (fun q => s.heap.size ≤ q) s.heap H locs → W p l e room_1 s m #[Value.ref b] below meth c H locs cells' slots' (lw_Z below #[Value.ref b] s) (F0 m 1647 ls [])) : W p l e room_1 s m #[Value.ref b] below meth c H locs cells slots (lw_Z below #[Value.ref b] s) (F0 m 1354 ls []) := by
  obtain ⟨hx, hb, hr, hml, hown, hts, hX0, hbl, hlocks, hgv⟩ := id C0
  have zc : zC p s m #[Value.ref b] meth c cL_law 4 RL ret := ⟨hx, hb, hml, hown, fun w hw => hts w (zb_in hw), hr, hlocks⟩
  have hbA : ¬ (fun q : Nat => s.heap.size ≤ q) b := Nat.not_le.mpr hbl
  refine lv_aload_n hx hb dL_law_1354 rfl (lv_at hl 1 rfl) ?_
  refine lv_aload_n hx hb dL_law_1355 rfl (lv_at hl 0 rfl) ?_
  refine lv_iload_n hx hb dL_law_1356 rfl (lv_at hl 3 rfl) ?_
  refine lv_iconst (v := (1 : Int32)) hx hb dL_law_1357 (by decide) ?_
  refine lv_iadd hx hb dL_law_1358 ?_
  refine va_sld hx hb hX0 hbl hbA hS (zidx (k := 1) hi hL rfl (by decide)) dL_law_1359 ?_
  refine lv_aload_n hx hb dL_law_1360 rfl (lv_at hl 0 rfl) ?_
  refine lv_iload_n hx hb dL_law_1361 rfl (lv_at hl 3 rfl) ?_
  refine lv_iconst (v := (2 : Int32)) hx hb dL_law_1362 (by decide) ?_
  refine lv_iadd hx hb dL_law_1363 ?_
  refine va_sld hx hb hX0 hbl hbA hS (zidx (k := 2) hi hL rfl (by decide)) dL_law_1364 ?_
  refine lv_aload_n hx hb dL_law_1365 rfl (lv_at hl 0 rfl) ?_
  refine lv_iload_n hx hb dL_law_1366 rfl (lv_at hl 3 rfl) ?_
  refine lv_iconst (v := (3 : Int32)) hx hb dL_law_1367 (by decide) ?_
  refine lv_iadd hx hb dL_law_1368 ?_
  refine va_sld hx hb hX0 hbl hbA hS (zidx (k := 3) hi hL rfl (by decide)) dL_law_1369 ?_
  refine lv_aload_n hx hb dL_law_1370 rfl (lv_at hl 0 rfl) ?_
  refine lv_iload_n hx hb dL_law_1371 rfl (lv_at hl 3 rfl) ?_
  refine lv_iconst (v := (4 : Int32)) hx hb dL_law_1372 (by decide) ?_
  refine lv_iadd hx hb dL_law_1373 ?_
  refine va_sld hx hb hX0 hbl hbA hS (zidx (k := 4) hi hL rfl (by decide)) dL_law_1374 ?_
  refine lv_if_eq (tgt := 1382) hx hb dL_law_1375 (by decide) (fun hc0 => ?_) (fun hc0 => ?_)
  ·
    refine lv_iconst (v := (0 : Int32)) hx hb dL_law_1382 (by decide) ?_
    have hB0 := tB_of hG.2.2.2.1
    have hI0 := tBI_of hG.2.2.1
    refine gx_join [] hcs C0 hbx hbm hK hO hG hS hl.1 (Nat.le_of_ble_eq_true rfl) kmL_127 dL_law_1383 (fun r1 mi' ko' T' I' H locs cells' slots' hx1 e1 e2 hG1 hS1 => ?_)
    obtain ⟨rfl, rfl, rfl⟩ := hx1
    have hG := hG1
    have hS := hS1
    refine lv_pop hx hb dL_law_1386 rfl ?_
    refine lv_aload_n hx hb dL_law_1387 rfl (lv_at hl 2 rfl) ?_
    refine lv_aload_n hx hb dL_law_1388 rfl (lv_at hl 0 rfl) ?_
    refine lv_iload_n hx hb dL_law_1389 rfl (lv_at hl 3 rfl) ?_
    refine lv_iconst (v := (1 : Int32)) hx hb dL_law_1390 (by decide) ?_
    refine lv_iadd hx hb dL_law_1391 ?_
    refine va_sld hx hb hX0 hbl hbA hS (zidx (k := 1) hi hL rfl (by decide)) dL_law_1392 ?_
    refine lv_aload_n hx hb dL_law_1393 rfl (lv_at hl 0 rfl) ?_
    refine lv_iload_n hx hb dL_law_1394 rfl (lv_at hl 3 rfl) ?_
    refine lv_iconst (v := (2 : Int32)) hx hb dL_law_1395 (by decide) ?_
    refine lv_iadd hx hb dL_law_1396 ?_
    refine va_sld hx hb hX0 hbl hbA hS (zidx (k := 2) hi hL rfl (by decide)) dL_law_1397 ?_
    refine lv_aload_n hx hb dL_law_1398 rfl (lv_at hl 0 rfl) ?_
    refine lv_iload_n hx hb dL_law_1399 rfl (lv_at hl 3 rfl) ?_
    refine lv_iconst (v := (3 : Int32)) hx hb dL_law_1400 (by decide) ?_
    refine lv_iadd hx hb dL_law_1401 ?_
    refine va_sld hx hb hX0 hbl hbA hS (zidx (k := 3) hi hL rfl (by decide)) dL_law_1402 ?_
    refine lv_aload_n hx hb dL_law_1403 rfl (lv_at hl 0 rfl) ?_
    refine lv_iload_n hx hb dL_law_1404 rfl (lv_at hl 3 rfl) ?_
    refine lv_iconst (v := (4 : Int32)) hx hb dL_law_1405 (by decide) ?_
    refine lv_iadd hx hb dL_law_1406 ?_
    refine va_sld hx hb hX0 hbl hbA hS (zidx (k := 4) hi hL rfl (by decide)) dL_law_1407 ?_
    refine lv_if_eq (tgt := 1415) hx hb dL_law_1408 (by decide) (fun hc11 => ?_) (fun hc11 => ?_)
    ·
      refine lv_iconst (v := (0 : Int32)) hx hb dL_law_1415 (by decide) ?_
      refine gm_join [] ⟨Nat.le_trans e1 hcs.1, Nat.le_trans e2 hcs.2⟩ C0 hbx hbm hK hO hG hS hl.1 (Nat.le_of_ble_eq_true rfl) kmL_130 dL_law_1416 (fun r2 M' H locs hm1 hG2 hS2 => ?_)
      obtain rfl := hm1
      have hG := hG2
      have hS := hS2
      refine lv_pop hx hb dL_law_1419 rfl ?_
      refine lv_goto (tgt := 1647) hx hb dL_law_1420 (by decide) ?_
      exact kk _ _ _ _ _ _ _ _ _ e1 e2 hR hG hS
    ·
      refine lv_iconst (v := (1 : Int32)) hx hb dL_law_1411 (by decide) ?_
      refine lv_goto (tgt := 1416) hx hb dL_law_1412 (by decide) ?_
      refine gm_join [] ⟨Nat.le_trans e1 hcs.1, Nat.le_trans e2 hcs.2⟩ C0 hbx hbm hK hO hG hS hl.1 (Nat.le_of_ble_eq_true rfl) kmL_130 dL_law_1416 (fun r2 M' H locs hm1 hG2 hS2 => ?_)
      obtain rfl := hm1
      have hG := hG2
      have hS := hS2
      refine lv_pop hx hb dL_law_1419 rfl ?_
      refine lv_goto (tgt := 1647) hx hb dL_law_1420 (by decide) ?_
      exact kk _ _ _ _ _ _ _ _ _ e1 e2 hR hG hS
  ·
    refine lv_iconst (v := (1 : Int32)) hx hb dL_law_1378 (by decide) ?_
    refine lv_goto (tgt := 1383) hx hb dL_law_1379 (by decide) ?_
    have hB0 := tB_of hG.2.2.2.1
    have hI0 := tBI_of hG.2.2.1
    refine gx_join [] hcs C0 hbx hbm hK hO hG hS hl.1 (Nat.le_of_ble_eq_true rfl) kmL_127 dL_law_1383 (fun r1 mi' ko' T' I' H locs cells' slots' hx1 e1 e2 hG1 hS1 => ?_)
    obtain ⟨rfl, rfl, rfl⟩ := hx1
    have hG := hG1
    have hS := hS1
    refine lv_pop hx hb dL_law_1386 rfl ?_
    refine lv_aload_n hx hb dL_law_1387 rfl (lv_at hl 2 rfl) ?_
    refine lv_aload_n hx hb dL_law_1388 rfl (lv_at hl 0 rfl) ?_
    refine lv_iload_n hx hb dL_law_1389 rfl (lv_at hl 3 rfl) ?_
    refine lv_iconst (v := (1 : Int32)) hx hb dL_law_1390 (by decide) ?_
    refine lv_iadd hx hb dL_law_1391 ?_
    refine va_sld hx hb hX0 hbl hbA hS (zidx (k := 1) hi hL rfl (by decide)) dL_law_1392 ?_
    refine lv_aload_n hx hb dL_law_1393 rfl (lv_at hl 0 rfl) ?_
    refine lv_iload_n hx hb dL_law_1394 rfl (lv_at hl 3 rfl) ?_
    refine lv_iconst (v := (2 : Int32)) hx hb dL_law_1395 (by decide) ?_
    refine lv_iadd hx hb dL_law_1396 ?_
    refine va_sld hx hb hX0 hbl hbA hS (zidx (k := 2) hi hL rfl (by decide)) dL_law_1397 ?_
    refine lv_aload_n hx hb dL_law_1398 rfl (lv_at hl 0 rfl) ?_
    refine lv_iload_n hx hb dL_law_1399 rfl (lv_at hl 3 rfl) ?_
    refine lv_iconst (v := (3 : Int32)) hx hb dL_law_1400 (by decide) ?_
    refine lv_iadd hx hb dL_law_1401 ?_
    refine va_sld hx hb hX0 hbl hbA hS (zidx (k := 3) hi hL rfl (by decide)) dL_law_1402 ?_
    refine lv_aload_n hx hb dL_law_1403 rfl (lv_at hl 0 rfl) ?_
    refine lv_iload_n hx hb dL_law_1404 rfl (lv_at hl 3 rfl) ?_
    refine lv_iconst (v := (4 : Int32)) hx hb dL_law_1405 (by decide) ?_
    refine lv_iadd hx hb dL_law_1406 ?_
    refine va_sld hx hb hX0 hbl hbA hS (zidx (k := 4) hi hL rfl (by decide)) dL_law_1407 ?_
    refine lv_if_eq (tgt := 1415) hx hb dL_law_1408 (by decide) (fun hc11 => ?_) (fun hc11 => ?_)
    ·
      refine lv_iconst (v := (0 : Int32)) hx hb dL_law_1415 (by decide) ?_
      refine gm_join [] ⟨Nat.le_trans e1 hcs.1, Nat.le_trans e2 hcs.2⟩ C0 hbx hbm hK hO hG hS hl.1 (Nat.le_of_ble_eq_true rfl) kmL_130 dL_law_1416 (fun r2 M' H locs hm1 hG2 hS2 => ?_)
      obtain rfl := hm1
      have hG := hG2
      have hS := hS2
      refine lv_pop hx hb dL_law_1419 rfl ?_
      refine lv_goto (tgt := 1647) hx hb dL_law_1420 (by decide) ?_
      exact kk _ _ _ _ _ _ _ _ _ e1 e2 hR hG hS
    ·
      refine lv_iconst (v := (1 : Int32)) hx hb dL_law_1411 (by decide) ?_
      refine lv_goto (tgt := 1416) hx hb dL_law_1412 (by decide) ?_
      refine gm_join [] ⟨Nat.le_trans e1 hcs.1, Nat.le_trans e2 hcs.2⟩ C0 hbx hbm hK hO hG hS hl.1 (Nat.le_of_ble_eq_true rfl) kmL_130 dL_law_1416 (fun r2 M' H locs hm1 hG2 hS2 => ?_)
      obtain rfl := hm1
      have hG := hG2
      have hS := hS2
      refine lv_pop hx hb dL_law_1419 rfl ?_
      refine lv_goto (tgt := 1647) hx hb dL_law_1420 (by decide) ?_
      exact kk _ _ _ _ _ _ _ _ _ e1 e2 hR hG hS

set_option maxRecDepth 40000 in
set_option maxHeartbeats 4000000 in
theorem g_27 {p : Program} {l : Launch} {e : Env} {s : State} {m : MethodId} {below : List Frame} {meth : Method} {c : Code} {E : zE} {G : zG} {b L i bx bm cells slots : Nat} {xs : Nat → Int32} {mi : Nat → Option Nat} {ko : Option Nat} {T : TT} {M : Nat → Nat → Int32} {I : Nat → TT} {H : Heap} {locs : List Loc} {ls : Array Slot} (hi : i + 6 ≤ L) (hL : L ≤ 3072) (hR : RG T M I mi) (hcs : cells + 47 ≤ room_1.cells ∧ slots + 4608 ≤ room_1.slots) (C0 : lw_At p s m meth c b L xs) (hbx : s.heap.size ≤ bx) (hbm : bx + 93 ≤ bm) (hK : zK E s) (hO : zO s ∧ zZ G (fun q => s.heap.size ≤ q) s s.heap) (hG : GG E bx bm mi ko T M I H) (hS : va_S (fun q => s.heap.size ≤ q) s.heap H locs) (hl : lv_has ls 4 [(0, .ref b), (1, .ref bx), (2, .ref bm), (3, .int (nI i))])
    (kk : ∀ (mi : Nat → Option Nat) (ko : Option Nat) (T : TT) (M : Nat → Nat → Int32) (I : Nat → TT) (H : Heap) (locs : List Loc) (cells' slots' : Nat), cells' ≤ cells + 47 → slots' ≤ slots + 4608 → RG T M I mi → GG E bx bm mi ko T M I H → va_S (fun q => s.heap.size ≤ q) s.heap H locs → W p l e room_1 s m #[Value.ref b] below meth c H locs cells' slots' (lw_Z below #[Value.ref b] s) (F0 m 1647 ls [])) : W p l e room_1 s m #[Value.ref b] below meth c H locs cells slots (lw_Z below #[Value.ref b] s) (F0 m 1423 ls []) := by
  obtain ⟨hx, hb, hr, hml, hown, hts, hX0, hbl, hlocks, hgv⟩ := id C0
  have zc : zC p s m #[Value.ref b] meth c cL_law 4 RL ret := ⟨hx, hb, hml, hown, fun w hw => hts w (zb_in hw), hr, hlocks⟩
  have hbA : ¬ (fun q : Nat => s.heap.size ≤ q) b := Nat.not_le.mpr hbl
  refine lv_aload_n hx hb dL_law_1423 rfl (lv_at hl 1 rfl) ?_
  refine lv_aload_n hx hb dL_law_1424 rfl (lv_at hl 0 rfl) ?_
  refine lv_iload_n hx hb dL_law_1425 rfl (lv_at hl 3 rfl) ?_
  refine lv_iconst (v := (1 : Int32)) hx hb dL_law_1426 (by decide) ?_
  refine lv_iadd hx hb dL_law_1427 ?_
  refine va_sld hx hb hX0 hbl hbA hS (zidx (k := 1) hi hL rfl (by decide)) dL_law_1428 ?_
  refine lv_aload_n hx hb dL_law_1429 rfl (lv_at hl 0 rfl) ?_
  refine lv_iload_n hx hb dL_law_1430 rfl (lv_at hl 3 rfl) ?_
  refine lv_iconst (v := (2 : Int32)) hx hb dL_law_1431 (by decide) ?_
  refine lv_iadd hx hb dL_law_1432 ?_
  refine va_sld hx hb hX0 hbl hbA hS (zidx (k := 2) hi hL rfl (by decide)) dL_law_1433 ?_
  have hB0 := tB_of hG.2.2.2.1
  have hI0 := tBI_of hG.2.2.1
  refine gx_slopes [] hcs C0 hbx hbm hK hO hG hS hl.1 (Nat.le_of_ble_eq_true rfl) kmL_131 dL_law_1434 (fun r1 mi' ko' T' I' H locs cells' slots' hx1 e1 e2 hG1 hS1 => ?_)
  obtain ⟨rfl, rfl, rfl⟩ := hx1
  have hG := hG1
  have hS := hS1
  refine lv_pop hx hb dL_law_1437 rfl ?_
  refine lv_aload_n hx hb dL_law_1438 rfl (lv_at hl 2 rfl) ?_
  refine lv_aload_n hx hb dL_law_1439 rfl (lv_at hl 0 rfl) ?_
  refine lv_iload_n hx hb dL_law_1440 rfl (lv_at hl 3 rfl) ?_
  refine lv_iconst (v := (1 : Int32)) hx hb dL_law_1441 (by decide) ?_
  refine lv_iadd hx hb dL_law_1442 ?_
  refine va_sld hx hb hX0 hbl hbA hS (zidx (k := 1) hi hL rfl (by decide)) dL_law_1443 ?_
  refine lv_aload_n hx hb dL_law_1444 rfl (lv_at hl 0 rfl) ?_
  refine lv_iload_n hx hb dL_law_1445 rfl (lv_at hl 3 rfl) ?_
  refine lv_iconst (v := (2 : Int32)) hx hb dL_law_1446 (by decide) ?_
  refine lv_iadd hx hb dL_law_1447 ?_
  refine va_sld hx hb hX0 hbl hbA hS (zidx (k := 2) hi hL rfl (by decide)) dL_law_1448 ?_
  refine gm_slopes [] ⟨Nat.le_trans e1 hcs.1, Nat.le_trans e2 hcs.2⟩ C0 hbx hbm hK hO hG hS hl.1 (Nat.le_of_ble_eq_true rfl) kmL_134 dL_law_1449 (fun r2 M' H locs hm1 hG2 hS2 => ?_)
  obtain rfl := hm1
  have hG := hG2
  have hS := hS2
  refine lv_pop hx hb dL_law_1452 rfl ?_
  refine lv_goto (tgt := 1647) hx hb dL_law_1453 (by decide) ?_
  exact kk _ _ _ _ _ _ _ _ _ e1 e2 hR hG hS

set_option maxRecDepth 40000 in
set_option maxHeartbeats 4000000 in
theorem g_28 {p : Program} {l : Launch} {e : Env} {s : State} {m : MethodId} {below : List Frame} {meth : Method} {c : Code} {E : zE} {G : zG} {b L i bx bm cells slots : Nat} {xs : Nat → Int32} {mi : Nat → Option Nat} {ko : Option Nat} {T : TT} {M : Nat → Nat → Int32} {I : Nat → TT} {H : Heap} {locs : List Loc} {ls : Array Slot} (hi : i + 6 ≤ L) (hL : L ≤ 3072) (hR : RG T M I mi) (hcs : cells + 47 ≤ room_1.cells ∧ slots + 4608 ≤ room_1.slots) (C0 : lw_At p s m meth c b L xs) (hbx : s.heap.size ≤ bx) (hbm : bx + 93 ≤ bm) (hK : zK E s) (hO : zO s ∧ zZ G (fun q => s.heap.size ≤ q) s s.heap) (hG : GG E bx bm mi ko T M I H) (hS : va_S (fun q => s.heap.size ≤ q) s.heap H locs) (hl : lv_has ls 4 [(0, .ref b), (1, .ref bx), (2, .ref bm), (3, .int (nI i))])
    (kk : ∀ (mi : Nat → Option Nat) (ko : Option Nat) (T : TT) (M : Nat → Nat → Int32) (I : Nat → TT) (H : Heap) (locs : List Loc) (cells' slots' : Nat), cells' ≤ cells + 47 → slots' ≤ slots + 4608 → RG T M I mi → GG E bx bm mi ko T M I H → va_S (fun q => s.heap.size ≤ q) s.heap H locs → W p l e room_1 s m #[Value.ref b] below meth c H locs cells' slots' (lw_Z below #[Value.ref b] s) (F0 m 1647 ls [])) : W p l e room_1 s m #[Value.ref b] below meth c H locs cells slots (lw_Z below #[Value.ref b] s) (F0 m 1456 ls []) := by
  obtain ⟨hx, hb, hr, hml, hown, hts, hX0, hbl, hlocks, hgv⟩ := id C0
  have zc : zC p s m #[Value.ref b] meth c cL_law 4 RL ret := ⟨hx, hb, hml, hown, fun w hw => hts w (zb_in hw), hr, hlocks⟩
  have hbA : ¬ (fun q : Nat => s.heap.size ≤ q) b := Nat.not_le.mpr hbl
  refine lv_aload_n hx hb dL_law_1456 rfl (lv_at hl 1 rfl) ?_
  refine lv_aload_n hx hb dL_law_1457 rfl (lv_at hl 0 rfl) ?_
  refine lv_iload_n hx hb dL_law_1458 rfl (lv_at hl 3 rfl) ?_
  refine lv_iconst (v := (1 : Int32)) hx hb dL_law_1459 (by decide) ?_
  refine lv_iadd hx hb dL_law_1460 ?_
  refine va_sld hx hb hX0 hbl hbA hS (zidx (k := 1) hi hL rfl (by decide)) dL_law_1461 ?_
  refine lv_aload_n hx hb dL_law_1462 rfl (lv_at hl 0 rfl) ?_
  refine lv_iload_n hx hb dL_law_1463 rfl (lv_at hl 3 rfl) ?_
  refine lv_iconst (v := (2 : Int32)) hx hb dL_law_1464 (by decide) ?_
  refine lv_iadd hx hb dL_law_1465 ?_
  refine va_sld hx hb hX0 hbl hbA hS (zidx (k := 2) hi hL rfl (by decide)) dL_law_1466 ?_
  refine lv_aload_n hx hb dL_law_1467 rfl (lv_at hl 0 rfl) ?_
  refine lv_iload_n hx hb dL_law_1468 rfl (lv_at hl 3 rfl) ?_
  refine lv_iconst (v := (3 : Int32)) hx hb dL_law_1469 (by decide) ?_
  refine lv_iadd hx hb dL_law_1470 ?_
  refine va_sld hx hb hX0 hbl hbA hS (zidx (k := 3) hi hL rfl (by decide)) dL_law_1471 ?_
  refine lv_aload_n hx hb dL_law_1472 rfl (lv_at hl 0 rfl) ?_
  refine lv_iload_n hx hb dL_law_1473 rfl (lv_at hl 3 rfl) ?_
  refine lv_iconst (v := (4 : Int32)) hx hb dL_law_1474 (by decide) ?_
  refine lv_iadd hx hb dL_law_1475 ?_
  refine va_sld hx hb hX0 hbl hbA hS (zidx (k := 4) hi hL rfl (by decide)) dL_law_1476 ?_
  refine lv_if_eq (tgt := 1484) hx hb dL_law_1477 (by decide) (fun hc0 => ?_) (fun hc0 => ?_)
  ·
    refine lv_iconst (v := (0 : Int32)) hx hb dL_law_1484 (by decide) ?_
    have hB0 := tB_of hG.2.2.2.1
    have hI0 := tBI_of hG.2.2.1
    refine gx_flood [] hcs C0 hbx hbm hK hO hG hS hl.1 (Nat.le_of_ble_eq_true rfl) kmL_135 dL_law_1485 (fun r1 mi' ko' T' I' H locs cells' slots' hx1 e1 e2 hG1 hS1 => ?_)
    obtain ⟨rfl, rfl, rfl⟩ := hx1
    have hG := hG1
    have hS := hS1
    refine lv_pop hx hb dL_law_1488 rfl ?_
    refine lv_aload_n hx hb dL_law_1489 rfl (lv_at hl 2 rfl) ?_
    refine lv_aload_n hx hb dL_law_1490 rfl (lv_at hl 0 rfl) ?_
    refine lv_iload_n hx hb dL_law_1491 rfl (lv_at hl 3 rfl) ?_
    refine lv_iconst (v := (1 : Int32)) hx hb dL_law_1492 (by decide) ?_
    refine lv_iadd hx hb dL_law_1493 ?_
    refine va_sld hx hb hX0 hbl hbA hS (zidx (k := 1) hi hL rfl (by decide)) dL_law_1494 ?_
    refine lv_aload_n hx hb dL_law_1495 rfl (lv_at hl 0 rfl) ?_
    refine lv_iload_n hx hb dL_law_1496 rfl (lv_at hl 3 rfl) ?_
    refine lv_iconst (v := (2 : Int32)) hx hb dL_law_1497 (by decide) ?_
    refine lv_iadd hx hb dL_law_1498 ?_
    refine va_sld hx hb hX0 hbl hbA hS (zidx (k := 2) hi hL rfl (by decide)) dL_law_1499 ?_
    refine lv_aload_n hx hb dL_law_1500 rfl (lv_at hl 0 rfl) ?_
    refine lv_iload_n hx hb dL_law_1501 rfl (lv_at hl 3 rfl) ?_
    refine lv_iconst (v := (3 : Int32)) hx hb dL_law_1502 (by decide) ?_
    refine lv_iadd hx hb dL_law_1503 ?_
    refine va_sld hx hb hX0 hbl hbA hS (zidx (k := 3) hi hL rfl (by decide)) dL_law_1504 ?_
    refine lv_aload_n hx hb dL_law_1505 rfl (lv_at hl 0 rfl) ?_
    refine lv_iload_n hx hb dL_law_1506 rfl (lv_at hl 3 rfl) ?_
    refine lv_iconst (v := (4 : Int32)) hx hb dL_law_1507 (by decide) ?_
    refine lv_iadd hx hb dL_law_1508 ?_
    refine va_sld hx hb hX0 hbl hbA hS (zidx (k := 4) hi hL rfl (by decide)) dL_law_1509 ?_
    refine lv_if_eq (tgt := 1517) hx hb dL_law_1510 (by decide) (fun hc11 => ?_) (fun hc11 => ?_)
    ·
      refine lv_iconst (v := (0 : Int32)) hx hb dL_law_1517 (by decide) ?_
      refine gm_flood [] ⟨Nat.le_trans e1 hcs.1, Nat.le_trans e2 hcs.2⟩ C0 hbx hbm hK hO hG hS hl.1 (Nat.le_of_ble_eq_true rfl) kmL_138 dL_law_1518 (fun r2 M' H locs hm1 hG2 hS2 => ?_)
      obtain rfl := hm1
      have hG := hG2
      have hS := hS2
      refine lv_pop hx hb dL_law_1521 rfl ?_
      refine lv_goto (tgt := 1647) hx hb dL_law_1522 (by decide) ?_
      exact kk _ _ _ _ _ _ _ _ _ e1 e2 hR hG hS
    ·
      refine lv_iconst (v := (1 : Int32)) hx hb dL_law_1513 (by decide) ?_
      refine lv_goto (tgt := 1518) hx hb dL_law_1514 (by decide) ?_
      refine gm_flood [] ⟨Nat.le_trans e1 hcs.1, Nat.le_trans e2 hcs.2⟩ C0 hbx hbm hK hO hG hS hl.1 (Nat.le_of_ble_eq_true rfl) kmL_138 dL_law_1518 (fun r2 M' H locs hm1 hG2 hS2 => ?_)
      obtain rfl := hm1
      have hG := hG2
      have hS := hS2
      refine lv_pop hx hb dL_law_1521 rfl ?_
      refine lv_goto (tgt := 1647) hx hb dL_law_1522 (by decide) ?_
      exact kk _ _ _ _ _ _ _ _ _ e1 e2 hR hG hS
  ·
    refine lv_iconst (v := (1 : Int32)) hx hb dL_law_1480 (by decide) ?_
    refine lv_goto (tgt := 1485) hx hb dL_law_1481 (by decide) ?_
    have hB0 := tB_of hG.2.2.2.1
    have hI0 := tBI_of hG.2.2.1
    refine gx_flood [] hcs C0 hbx hbm hK hO hG hS hl.1 (Nat.le_of_ble_eq_true rfl) kmL_135 dL_law_1485 (fun r1 mi' ko' T' I' H locs cells' slots' hx1 e1 e2 hG1 hS1 => ?_)
    obtain ⟨rfl, rfl, rfl⟩ := hx1
    have hG := hG1
    have hS := hS1
    refine lv_pop hx hb dL_law_1488 rfl ?_
    refine lv_aload_n hx hb dL_law_1489 rfl (lv_at hl 2 rfl) ?_
    refine lv_aload_n hx hb dL_law_1490 rfl (lv_at hl 0 rfl) ?_
    refine lv_iload_n hx hb dL_law_1491 rfl (lv_at hl 3 rfl) ?_
    refine lv_iconst (v := (1 : Int32)) hx hb dL_law_1492 (by decide) ?_
    refine lv_iadd hx hb dL_law_1493 ?_
    refine va_sld hx hb hX0 hbl hbA hS (zidx (k := 1) hi hL rfl (by decide)) dL_law_1494 ?_
    refine lv_aload_n hx hb dL_law_1495 rfl (lv_at hl 0 rfl) ?_
    refine lv_iload_n hx hb dL_law_1496 rfl (lv_at hl 3 rfl) ?_
    refine lv_iconst (v := (2 : Int32)) hx hb dL_law_1497 (by decide) ?_
    refine lv_iadd hx hb dL_law_1498 ?_
    refine va_sld hx hb hX0 hbl hbA hS (zidx (k := 2) hi hL rfl (by decide)) dL_law_1499 ?_
    refine lv_aload_n hx hb dL_law_1500 rfl (lv_at hl 0 rfl) ?_
    refine lv_iload_n hx hb dL_law_1501 rfl (lv_at hl 3 rfl) ?_
    refine lv_iconst (v := (3 : Int32)) hx hb dL_law_1502 (by decide) ?_
    refine lv_iadd hx hb dL_law_1503 ?_
    refine va_sld hx hb hX0 hbl hbA hS (zidx (k := 3) hi hL rfl (by decide)) dL_law_1504 ?_
    refine lv_aload_n hx hb dL_law_1505 rfl (lv_at hl 0 rfl) ?_
    refine lv_iload_n hx hb dL_law_1506 rfl (lv_at hl 3 rfl) ?_
    refine lv_iconst (v := (4 : Int32)) hx hb dL_law_1507 (by decide) ?_
    refine lv_iadd hx hb dL_law_1508 ?_
    refine va_sld hx hb hX0 hbl hbA hS (zidx (k := 4) hi hL rfl (by decide)) dL_law_1509 ?_
    refine lv_if_eq (tgt := 1517) hx hb dL_law_1510 (by decide) (fun hc11 => ?_) (fun hc11 => ?_)
    ·
      refine lv_iconst (v := (0 : Int32)) hx hb dL_law_1517 (by decide) ?_
      refine gm_flood [] ⟨Nat.le_trans e1 hcs.1, Nat.le_trans e2 hcs.2⟩ C0 hbx hbm hK hO hG hS hl.1 (Nat.le_of_ble_eq_true rfl) kmL_138 dL_law_1518 (fun r2 M' H locs hm1 hG2 hS2 => ?_)
      obtain rfl := hm1
      have hG := hG2
      have hS := hS2
      refine lv_pop hx hb dL_law_1521 rfl ?_
      refine lv_goto (tgt := 1647) hx hb dL_law_1522 (by decide) ?_
      exact kk _ _ _ _ _ _ _ _ _ e1 e2 hR hG hS
    ·
      refine lv_iconst (v := (1 : Int32)) hx hb dL_law_1513 (by decide) ?_
      refine lv_goto (tgt := 1518) hx hb dL_law_1514 (by decide) ?_
      refine gm_flood [] ⟨Nat.le_trans e1 hcs.1, Nat.le_trans e2 hcs.2⟩ C0 hbx hbm hK hO hG hS hl.1 (Nat.le_of_ble_eq_true rfl) kmL_138 dL_law_1518 (fun r2 M' H locs hm1 hG2 hS2 => ?_)
      obtain rfl := hm1
      have hG := hG2
      have hS := hS2
      refine lv_pop hx hb dL_law_1521 rfl ?_
      refine lv_goto (tgt := 1647) hx hb dL_law_1522 (by decide) ?_
      exact kk _ _ _ _ _ _ _ _ _ e1 e2 hR hG hS

set_option maxRecDepth 40000 in
set_option maxHeartbeats 4000000 in
theorem g_29 {p : Program} {l : Launch} {e : Env} {s : State} {m : MethodId} {below : List Frame} {meth : Method} {c : Code} {E : zE} {G : zG} {b L i bx bm cells slots : Nat} {xs : Nat → Int32} {mi : Nat → Option Nat} {ko : Option Nat} {T : TT} {M : Nat → Nat → Int32} {I : Nat → TT} {H : Heap} {locs : List Loc} {ls : Array Slot} (hi : i + 6 ≤ L) (hL : L ≤ 3072) (hR : RG T M I mi) (hcs : cells + 47 ≤ room_1.cells ∧ slots + 4608 ≤ room_1.slots) (C0 : lw_At p s m meth c b L xs) (hbx : s.heap.size ≤ bx) (hbm : bx + 93 ≤ bm) (hK : zK E s) (hO : zO s ∧ zZ G (fun q => s.heap.size ≤ q) s s.heap) (hG : GG E bx bm mi ko T M I H) (hS : va_S (fun q => s.heap.size ≤ q) s.heap H locs) (hl : lv_has ls 4 [(0, .ref b), (1, .ref bx), (2, .ref bm), (3, .int (nI i))])
    (kk : ∀ (mi : Nat → Option Nat) (ko : Option Nat) (T : TT) (M : Nat → Nat → Int32) (I : Nat → TT) (H : Heap) (locs : List Loc) (cells' slots' : Nat), cells' ≤ cells + 47 → slots' ≤ slots + 4608 → RG T M I mi → GG E bx bm mi ko T M I H → va_S (fun q => s.heap.size ≤ q) s.heap H locs → W p l e room_1 s m #[Value.ref b] below meth c H locs cells' slots' (lw_Z below #[Value.ref b] s) (F0 m 1647 ls [])) : W p l e room_1 s m #[Value.ref b] below meth c H locs cells slots (lw_Z below #[Value.ref b] s) (F0 m 1525 ls []) := by
  obtain ⟨hx, hb, hr, hml, hown, hts, hX0, hbl, hlocks, hgv⟩ := id C0
  have zc : zC p s m #[Value.ref b] meth c cL_law 4 RL ret := ⟨hx, hb, hml, hown, fun w hw => hts w (zb_in hw), hr, hlocks⟩
  have hbA : ¬ (fun q : Nat => s.heap.size ≤ q) b := Nat.not_le.mpr hbl
  refine lv_aload_n hx hb dL_law_1525 rfl (lv_at hl 1 rfl) ?_
  refine lv_aload_n hx hb dL_law_1526 rfl (lv_at hl 0 rfl) ?_
  refine lv_iload_n hx hb dL_law_1527 rfl (lv_at hl 3 rfl) ?_
  refine lv_iconst (v := (1 : Int32)) hx hb dL_law_1528 (by decide) ?_
  refine lv_iadd hx hb dL_law_1529 ?_
  refine va_sld hx hb hX0 hbl hbA hS (zidx (k := 1) hi hL rfl (by decide)) dL_law_1530 ?_
  refine lv_aload_n hx hb dL_law_1531 rfl (lv_at hl 0 rfl) ?_
  refine lv_iload_n hx hb dL_law_1532 rfl (lv_at hl 3 rfl) ?_
  refine lv_iconst (v := (2 : Int32)) hx hb dL_law_1533 (by decide) ?_
  refine lv_iadd hx hb dL_law_1534 ?_
  refine va_sld hx hb hX0 hbl hbA hS (zidx (k := 2) hi hL rfl (by decide)) dL_law_1535 ?_
  refine lv_aload_n hx hb dL_law_1536 rfl (lv_at hl 0 rfl) ?_
  refine lv_iload_n hx hb dL_law_1537 rfl (lv_at hl 3 rfl) ?_
  refine lv_iconst (v := (3 : Int32)) hx hb dL_law_1538 (by decide) ?_
  refine lv_iadd hx hb dL_law_1539 ?_
  refine va_sld hx hb hX0 hbl hbA hS (zidx (k := 3) hi hL rfl (by decide)) dL_law_1540 ?_
  refine lv_aload_n hx hb dL_law_1541 rfl (lv_at hl 0 rfl) ?_
  refine lv_iload_n hx hb dL_law_1542 rfl (lv_at hl 3 rfl) ?_
  refine lv_iconst (v := (4 : Int32)) hx hb dL_law_1543 (by decide) ?_
  refine lv_iadd hx hb dL_law_1544 ?_
  refine va_sld hx hb hX0 hbl hbA hS (zidx (k := 4) hi hL rfl (by decide)) dL_law_1545 ?_
  have hB0 := tB_of hG.2.2.2.1
  have hI0 := tBI_of hG.2.2.1
  refine gx_teach [] hcs C0 hbx hbm hK hO hG hS hl.1 (Nat.le_of_ble_eq_true rfl) kmL_139 dL_law_1546 (fun r1 mi' ko' T' I' H locs cells' slots' hx1 e1 e2 hG1 hS1 => ?_)
  obtain ⟨rfl, rfl, rfl⟩ := hx1
  have hG := hG1
  have hS := hS1
  refine lv_pop hx hb dL_law_1549 rfl ?_
  refine lv_aload_n hx hb dL_law_1550 rfl (lv_at hl 2 rfl) ?_
  refine lv_aload_n hx hb dL_law_1551 rfl (lv_at hl 0 rfl) ?_
  refine lv_iload_n hx hb dL_law_1552 rfl (lv_at hl 3 rfl) ?_
  refine lv_iconst (v := (1 : Int32)) hx hb dL_law_1553 (by decide) ?_
  refine lv_iadd hx hb dL_law_1554 ?_
  refine va_sld hx hb hX0 hbl hbA hS (zidx (k := 1) hi hL rfl (by decide)) dL_law_1555 ?_
  refine lv_aload_n hx hb dL_law_1556 rfl (lv_at hl 0 rfl) ?_
  refine lv_iload_n hx hb dL_law_1557 rfl (lv_at hl 3 rfl) ?_
  refine lv_iconst (v := (2 : Int32)) hx hb dL_law_1558 (by decide) ?_
  refine lv_iadd hx hb dL_law_1559 ?_
  refine va_sld hx hb hX0 hbl hbA hS (zidx (k := 2) hi hL rfl (by decide)) dL_law_1560 ?_
  refine lv_aload_n hx hb dL_law_1561 rfl (lv_at hl 0 rfl) ?_
  refine lv_iload_n hx hb dL_law_1562 rfl (lv_at hl 3 rfl) ?_
  refine lv_iconst (v := (3 : Int32)) hx hb dL_law_1563 (by decide) ?_
  refine lv_iadd hx hb dL_law_1564 ?_
  refine va_sld hx hb hX0 hbl hbA hS (zidx (k := 3) hi hL rfl (by decide)) dL_law_1565 ?_
  refine lv_aload_n hx hb dL_law_1566 rfl (lv_at hl 0 rfl) ?_
  refine lv_iload_n hx hb dL_law_1567 rfl (lv_at hl 3 rfl) ?_
  refine lv_iconst (v := (4 : Int32)) hx hb dL_law_1568 (by decide) ?_
  refine lv_iadd hx hb dL_law_1569 ?_
  refine va_sld hx hb hX0 hbl hbA hS (zidx (k := 4) hi hL rfl (by decide)) dL_law_1570 ?_
  refine gm_teach [] ⟨Nat.le_trans e1 hcs.1, Nat.le_trans e2 hcs.2⟩ C0 hbx hbm hK hO hG hS hl.1 (Nat.le_of_ble_eq_true rfl) kmL_142 dL_law_1571 (fun r2 M' H locs hm1 hG2 hS2 => ?_)
  obtain rfl := hm1
  have hG := hG2
  have hS := hS2
  refine lv_pop hx hb dL_law_1574 rfl ?_
  refine lv_goto (tgt := 1647) hx hb dL_law_1575 (by decide) ?_
  exact kk _ _ _ _ _ _ _ _ _ e1 e2 hR hG hS

set_option maxRecDepth 40000 in
set_option maxHeartbeats 4000000 in
theorem g_30 {p : Program} {l : Launch} {e : Env} {s : State} {m : MethodId} {below : List Frame} {meth : Method} {c : Code} {E : zE} {G : zG} {b L i bx bm cells slots : Nat} {xs : Nat → Int32} {mi : Nat → Option Nat} {ko : Option Nat} {T : TT} {M : Nat → Nat → Int32} {I : Nat → TT} {H : Heap} {locs : List Loc} {ls : Array Slot} (hi : i + 6 ≤ L) (hL : L ≤ 3072) (hR : RG T M I mi) (hcs : cells + 47 ≤ room_1.cells ∧ slots + 4608 ≤ room_1.slots) (C0 : lw_At p s m meth c b L xs) (hbx : s.heap.size ≤ bx) (hbm : bx + 93 ≤ bm) (hK : zK E s) (hO : zO s ∧ zZ G (fun q => s.heap.size ≤ q) s s.heap) (hG : GG E bx bm mi ko T M I H) (hS : va_S (fun q => s.heap.size ≤ q) s.heap H locs) (hl : lv_has ls 4 [(0, .ref b), (1, .ref bx), (2, .ref bm), (3, .int (nI i))])
    (kk : ∀ (mi : Nat → Option Nat) (ko : Option Nat) (T : TT) (M : Nat → Nat → Int32) (I : Nat → TT) (H : Heap) (locs : List Loc) (cells' slots' : Nat), cells' ≤ cells + 47 → slots' ≤ slots + 4608 → RG T M I mi → GG E bx bm mi ko T M I H → va_S (fun q => s.heap.size ≤ q) s.heap H locs → W p l e room_1 s m #[Value.ref b] below meth c H locs cells' slots' (lw_Z below #[Value.ref b] s) (F0 m 1647 ls [])) : W p l e room_1 s m #[Value.ref b] below meth c H locs cells slots (lw_Z below #[Value.ref b] s) (F0 m 1578 ls []) := by
  obtain ⟨hx, hb, hr, hml, hown, hts, hX0, hbl, hlocks, hgv⟩ := id C0
  have zc : zC p s m #[Value.ref b] meth c cL_law 4 RL ret := ⟨hx, hb, hml, hown, fun w hw => hts w (zb_in hw), hr, hlocks⟩
  have hbA : ¬ (fun q : Nat => s.heap.size ≤ q) b := Nat.not_le.mpr hbl
  refine lv_aload_n hx hb dL_law_1578 rfl (lv_at hl 1 rfl) ?_
  refine lv_aload_n hx hb dL_law_1579 rfl (lv_at hl 0 rfl) ?_
  refine lv_iload_n hx hb dL_law_1580 rfl (lv_at hl 3 rfl) ?_
  refine lv_iconst (v := (1 : Int32)) hx hb dL_law_1581 (by decide) ?_
  refine lv_iadd hx hb dL_law_1582 ?_
  refine va_sld hx hb hX0 hbl hbA hS (zidx (k := 1) hi hL rfl (by decide)) dL_law_1583 ?_
  have hB0 := tB_of hG.2.2.2.1
  have hI0 := tBI_of hG.2.2.1
  refine gx_count [] hcs C0 hbx hbm hK hO hG hS hl.1 (Nat.le_of_ble_eq_true rfl) kmL_143 dL_law_1584 (fun r1 mi' ko' T' I' H locs cells' slots' hx1 e1 e2 hG1 hS1 => ?_)
  obtain ⟨rfl, rfl, rfl⟩ := hx1
  have hG := hG1
  have hS := hS1
  refine lv_pop hx hb dL_law_1587 rfl ?_
  refine lv_aload_n hx hb dL_law_1588 rfl (lv_at hl 2 rfl) ?_
  refine lv_aload_n hx hb dL_law_1589 rfl (lv_at hl 0 rfl) ?_
  refine lv_iload_n hx hb dL_law_1590 rfl (lv_at hl 3 rfl) ?_
  refine lv_iconst (v := (1 : Int32)) hx hb dL_law_1591 (by decide) ?_
  refine lv_iadd hx hb dL_law_1592 ?_
  refine va_sld hx hb hX0 hbl hbA hS (zidx (k := 1) hi hL rfl (by decide)) dL_law_1593 ?_
  refine gm_count [] ⟨Nat.le_trans e1 hcs.1, Nat.le_trans e2 hcs.2⟩ C0 hbx hbm hK hO hG hS hl.1 (Nat.le_of_ble_eq_true rfl) kmL_146 dL_law_1594 (fun r2 M' H locs hm1 hG2 hS2 => ?_)
  obtain rfl := hm1
  have hG := hG2
  have hS := hS2
  refine lv_pop hx hb dL_law_1597 rfl ?_
  refine lv_goto (tgt := 1647) hx hb dL_law_1598 (by decide) ?_
  exact kk _ _ _ _ _ _ _ _ _ e1 e2 hR hG hS

set_option maxRecDepth 40000 in
set_option maxHeartbeats 4000000 in
theorem g_31 {p : Program} {l : Launch} {e : Env} {s : State} {m : MethodId} {below : List Frame} {meth : Method} {c : Code} {E : zE} {G : zG} {b L i bx bm cells slots : Nat} {xs : Nat → Int32} {mi : Nat → Option Nat} {ko : Option Nat} {T : TT} {M : Nat → Nat → Int32} {I : Nat → TT} {H : Heap} {locs : List Loc} {ls : Array Slot} (hi : i + 6 ≤ L) (hL : L ≤ 3072) (hR : RG T M I mi) (hcs : cells + 47 ≤ room_1.cells ∧ slots + 4608 ≤ room_1.slots) (C0 : lw_At p s m meth c b L xs) (hbx : s.heap.size ≤ bx) (hbm : bx + 93 ≤ bm) (hK : zK E s) (hO : zO s ∧ zZ G (fun q => s.heap.size ≤ q) s s.heap) (hG : GG E bx bm mi ko T M I H) (hS : va_S (fun q => s.heap.size ≤ q) s.heap H locs) (hl : lv_has ls 4 [(0, .ref b), (1, .ref bx), (2, .ref bm), (3, .int (nI i))])
    (kk : ∀ (mi : Nat → Option Nat) (ko : Option Nat) (T : TT) (M : Nat → Nat → Int32) (I : Nat → TT) (H : Heap) (locs : List Loc) (cells' slots' : Nat), cells' ≤ cells + 47 → slots' ≤ slots + 4608 → RG T M I mi → GG E bx bm mi ko T M I H → va_S (fun q => s.heap.size ≤ q) s.heap H locs → W p l e room_1 s m #[Value.ref b] below meth c H locs cells' slots' (lw_Z below #[Value.ref b] s) (F0 m 1647 ls [])) : W p l e room_1 s m #[Value.ref b] below meth c H locs cells slots (lw_Z below #[Value.ref b] s) (F0 m 1601 ls []) := by
  obtain ⟨hx, hb, hr, hml, hown, hts, hX0, hbl, hlocks, hgv⟩ := id C0
  have zc : zC p s m #[Value.ref b] meth c cL_law 4 RL ret := ⟨hx, hb, hml, hown, fun w hw => hts w (zb_in hw), hr, hlocks⟩
  have hbA : ¬ (fun q : Nat => s.heap.size ≤ q) b := Nat.not_le.mpr hbl
  refine lv_aload_n hx hb dL_law_1601 rfl (lv_at hl 1 rfl) ?_
  refine lv_aload_n hx hb dL_law_1602 rfl (lv_at hl 0 rfl) ?_
  refine lv_iload_n hx hb dL_law_1603 rfl (lv_at hl 3 rfl) ?_
  refine lv_iconst (v := (1 : Int32)) hx hb dL_law_1604 (by decide) ?_
  refine lv_iadd hx hb dL_law_1605 ?_
  refine va_sld hx hb hX0 hbl hbA hS (zidx (k := 1) hi hL rfl (by decide)) dL_law_1606 ?_
  have hB0 := tB_of hG.2.2.2.1
  have hI0 := tBI_of hG.2.2.1
  refine gx_image [] hcs C0 hbx hbm hK hO hG hS hl.1 (Nat.le_of_ble_eq_true rfl) kmL_147 dL_law_1607 (fun r1 mi' ko' T' I' H locs cells' slots' hx1 e1 e2 hG1 hS1 => ?_)
  obtain ⟨rfl, hx2⟩ := hx1
  have hG := hG1
  have hS := hS1
  refine lv_pop hx hb dL_law_1610 rfl ?_
  refine lv_aload_n hx hb dL_law_1611 rfl (lv_at hl 2 rfl) ?_
  refine lv_aload_n hx hb dL_law_1612 rfl (lv_at hl 0 rfl) ?_
  refine lv_iload_n hx hb dL_law_1613 rfl (lv_at hl 3 rfl) ?_
  refine lv_iconst (v := (1 : Int32)) hx hb dL_law_1614 (by decide) ?_
  refine lv_iadd hx hb dL_law_1615 ?_
  refine va_sld hx hb hX0 hbl hbA hS (zidx (k := 1) hi hL rfl (by decide)) dL_law_1616 ?_
  refine gm_image [] ⟨Nat.le_trans e1 hcs.1, Nat.le_trans e2 hcs.2⟩ C0 hbx hbm hK hO hG hS hl.1 (Nat.le_of_ble_eq_true rfl) kmL_151 dL_law_1617 (fun r2 M' H locs hm1 hG2 hS2 => ?_)
  obtain ⟨hrr, hR⟩ := RG_im hR hB0 hI0 hx2 hm1
  have hG := hG2
  have hS := hS2
  refine lv_pop hx hb dL_law_1620 rfl ?_
  refine lv_goto (tgt := 1647) hx hb dL_law_1621 (by decide) ?_
  exact kk _ _ _ _ _ _ _ _ _ e1 e2 hR hG hS

set_option maxRecDepth 40000 in
set_option maxHeartbeats 4000000 in
theorem g_32 {p : Program} {l : Launch} {e : Env} {s : State} {m : MethodId} {below : List Frame} {meth : Method} {c : Code} {E : zE} {G : zG} {b L i bx bm cells slots : Nat} {xs : Nat → Int32} {mi : Nat → Option Nat} {ko : Option Nat} {T : TT} {M : Nat → Nat → Int32} {I : Nat → TT} {H : Heap} {locs : List Loc} {ls : Array Slot} (hi : i + 6 ≤ L) (hL : L ≤ 3072) (hR : RG T M I mi) (hcs : cells + 47 ≤ room_1.cells ∧ slots + 4608 ≤ room_1.slots) (C0 : lw_At p s m meth c b L xs) (hbx : s.heap.size ≤ bx) (hbm : bx + 93 ≤ bm) (hK : zK E s) (hO : zO s ∧ zZ G (fun q => s.heap.size ≤ q) s s.heap) (hG : GG E bx bm mi ko T M I H) (hS : va_S (fun q => s.heap.size ≤ q) s.heap H locs) (hl : lv_has ls 4 [(0, .ref b), (1, .ref bx), (2, .ref bm), (3, .int (nI i))])
    (kk : ∀ (mi : Nat → Option Nat) (ko : Option Nat) (T : TT) (M : Nat → Nat → Int32) (I : Nat → TT) (H : Heap) (locs : List Loc) (cells' slots' : Nat), cells' ≤ cells + 47 → slots' ≤ slots + 4608 → RG T M I mi → GG E bx bm mi ko T M I H → va_S (fun q => s.heap.size ≤ q) s.heap H locs → W p l e room_1 s m #[Value.ref b] below meth c H locs cells' slots' (lw_Z below #[Value.ref b] s) (F0 m 1647 ls [])) : W p l e room_1 s m #[Value.ref b] below meth c H locs cells slots (lw_Z below #[Value.ref b] s) (F0 m 1624 ls []) := by
  obtain ⟨hx, hb, hr, hml, hown, hts, hX0, hbl, hlocks, hgv⟩ := id C0
  have zc : zC p s m #[Value.ref b] meth c cL_law 4 RL ret := ⟨hx, hb, hml, hown, fun w hw => hts w (zb_in hw), hr, hlocks⟩
  have hbA : ¬ (fun q : Nat => s.heap.size ≤ q) b := Nat.not_le.mpr hbl
  refine lv_aload_n hx hb dL_law_1624 rfl (lv_at hl 1 rfl) ?_
  refine lv_aload_n hx hb dL_law_1625 rfl (lv_at hl 0 rfl) ?_
  refine lv_iload_n hx hb dL_law_1626 rfl (lv_at hl 3 rfl) ?_
  refine lv_iconst (v := (1 : Int32)) hx hb dL_law_1627 (by decide) ?_
  refine lv_iadd hx hb dL_law_1628 ?_
  refine va_sld hx hb hX0 hbl hbA hS (zidx (k := 1) hi hL rfl (by decide)) dL_law_1629 ?_
  have hB0 := tB_of hG.2.2.2.1
  have hI0 := tBI_of hG.2.2.1
  refine gx_again [] hcs C0 hbx hbm hK hO hG hS hl.1 (Nat.le_of_ble_eq_true rfl) kmL_152 dL_law_1630 (fun r1 mi' ko' T' I' H locs cells' slots' hx1 e1 e2 hG1 hS1 => ?_)
  obtain ⟨rfl, rfl, hx2⟩ := hx1
  have hG := hG1
  have hS := hS1
  refine lv_pop hx hb dL_law_1633 rfl ?_
  refine lv_aload_n hx hb dL_law_1634 rfl (lv_at hl 2 rfl) ?_
  refine lv_aload_n hx hb dL_law_1635 rfl (lv_at hl 0 rfl) ?_
  refine lv_iload_n hx hb dL_law_1636 rfl (lv_at hl 3 rfl) ?_
  refine lv_iconst (v := (1 : Int32)) hx hb dL_law_1637 (by decide) ?_
  refine lv_iadd hx hb dL_law_1638 ?_
  refine va_sld hx hb hX0 hbl hbA hS (zidx (k := 1) hi hL rfl (by decide)) dL_law_1639 ?_
  refine gm_again [] ⟨Nat.le_trans e1 hcs.1, Nat.le_trans e2 hcs.2⟩ C0 hbx hbm hK hO hG hS hl.1 (Nat.le_of_ble_eq_true rfl) kmL_155 dL_law_1640 (fun r2 M' H locs hm1 hG2 hS2 => ?_)
  obtain ⟨hrr, hR⟩ := RG_ag hR hB0 hI0 hx2 hm1
  have hG := hG2
  have hS := hS2
  refine lv_pop hx hb dL_law_1643 rfl ?_
  refine lv_goto (tgt := 1647) hx hb dL_law_1644 (by decide) ?_
  exact kk _ _ _ _ _ _ _ _ _ e1 e2 hR hG hS
end
section
theorem lp_end {p : Program} {l : Launch} {e : Env} {s : State} {m : MethodId} {below : List Frame} {meth : Method} {c : Code} {b L cells slots : Nat} {xs : Nat → Int32} {H : Heap} {locs : List Loc} {ls : Array Slot} (C0 : lw_At p s m meth c b L xs) (hcs : cells ≤ room_1.cells ∧ slots ≤ room_1.slots) (hS : va_S (fun q => s.heap.size ≤ q) s.heap H locs) : W p l e room_1 s m #[Value.ref b] below meth c H locs cells slots (lw_Z below #[Value.ref b] s) (F0 m 1653 ls []) := by
  obtain ⟨hx, hb, hr, hml, hown, hts, hX0, hbl, hlocks, hgv⟩ := id C0
  have zc : zC p s m #[Value.ref b] meth c cL_law 4 RL ret := ⟨hx, hb, hml, hown, fun w hw => hts w (zb_in hw), hr, hlocks⟩
  have hbA : ¬ (fun q : Nat => s.heap.size ≤ q) b := Nat.not_le.mpr hbl
  refine va_forget (fun q hq => hS.2.2 q hq) ?_
  refine W.widen (k := 600000) (n := 7302250) hcs.1 hcs.2 ?_
  refine lv_iconst (v := (1 : Int32)) hx hb dL_law_1653 (by decide) ?_
  exact lw_ret hx hb hr hlocks dL_law_1654
set_option maxRecDepth 40000 in
set_option maxHeartbeats 4000000 in
theorem lp_sw {p : Program} {l : Launch} {e : Env} {s : State} {m : MethodId} {below : List Frame} {meth : Method} {c : Code} {E : zE} {G : zG} {b L i bx bm cells slots : Nat} {xs : Nat → Int32} {mi : Nat → Option Nat} {ko : Option Nat} {T : TT} {M : Nat → Nat → Int32} {I : Nat → TT} {H : Heap} {locs : List Loc} {ls : Array Slot} (hi : i + 6 ≤ L) (hL : L ≤ 3072) (hR : RG T M I mi) (hcs : cells + 47 ≤ room_1.cells ∧ slots + 4608 ≤ room_1.slots) (C0 : lw_At p s m meth c b L xs) (hbx : s.heap.size ≤ bx) (hbm : bx + 93 ≤ bm) (hK : zK E s) (hO : zO s ∧ zZ G (fun q => s.heap.size ≤ q) s s.heap) (hG : GG E bx bm mi ko T M I H) (hS : va_S (fun q => s.heap.size ≤ q) s.heap H locs) (hl : lv_has ls 4 [(0, .ref b), (1, .ref bx), (2, .ref bm), (3, .int (nI i))])
    (kk : ∀ (mi : Nat → Option Nat) (ko : Option Nat) (T : TT) (M : Nat → Nat → Int32) (I : Nat → TT) (H : Heap) (locs : List Loc) (cells' slots' : Nat), cells' ≤ cells + 47 → slots' ≤ slots + 4608 → RG T M I mi → GG E bx bm mi ko T M I H → va_S (fun q => s.heap.size ≤ q) s.heap H locs → W p l e room_1 s m #[Value.ref b] below meth c H locs cells' slots' (lw_Z below #[Value.ref b] s) (F0 m 1647 ls [])) : W p l e room_1 s m #[Value.ref b] below meth c H locs cells slots (lw_Z below #[Value.ref b] s) (F0 m 27 ls []) := by
  obtain ⟨hx, hb, hr, hml, hown, hts, hX0, hbl, hlocks, hgv⟩ := id C0
  have zc : zC p s m #[Value.ref b] meth c cL_law 4 RL ret := ⟨hx, hb, hml, hown, fun w hw => hts w (zb_in hw), hr, hlocks⟩
  have hbA : ¬ (fun q : Nat => s.heap.size ≤ q) b := Nat.not_le.mpr hbl
  refine lv_aload_n hx hb dL_law_27 rfl (lv_at hl 0 rfl) ?_
  refine lv_iload_n hx hb dL_law_28 rfl (lv_at hl 3 rfl) ?_
  refine va_sld hx hb hX0 hbl hbA hS (vp_in_nI (by omega) (by omega)) dL_law_29 ?_
  refine lv_bipush (v := (63 : Int32)) hx hb dL_law_30 (by decide) ?_
  refine lv_iand hx hb dL_law_32 ?_
  by_cases hc : (xs (nI i).toNatClampNeg &&& (63 : Int32)).toInt < 0 ∨ 32 < (xs (nI i).toNatClampNeg &&& (63 : Int32)).toInt
  · refine lv_tableOut (tgt := 1647) hx hb dL_law_33 hc (by decide) ?_
    exact kk _ _ _ _ _ _ _ _ _ (Nat.le_add_right _ _) (Nat.le_add_right _ _) hR hG hS
  have hin := zsw hc
  by_cases hc0 : (xs (nI i).toNatClampNeg &&& (63 : Int32)) = (0 : Int32)
  · refine lv_tableIn (tgt := 180) hx hb dL_law_33 (by rw [hc0]; decide) (by rw [hc0]; decide) (by rw [hc0]; rfl) (by decide) ?_
    exact g_0 hi hL hR hcs C0 hbx hbm hK hO hG hS hl kk
  by_cases hc1 : (xs (nI i).toNatClampNeg &&& (63 : Int32)) = (1 : Int32)
  · refine lv_tableIn (tgt := 243) hx hb dL_law_33 (by rw [hc1]; decide) (by rw [hc1]; decide) (by rw [hc1]; rfl) (by decide) ?_
    exact g_1 hi hL hR hcs C0 hbx hbm hK hO hG hS hl kk
  by_cases hc2 : (xs (nI i).toNatClampNeg &&& (63 : Int32)) = (2 : Int32)
  · refine lv_tableIn (tgt := 266) hx hb dL_law_33 (by rw [hc2]; decide) (by rw [hc2]; decide) (by rw [hc2]; rfl) (by decide) ?_
    exact g_2 hi hL hR hcs C0 hbx hbm hK hO hG hS hl kk
  by_cases hc3 : (xs (nI i).toNatClampNeg &&& (63 : Int32)) = (3 : Int32)
  · refine lv_tableIn (tgt := 299) hx hb dL_law_33 (by rw [hc3]; decide) (by rw [hc3]; decide) (by rw [hc3]; rfl) (by decide) ?_
    exact g_3 hi hL hR hcs C0 hbx hbm hK hO hG hS hl kk
  by_cases hc4 : (xs (nI i).toNatClampNeg &&& (63 : Int32)) = (4 : Int32)
  · refine lv_tableIn (tgt := 322) hx hb dL_law_33 (by rw [hc4]; decide) (by rw [hc4]; decide) (by rw [hc4]; rfl) (by decide) ?_
    exact g_4 hi hL hR hcs C0 hbx hbm hK hO hG hS hl kk
  by_cases hc5 : (xs (nI i).toNatClampNeg &&& (63 : Int32)) = (5 : Int32)
  · refine lv_tableIn (tgt := 355) hx hb dL_law_33 (by rw [hc5]; decide) (by rw [hc5]; decide) (by rw [hc5]; rfl) (by decide) ?_
    exact g_5 hi hL hR hcs C0 hbx hbm hK hO hG hS hl kk
  by_cases hc6 : (xs (nI i).toNatClampNeg &&& (63 : Int32)) = (6 : Int32)
  · refine lv_tableIn (tgt := 398) hx hb dL_law_33 (by rw [hc6]; decide) (by rw [hc6]; decide) (by rw [hc6]; rfl) (by decide) ?_
    exact g_6 hi hL hR hcs C0 hbx hbm hK hO hG hS hl kk
  by_cases hc7 : (xs (nI i).toNatClampNeg &&& (63 : Int32)) = (7 : Int32)
  · refine lv_tableIn (tgt := 441) hx hb dL_law_33 (by rw [hc7]; decide) (by rw [hc7]; decide) (by rw [hc7]; rfl) (by decide) ?_
    exact g_7 hi hL hR hcs C0 hbx hbm hK hO hG hS hl kk
  by_cases hc8 : (xs (nI i).toNatClampNeg &&& (63 : Int32)) = (8 : Int32)
  · refine lv_tableIn (tgt := 474) hx hb dL_law_33 (by rw [hc8]; decide) (by rw [hc8]; decide) (by rw [hc8]; rfl) (by decide) ?_
    exact g_8 hi hL hR hcs C0 hbx hbm hK hO hG hS hl kk
  by_cases hc9 : (xs (nI i).toNatClampNeg &&& (63 : Int32)) = (9 : Int32)
  · refine lv_tableIn (tgt := 527) hx hb dL_law_33 (by rw [hc9]; decide) (by rw [hc9]; decide) (by rw [hc9]; rfl) (by decide) ?_
    exact g_9 hi hL hR hcs C0 hbx hbm hK hO hG hS hl kk
  by_cases hc10 : (xs (nI i).toNatClampNeg &&& (63 : Int32)) = (10 : Int32)
  · refine lv_tableIn (tgt := 570) hx hb dL_law_33 (by rw [hc10]; decide) (by rw [hc10]; decide) (by rw [hc10]; rfl) (by decide) ?_
    exact g_10 hi hL hR hcs C0 hbx hbm hK hO hG hS hl kk
  by_cases hc11 : (xs (nI i).toNatClampNeg &&& (63 : Int32)) = (11 : Int32)
  · refine lv_tableIn (tgt := 613) hx hb dL_law_33 (by rw [hc11]; decide) (by rw [hc11]; decide) (by rw [hc11]; rfl) (by decide) ?_
    exact g_11 hi hL hR hcs C0 hbx hbm hK hO hG hS hl kk
  by_cases hc12 : (xs (nI i).toNatClampNeg &&& (63 : Int32)) = (12 : Int32)
  · refine lv_tableIn (tgt := 662) hx hb dL_law_33 (by rw [hc12]; decide) (by rw [hc12]; decide) (by rw [hc12]; rfl) (by decide) ?_
    exact g_12 hi hL hR hcs C0 hbx hbm hK hO hG hS hl kk
  by_cases hc13 : (xs (nI i).toNatClampNeg &&& (63 : Int32)) = (13 : Int32)
  · refine lv_tableIn (tgt := 715) hx hb dL_law_33 (by rw [hc13]; decide) (by rw [hc13]; decide) (by rw [hc13]; rfl) (by decide) ?_
    exact g_13 hi hL hR hcs C0 hbx hbm hK hO hG hS hl kk
  by_cases hc14 : (xs (nI i).toNatClampNeg &&& (63 : Int32)) = (14 : Int32)
  · refine lv_tableIn (tgt := 758) hx hb dL_law_33 (by rw [hc14]; decide) (by rw [hc14]; decide) (by rw [hc14]; rfl) (by decide) ?_
    exact g_14 hi hL hR hcs C0 hbx hbm hK hO hG hS hl kk
  by_cases hc15 : (xs (nI i).toNatClampNeg &&& (63 : Int32)) = (15 : Int32)
  · refine lv_tableIn (tgt := 817) hx hb dL_law_33 (by rw [hc15]; decide) (by rw [hc15]; decide) (by rw [hc15]; rfl) (by decide) ?_
    exact g_15 hi hL hR hcs C0 hbx hbm hK hO hG hS hl kk
  by_cases hc16 : (xs (nI i).toNatClampNeg &&& (63 : Int32)) = (16 : Int32)
  · refine lv_tableIn (tgt := 860) hx hb dL_law_33 (by rw [hc16]; decide) (by rw [hc16]; decide) (by rw [hc16]; rfl) (by decide) ?_
    exact g_16 hi hL hR hcs C0 hbx hbm hK hO hG hS hl kk
  by_cases hc17 : (xs (nI i).toNatClampNeg &&& (63 : Int32)) = (17 : Int32)
  · refine lv_tableIn (tgt := 919) hx hb dL_law_33 (by rw [hc17]; decide) (by rw [hc17]; decide) (by rw [hc17]; rfl) (by decide) ?_
    exact g_17 hi hL hR hcs C0 hbx hbm hK hO hG hS hl kk
  by_cases hc18 : (xs (nI i).toNatClampNeg &&& (63 : Int32)) = (18 : Int32)
  · refine lv_tableIn (tgt := 952) hx hb dL_law_33 (by rw [hc18]; decide) (by rw [hc18]; decide) (by rw [hc18]; rfl) (by decide) ?_
    exact g_18 hi hL hR hcs C0 hbx hbm hK hO hG hS hl kk
  by_cases hc19 : (xs (nI i).toNatClampNeg &&& (63 : Int32)) = (19 : Int32)
  · refine lv_tableIn (tgt := 975) hx hb dL_law_33 (by rw [hc19]; decide) (by rw [hc19]; decide) (by rw [hc19]; rfl) (by decide) ?_
    exact g_19 hi hL hR hcs C0 hbx hbm hK hO hG hS hl kk
  by_cases hc20 : (xs (nI i).toNatClampNeg &&& (63 : Int32)) = (20 : Int32)
  · refine lv_tableIn (tgt := 1008) hx hb dL_law_33 (by rw [hc20]; decide) (by rw [hc20]; decide) (by rw [hc20]; rfl) (by decide) ?_
    exact g_20 hi hL hR hcs C0 hbx hbm hK hO hG hS hl kk
  by_cases hc21 : (xs (nI i).toNatClampNeg &&& (63 : Int32)) = (21 : Int32)
  · refine lv_tableIn (tgt := 1077) hx hb dL_law_33 (by rw [hc21]; decide) (by rw [hc21]; decide) (by rw [hc21]; rfl) (by decide) ?_
    exact g_21 hi hL hR hcs C0 hbx hbm hK hO hG hS hl kk
  by_cases hc22 : (xs (nI i).toNatClampNeg &&& (63 : Int32)) = (22 : Int32)
  · refine lv_tableIn (tgt := 1120) hx hb dL_law_33 (by rw [hc22]; decide) (by rw [hc22]; decide) (by rw [hc22]; rfl) (by decide) ?_
    exact g_22 hi hL hR hcs C0 hbx hbm hK hO hG hS hl kk
  by_cases hc23 : (xs (nI i).toNatClampNeg &&& (63 : Int32)) = (23 : Int32)
  · refine lv_tableIn (tgt := 1173) hx hb dL_law_33 (by rw [hc23]; decide) (by rw [hc23]; decide) (by rw [hc23]; rfl) (by decide) ?_
    exact g_23 hi hL hR hcs C0 hbx hbm hK hO hG hS hl kk
  by_cases hc24 : (xs (nI i).toNatClampNeg &&& (63 : Int32)) = (24 : Int32)
  · refine lv_tableIn (tgt := 1226) hx hb dL_law_33 (by rw [hc24]; decide) (by rw [hc24]; decide) (by rw [hc24]; rfl) (by decide) ?_
    exact g_24 hi hL hR hcs C0 hbx hbm hK hO hG hS hl kk
  by_cases hc25 : (xs (nI i).toNatClampNeg &&& (63 : Int32)) = (25 : Int32)
  · refine lv_tableIn (tgt := 1295) hx hb dL_law_33 (by rw [hc25]; decide) (by rw [hc25]; decide) (by rw [hc25]; rfl) (by decide) ?_
    exact g_25 hi hL hR hcs C0 hbx hbm hK hO hG hS hl kk
  by_cases hc26 : (xs (nI i).toNatClampNeg &&& (63 : Int32)) = (26 : Int32)
  · refine lv_tableIn (tgt := 1354) hx hb dL_law_33 (by rw [hc26]; decide) (by rw [hc26]; decide) (by rw [hc26]; rfl) (by decide) ?_
    exact g_26 hi hL hR hcs C0 hbx hbm hK hO hG hS hl kk
  by_cases hc27 : (xs (nI i).toNatClampNeg &&& (63 : Int32)) = (27 : Int32)
  · refine lv_tableIn (tgt := 1423) hx hb dL_law_33 (by rw [hc27]; decide) (by rw [hc27]; decide) (by rw [hc27]; rfl) (by decide) ?_
    exact g_27 hi hL hR hcs C0 hbx hbm hK hO hG hS hl kk
  by_cases hc28 : (xs (nI i).toNatClampNeg &&& (63 : Int32)) = (28 : Int32)
  · refine lv_tableIn (tgt := 1456) hx hb dL_law_33 (by rw [hc28]; decide) (by rw [hc28]; decide) (by rw [hc28]; rfl) (by decide) ?_
    exact g_28 hi hL hR hcs C0 hbx hbm hK hO hG hS hl kk
  by_cases hc29 : (xs (nI i).toNatClampNeg &&& (63 : Int32)) = (29 : Int32)
  · refine lv_tableIn (tgt := 1525) hx hb dL_law_33 (by rw [hc29]; decide) (by rw [hc29]; decide) (by rw [hc29]; rfl) (by decide) ?_
    exact g_29 hi hL hR hcs C0 hbx hbm hK hO hG hS hl kk
  by_cases hc30 : (xs (nI i).toNatClampNeg &&& (63 : Int32)) = (30 : Int32)
  · refine lv_tableIn (tgt := 1578) hx hb dL_law_33 (by rw [hc30]; decide) (by rw [hc30]; decide) (by rw [hc30]; rfl) (by decide) ?_
    exact g_30 hi hL hR hcs C0 hbx hbm hK hO hG hS hl kk
  by_cases hc31 : (xs (nI i).toNatClampNeg &&& (63 : Int32)) = (31 : Int32)
  · refine lv_tableIn (tgt := 1601) hx hb dL_law_33 (by rw [hc31]; decide) (by rw [hc31]; decide) (by rw [hc31]; rfl) (by decide) ?_
    exact g_31 hi hL hR hcs C0 hbx hbm hK hO hG hS hl kk
  by_cases hc32 : (xs (nI i).toNatClampNeg &&& (63 : Int32)) = (32 : Int32)
  · refine lv_tableIn (tgt := 1624) hx hb dL_law_33 (by rw [hc32]; decide) (by rw [hc32]; decide) (by rw [hc32]; rfl) (by decide) ?_
    exact g_32 hi hL hR hcs C0 hbx hbm hK hO hG hS hl kk
  exact absurd hin (by have h0 := zne hc0; have h1 := zne hc1; have h2 := zne hc2; have h3 := zne hc3; have h4 := zne hc4; have h5 := zne hc5; have h6 := zne hc6; have h7 := zne hc7; have h8 := zne hc8; have h9 := zne hc9; have h10 := zne hc10; have h11 := zne hc11; have h12 := zne hc12; have h13 := zne hc13; have h14 := zne hc14; have h15 := zne hc15; have h16 := zne hc16; have h17 := zne hc17; have h18 := zne hc18; have h19 := zne hc19; have h20 := zne hc20; have h21 := zne hc21; have h22 := zne hc22; have h23 := zne hc23; have h24 := zne hc24; have h25 := zne hc25; have h26 := zne hc26; have h27 := zne hc27; have h28 := zne hc28; have h29 := zne hc29; have h30 := zne hc30; have h31 := zne hc31; have h32 := zne hc32; simp at *; omega)
set_option maxRecDepth 40000 in
set_option maxHeartbeats 4000000 in
theorem lp_head {p : Program} {l : Launch} {e : Env} {s : State} {m : MethodId} {below : List Frame} {meth : Method} {c : Code} {E : zE} {G : zG} {b L bx bm : Nat} {xs : Nat → Int32} (C0 : lw_At p s m meth c b L xs) (hL : L ≤ 3072) (hbx : s.heap.size ≤ bx) (hbm : bx + 93 ≤ bm) (hK : zK E s) (hO : zO s ∧ zZ G (fun q => s.heap.size ≤ q) s s.heap) (n : Nat) : ∀ (i cells slots : Nat) (mi : Nat → Option Nat) (ko : Option Nat) (T : TT) (M : Nat → Nat → Int32) (I : Nat → TT) (H : Heap) (locs : List Loc) (ls : Array Slot), L < i + 6 + 6 * n → i ≤ 3072 → cells ≤ 200 + 8 * i → slots ≤ 20000 + 768 * i → RG T M I mi → GG E bx bm mi ko T M I H → va_S (fun q => s.heap.size ≤ q) s.heap H locs → lv_has ls 4 [(0, .ref b), (1, .ref bx), (2, .ref bm), (3, .int (nI i))] → W p l e room_1 s m #[Value.ref b] below meth c H locs cells slots (lw_Z below #[Value.ref b] s) (F0 m 18 ls []) := by
  obtain ⟨hx, hb, hr, hml, hown, hts, hX0, hbl, hlocks, hgv⟩ := id C0
  have zc : zC p s m #[Value.ref b] meth c cL_law 4 RL ret := ⟨hx, hb, hml, hown, fun w hw => hts w (zb_in hw), hr, hlocks⟩
  have hbA : ¬ (fun q : Nat => s.heap.size ≤ q) b := Nat.not_le.mpr hbl
  have hf : ∀ (i cells slots : Nat) (mi : Nat → Option Nat) (ko : Option Nat) (T : TT) (M : Nat → Nat → Int32) (I : Nat → TT) (H : Heap) (locs : List Loc) (ls : Array Slot), i ≤ 3072 → cells ≤ 200 + 8 * i → slots ≤ 20000 + 768 * i → RG T M I mi → GG E bx bm mi ko T M I H → va_S (fun q => s.heap.size ≤ q) s.heap H locs → lv_has ls 4 [(0, .ref b), (1, .ref bx), (2, .ref bm), (3, .int (nI i))] → (¬ L < i + 6 → W p l e room_1 s m #[Value.ref b] below meth c H locs cells slots (lw_Z below #[Value.ref b] s) (F0 m 27 ls [])) → W p l e room_1 s m #[Value.ref b] below meth c H locs cells slots (lw_Z below #[Value.ref b] s) (F0 m 18 ls []) := by
    intro i cells slots mi ko T M I H locs ls hi hc hs hR hG hS hl kk
    refine lv_iload_n hx hb dL_law_18 rfl (lv_at hl 3 rfl) ?_
    refine lv_aload_n hx hb dL_law_19 rfl (lv_at hl 0 rfl) ?_
    refine va_slen hx hb hX0 hbl hbA hS dL_law_20 ?_
    refine lv_bipush (v := (6 : Int32)) hx hb dL_law_21 (by decide) ?_
    refine lv_isub hx hb dL_law_23 ?_
    refine lv_icmp_gt (tgt := 1653) hx hb dL_law_24 (by decide) (fun hd => ?_) (fun hd => kk (fun h => hd ((hd_lt hL (by omega)).mpr h)))
    exact lp_end C0 ⟨by show cells ≤ 600000; omega, by show slots ≤ 7302250; omega⟩ hS
  induction n with
  | zero =>
    intro i cells slots mi ko T M I H locs ls h hi hc hs hR hG hS hl
    exact hf i cells slots mi ko T M I H locs ls hi hc hs hR hG hS hl (fun h2 => absurd (by omega) h2)
  | succ n ih =>
    intro i cells slots mi ko T M I H locs ls h hi hc hs hR hG hS hl
    refine hf i cells slots mi ko T M I H locs ls hi hc hs hR hG hS hl (fun h2 => ?_)
    have hi6 : i + 6 ≤ L := by omega
    refine lp_sw hi6 hL hR ⟨by show cells + 47 ≤ 600000; omega, by show slots + 4608 ≤ 7302250; omega⟩ C0 hbx hbm hK hO hG hS hl (fun mi ko T M I H locs cells' slots' e1 e2 hR hG hS => ?_)
    refine lv_iinc (v := nI (i + 6)) (k := 3) (lv' := [(3, .int (nI (i + 6))), (0, .ref b), (1, .ref bx), (2, .ref bm)]) hx hb dL_law_1647 hl rfl (by rw [← nI_add]; rfl) (by decide) rfl (fun ls hl => ?_)
    refine lv_goto (tgt := 18) hx hb dL_law_1650 (by decide) ?_
    exact ih (i + 6) cells' slots' mi ko T M I H locs ls (by omega) (by omega) (by omega) (by omega) hR hG hS (lv_sub hl [1, 2, 3, 0] rfl)
theorem iv_z {l h : Int} (h1 : l ≤ 0) (h2 : 0 ≤ h) : iv l h 0 := ⟨h1, h2⟩
theorem mRh0 : ∀ j, j < 132 → 0 ≤ mRh j := by decide +kernel
theorem mLand0 : mLand (fun _ => 0) := ⟨fun r j hr hj => iv_z (Int.le_refl 0) (mRh0 j hj), fun r hr h => absurd rfl h⟩
theorem mEve0 : mEve (fun _ => 0) := fun r hr => ⟨iv_z (by decide) (by decide), fun k hk => ⟨iv_z (by decide) (by decide), iv_z (by decide) (by decide), iv_z (by decide) (by decide)⟩⟩
theorem mSig0 : mSig (fun _ => 0) := fun r hr => ⟨iv_z (by decide) (by decide), fun k hk => ⟨iv_z (by decide) (by decide), iv_z (by decide) (by decide), iv_z (by decide) (by decide)⟩⟩
theorem mCho0 : mCho (fun _ => 0) := fun r hr => ⟨iv_z (by decide) (by decide), iv_z (by decide) (by decide), fun k hk => ⟨iv_z (by decide) (by decide), iv_z (by decide) (by decide)⟩⟩
theorem mT0 : mT (mmk (fun _ => 0) (fun _ => 0) (fun _ => 0) (upd (fun _ => 0) (Int32.toNatClampNeg 0) (-1)) (fun _ => 0) (fun _ => 0) (fun _ => 0) (fun _ => 0) (fun _ => 0) (fun _ => 0)) := ⟨fun _ => iv_lit (x := 0) (by decide), fun _ => iv_lit (x := 0) (by decide), fun _ => iv_lit (x := 0) (by decide), mLand0, mEve0, mSig0, mCho0, fun _ => iv_lit (x := 0) (by decide)⟩
set_option maxRecDepth 40000 in
theorem fx_start {E : zE} {a : Nat} {H : Heap} (h : va_P E.1 zcl (zb_X10_init E a) H) : wxW E a (fun _ => 0) 0 0 (-1) (fun _ => 0) 0 0 0 0 0 2 5 (fun _ => 0) (fun _ => 0) (fun _ => 0) (fun _ => 0) (fun _ => 0) (fun _ => 0) (fun _ => 0) (fun _ => 0) 0 0 0 0 0 2 5 (fun _ => 0) (fun _ => 0) (fun _ => 0) (fun _ => 0) (fun _ => 0) (fun _ => 0) (fun _ => 0) (fun _ => 0) 0 (fun _ => 0) (fun _ => 0) (fun _ => 0) 0 (fun _ => 0) (fun _ => 0) (fun _ => 0) 0 (fun _ => 0) (fun _ => 0) (fun _ => 0) 0 (fun _ => 0) (fun _ => 0) (fun _ => 0) 0 0 (fun _ => 0) (fun _ => 0) 0 0 (fun _ => 0) (fun _ => 0) (fun _ => none) 0 0 0 0 0 2 5 (fun _ => 0) (fun _ => 0) (fun _ => 0) (fun _ => 0) (fun _ => 0) (fun _ => 0) (fun _ => 0) (fun _ => 0) 0 (fun _ => 0) (fun _ => 0) (fun _ => 0) 0 (fun _ => 0) (fun _ => 0) (fun _ => 0) 0 0 (fun _ => 0) (fun _ => 0) 0 (-1) (fun _ => 0) (fun _ => 0) 0 0 0 0 0 0 0 0 0 0 0 0 (fun _ => 0) (fun _ => 0) (fun _ => 0) (fun _ => 0) (fun _ => 0) (fun _ => 0) (fun _ => 0) (fun _ => 0) (fun _ => 0) (fun _ => 0) (fun _ => 0) (fun _ => 0) (fun _ => 0) none (fun _ => 0) (fun _ => 0) (fun _ => 0) (fun _ => 0) H := h
set_option maxRecDepth 40000 in
theorem fm_start {E : zE} {a : Nat} {H : Heap} (h : va_P E.1 zcl (zb_X11_init E a) H) : mW E a 0 (fun _ => 0) (fun _ => 0) (fun _ => 0) (upd (fun _ => 0) (Int32.toNatClampNeg 0) (-1)) (fun _ => 0) (fun _ => 0) (fun _ => 0) (fun _ => 0) (fun _ => 0) 0 0 0 0 0 0 0 0 0 (fun _ => 0) (fun _ => 0) 0 0 0 0 0 0 0 (fun _ => 0) (fun _ => 0) (fun _ => 0) (fun _ => 0) (fun _ => 0) 0 0 0 (fun _ => 0) (fun _ => 0) (fun _ => 0) (fun _ => 0) (fun _ => 0) (fun _ => 0) (fun _ => 0) 0 (fun _ => 0) 0 0 (fun _ => 0) (fun _ => 0) 0 (fun _ => 0) (fun _ => 0) H := h
set_option maxRecDepth 40000 in
set_option maxHeartbeats 4000000 in
theorem GG0 {E : zE} {bx bm : Nat} {H : Heap} (hX : va_P E.1 zcl (zb_X10_init E bx) H) (hM : va_P E.1 zcl (zb_X11_init E bm) H) : GG E bx bm (fun _ => none) none (tmk (fun _ => 0) 0 0 (-1) (fun _ => 0) 0 0 0 0 0 2 5 (fun _ => 0) (fun _ => 0) (fun _ => 0) (fun _ => 0) (fun _ => 0) (fun _ => 0) (fun _ => 0) (fun _ => 0) 0 0 0 0 0 2 5 (fun _ => 0) (fun _ => 0) (fun _ => 0) (fun _ => 0) (fun _ => 0) (fun _ => 0) (fun _ => 0) (fun _ => 0) 0 (fun _ => 0) (fun _ => 0) (fun _ => 0) 0 (fun _ => 0) (fun _ => 0) (fun _ => 0) 0 (fun _ => 0) (fun _ => 0) (fun _ => 0) 0 (fun _ => 0) (fun _ => 0) (fun _ => 0) 0 0 (fun _ => 0) (fun _ => 0) 0 0 (fun _ => 0) (fun _ => 0)) (mmk (fun _ => 0) (fun _ => 0) (fun _ => 0) (upd (fun _ => 0) (Int32.toNatClampNeg 0) (-1)) (fun _ => 0) (fun _ => 0) (fun _ => 0) (fun _ => 0) (fun _ => 0) (fun _ => 0)) (fun _ => (tmk (fun _ => 0) 0 0 (-1) (fun _ => 0) 0 0 0 0 0 2 5 (fun _ => 0) (fun _ => 0) (fun _ => 0) (fun _ => 0) (fun _ => 0) (fun _ => 0) (fun _ => 0) (fun _ => 0) 0 0 0 0 0 2 5 (fun _ => 0) (fun _ => 0) (fun _ => 0) (fun _ => 0) (fun _ => 0) (fun _ => 0) (fun _ => 0) (fun _ => 0) 0 (fun _ => 0) (fun _ => 0) (fun _ => 0) 0 (fun _ => 0) (fun _ => 0) (fun _ => 0) 0 (fun _ => 0) (fun _ => 0) (fun _ => 0) 0 (fun _ => 0) (fun _ => 0) (fun _ => 0) 0 0 (fun _ => 0) (fun _ => 0) 0 0 (fun _ => 0) (fun _ => 0))) H :=
  ⟨XS_of2 (fx_start hX) ⟨by decide, by decide⟩ ⟨by decide, by decide⟩ ⟨by decide, by decide⟩ ⟨by decide, by decide⟩ ⟨by decide, by decide⟩ ⟨by decide, by decide⟩ ⟨by decide, by decide⟩ (fun _ => iv_lit (x := 0) (by decide)) (fun _ => iv_lit (x := 0) (by decide)) (fun _ => iv_lit (x := 0) (by decide)) (fun _ => iv_lit (x := 0) (by decide)) (fun _ => iv_lit (x := 0) (by decide)) (fun _ => iv_lit (x := 0) (by decide)) (fun _ => iv_lit (x := 0) (by decide)) (fun _ => iv_lit (x := 0) (by decide)) ⟨by decide, by decide⟩ (fun _ => iv_lit (x := 0) (by decide)) (fun _ => iv_lit (x := 0) (by decide)) (fun _ => iv_lit (x := 0) (by decide)) ⟨by decide, by decide⟩ (fun _ => iv_lit (x := 0) (by decide)) (fun _ => iv_lit (x := 0) (by decide)) (fun _ => iv_lit (x := 0) (by decide)) ⟨by decide, by decide⟩ ⟨by decide, by decide⟩ (fun _ => iv_lit (x := 0) (by decide)) (fun _ => iv_lit (x := 0) (by decide)) ⟨by decide, by decide⟩ ⟨by decide, by decide⟩ (fun _ => iv_lit (x := 0) (by decide)) ⟨by decide, by decide⟩ ⟨by decide, by decide⟩ ⟨by decide, by decide⟩ ⟨by decide, by decide⟩ ⟨by decide, by decide⟩ ⟨by decide, by decide⟩ (fun _ => iv_lit (x := 0) (by decide)) (fun _ => iv_lit (x := 0) (by decide)) (fun _ => iv_lit (x := 0) (by decide)) (fun _ => iv_lit (x := 0) (by decide)) (fun _ => iv_lit (x := 0) (by decide)) (fun _ => iv_lit (x := 0) (by decide)) (fun _ => iv_lit (x := 0) (by decide)) (fun _ => iv_lit (x := 0) (by decide)) (fun _ => iv_lit (x := 0) (by decide)) (fun _ => iv_lit (x := 0) (by decide)), MS_of (fm_start hM) ⟨by decide, by decide⟩ ⟨by decide, by decide⟩ ⟨by decide, by decide⟩ ⟨by decide, by decide⟩ (fun _ => iv_lit (x := 0) (by decide)) (fun _ => iv_lit (x := 0) (by decide)) (fun _ => iv_lit (x := 0) (by decide)) (fun _ => iv_lit (x := 0) (by decide)) ⟨by decide, by decide⟩ (fun _ => iv_lit (x := 0) (by decide)) (fun _ => iv_lit (x := 0) (by decide)) (fun _ => iv_lit (x := 0) (by decide)) (fun _ => iv_lit (x := 0) (by decide)) (fun _ => iv_lit (x := 0) (by decide)) ⟨by decide, by decide⟩ (fun _ => iv_lit (x := 0) (by decide)), ⟨fun j hj q e => absurd e (by simp), fun j k _ _ _ q r e _ => absurd e (by simp), fun t e => absurd e (by simp), fun j hj q t e _ => absurd e (by simp)⟩, tJ_of (fun _ => iv_lit (x := 0) (by decide)) ⟨by decide, by decide⟩ ⟨by decide, by decide⟩ ⟨by decide, by decide⟩ (fun _ => iv_lit (x := 0) (by decide)) ⟨by decide, by decide⟩ ⟨by decide, by decide⟩ ⟨by decide, by decide⟩ ⟨by decide, by decide⟩ ⟨by decide, by decide⟩ ⟨by decide, by decide⟩ ⟨by decide, by decide⟩ (fun _ => iv_lit (x := 0) (by decide)) (fun _ => iv_lit (x := 0) (by decide)) (fun _ => iv_lit (x := 0) (by decide)) (fun _ => iv_lit (x := 0) (by decide)) (fun _ => iv_lit (x := 0) (by decide)) (fun _ => iv_lit (x := 0) (by decide)) (fun _ => iv_lit (x := 0) (by decide)) (fun _ => iv_lit (x := 0) (by decide)) ⟨by decide, by decide⟩ ⟨by decide, by decide⟩ ⟨by decide, by decide⟩ ⟨by decide, by decide⟩ ⟨by decide, by decide⟩ ⟨by decide, by decide⟩ ⟨by decide, by decide⟩ (fun _ => iv_lit (x := 0) (by decide)) (fun _ => iv_lit (x := 0) (by decide)) (fun _ => iv_lit (x := 0) (by decide)) (fun _ => iv_lit (x := 0) (by decide)) (fun _ => iv_lit (x := 0) (by decide)) (fun _ => iv_lit (x := 0) (by decide)) (fun _ => iv_lit (x := 0) (by decide)) (fun _ => iv_lit (x := 0) (by decide)) ⟨by decide, by decide⟩ (fun _ => iv_lit (x := 0) (by decide)) (fun _ => iv_lit (x := 0) (by decide)) (fun _ => iv_lit (x := 0) (by decide)) ⟨by decide, by decide⟩ (fun _ => iv_lit (x := 0) (by decide)) (fun _ => iv_lit (x := 0) (by decide)) (fun _ => iv_lit (x := 0) (by decide)) ⟨by decide, by decide⟩ (fun _ => iv_lit (x := 0) (by decide)) (fun _ => iv_lit (x := 0) (by decide)) (fun _ => iv_lit (x := 0) (by decide)) ⟨by decide, by decide⟩ (fun _ => iv_lit (x := 0) (by decide)) (fun _ => iv_lit (x := 0) (by decide)) (fun _ => iv_lit (x := 0) (by decide)) ⟨by decide, by decide⟩ ⟨by decide, by decide⟩ (fun _ => iv_lit (x := 0) (by decide)) (fun _ => iv_lit (x := 0) (by decide)) ⟨by decide, by decide⟩ ⟨by decide, by decide⟩ (fun _ => iv_lit (x := 0) (by decide)) (fun _ => iv_lit (x := 0) (by decide)), mT0⟩
theorem RF0 : RF (tmk (fun _ => 0) 0 0 (-1) (fun _ => 0) 0 0 0 0 0 2 5 (fun _ => 0) (fun _ => 0) (fun _ => 0) (fun _ => 0) (fun _ => 0) (fun _ => 0) (fun _ => 0) (fun _ => 0) 0 0 0 0 0 2 5 (fun _ => 0) (fun _ => 0) (fun _ => 0) (fun _ => 0) (fun _ => 0) (fun _ => 0) (fun _ => 0) (fun _ => 0) 0 (fun _ => 0) (fun _ => 0) (fun _ => 0) 0 (fun _ => 0) (fun _ => 0) (fun _ => 0) 0 (fun _ => 0) (fun _ => 0) (fun _ => 0) 0 (fun _ => 0) (fun _ => 0) (fun _ => 0) 0 0 (fun _ => 0) (fun _ => 0) 0 0 (fun _ => 0) (fun _ => 0)) (mmk (fun _ => 0) (fun _ => 0) (fun _ => 0) (upd (fun _ => 0) (Int32.toNatClampNeg 0) (-1)) (fun _ => 0) (fun _ => 0) (fun _ => 0) (fun _ => 0) (fun _ => 0) (fun _ => 0)) (fun _ => (tmk (fun _ => 0) 0 0 (-1) (fun _ => 0) 0 0 0 0 0 2 5 (fun _ => 0) (fun _ => 0) (fun _ => 0) (fun _ => 0) (fun _ => 0) (fun _ => 0) (fun _ => 0) (fun _ => 0) 0 0 0 0 0 2 5 (fun _ => 0) (fun _ => 0) (fun _ => 0) (fun _ => 0) (fun _ => 0) (fun _ => 0) (fun _ => 0) (fun _ => 0) 0 (fun _ => 0) (fun _ => 0) (fun _ => 0) 0 (fun _ => 0) (fun _ => 0) (fun _ => 0) 0 (fun _ => 0) (fun _ => 0) (fun _ => 0) 0 (fun _ => 0) (fun _ => 0) (fun _ => 0) 0 0 (fun _ => 0) (fun _ => 0) 0 0 (fun _ => 0) (fun _ => 0))) (fun _ => none) := by
  refine ⟨⟨rfl, fun j hj => absurd hj (Nat.not_lt_zero j), rfl, rfl, fun o ho => ?_, fun o k ho hk h => ?_⟩, fun j hj => ⟨⟨fun _ => rfl, fun _ => rfl⟩, fun h => absurd rfl h⟩⟩
  · rfl
  · exact absurd h (nI_pos (by omega))
theorem RG0 : RG (tmk (fun _ => 0) 0 0 (-1) (fun _ => 0) 0 0 0 0 0 2 5 (fun _ => 0) (fun _ => 0) (fun _ => 0) (fun _ => 0) (fun _ => 0) (fun _ => 0) (fun _ => 0) (fun _ => 0) 0 0 0 0 0 2 5 (fun _ => 0) (fun _ => 0) (fun _ => 0) (fun _ => 0) (fun _ => 0) (fun _ => 0) (fun _ => 0) (fun _ => 0) 0 (fun _ => 0) (fun _ => 0) (fun _ => 0) 0 (fun _ => 0) (fun _ => 0) (fun _ => 0) 0 (fun _ => 0) (fun _ => 0) (fun _ => 0) 0 (fun _ => 0) (fun _ => 0) (fun _ => 0) 0 0 (fun _ => 0) (fun _ => 0) 0 0 (fun _ => 0) (fun _ => 0)) (mmk (fun _ => 0) (fun _ => 0) (fun _ => 0) (upd (fun _ => 0) (Int32.toNatClampNeg 0) (-1)) (fun _ => 0) (fun _ => 0) (fun _ => 0) (fun _ => 0) (fun _ => 0) (fun _ => 0)) (fun _ => (tmk (fun _ => 0) 0 0 (-1) (fun _ => 0) 0 0 0 0 0 2 5 (fun _ => 0) (fun _ => 0) (fun _ => 0) (fun _ => 0) (fun _ => 0) (fun _ => 0) (fun _ => 0) (fun _ => 0) 0 0 0 0 0 2 5 (fun _ => 0) (fun _ => 0) (fun _ => 0) (fun _ => 0) (fun _ => 0) (fun _ => 0) (fun _ => 0) (fun _ => 0) 0 (fun _ => 0) (fun _ => 0) (fun _ => 0) 0 (fun _ => 0) (fun _ => 0) (fun _ => 0) 0 (fun _ => 0) (fun _ => 0) (fun _ => 0) 0 (fun _ => 0) (fun _ => 0) (fun _ => 0) 0 0 (fun _ => 0) (fun _ => 0) 0 0 (fun _ => 0) (fun _ => 0))) (fun _ => none) := ⟨RF0, fun k hk hl => absurd hl (nI_pos (by omega)), fun j hj hn => absurd rfl hn⟩
end
