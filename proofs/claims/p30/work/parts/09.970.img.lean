section
set_option maxRecDepth 1000000 in
theorem bw09_970_img_0_e : pickC [1312, 0, 0, 0, 0, 0, 0, 6, 0, 0] lw_tbl = [Cond.instanceMethod yX10_image, Cond.selects RX10 yX10_image yX10_image, Cond.code yX10_image cX10_image 2 (some .boolean), Cond.methodLink RX10 323 yX9_copyFrom, Cond.instanceMethod yX9_copyFrom, Cond.selects RX9 yX9_copyFrom yX9_copyFrom, Cond.code yX9_copyFrom cX9_copyFrom 3 none, Cond.instanceMethod yX10_again, Cond.selects RX10 yX10_again yX10_again, Cond.code yX10_again cX10_again 2 (some .boolean)] := rfl
theorem bw09_970_img_0 : ∀ (i : Nat) (w : Cond), ([Cond.instanceMethod yX10_image, Cond.selects RX10 yX10_image yX10_image, Cond.code yX10_image cX10_image 2 (some .boolean), Cond.methodLink RX10 323 yX9_copyFrom, Cond.instanceMethod yX9_copyFrom, Cond.selects RX9 yX9_copyFrom yX9_copyFrom, Cond.code yX9_copyFrom cX9_copyFrom 3 none, Cond.instanceMethod yX10_again, Cond.selects RX10 yX10_again yX10_again, Cond.code yX10_again cX10_again 2 (some .boolean)] : List Cond)[i]? = some w → w ∈ zb := fun i w e => pick_zb bw09_970_img_0_e (by decide +kernel) w (List.mem_of_getElem? e)
theorem kin_X10_image : Cond.instanceMethod yX10_image ∈ zb := bw09_970_img_0 0 _ rfl
theorem kse_X10_image : Cond.selects RX10 yX10_image yX10_image ∈ zb := bw09_970_img_0 1 _ rfl
theorem kcode_X10_image : Cond.code yX10_image cX10_image 2 (some .boolean) ∈ zb := bw09_970_img_0 2 _ rfl
theorem km_10_323 : Cond.methodLink RX10 323 yX9_copyFrom ∈ zb := bw09_970_img_0 3 _ rfl
theorem kin_X9_copyFrom : Cond.instanceMethod yX9_copyFrom ∈ zb := bw09_970_img_0 4 _ rfl
theorem kse_X9_copyFrom : Cond.selects RX9 yX9_copyFrom yX9_copyFrom ∈ zb := bw09_970_img_0 5 _ rfl
theorem kcode_X9_copyFrom : Cond.code yX9_copyFrom cX9_copyFrom 3 none ∈ zb := bw09_970_img_0 6 _ rfl
theorem kin_X10_again : Cond.instanceMethod yX10_again ∈ zb := bw09_970_img_0 7 _ rfl
theorem kse_X10_again : Cond.selects RX10 yX10_again yX10_again ∈ zb := bw09_970_img_0 8 _ rfl
theorem kcode_X10_again : Cond.code yX10_again cX10_again 2 (some .boolean) ∈ zb := bw09_970_img_0 9 _ rfl
theorem ky_X10_image : zY RX10 yX10_image (Cond.code yX10_image cX10_image 2 (some .boolean)) 1 := ⟨rfl, kinit_10, kcode_X10_image, kyn_RX10.1, kyn_RX10.2, kyd_12⟩
theorem kz_X10_image : Cond.instanceMethod yX10_image ∈ zb ∧ Cond.selects RX10 yX10_image yX10_image ∈ zb := ⟨kin_X10_image, kse_X10_image⟩
theorem ky_X10_again : zY RX10 yX10_again (Cond.code yX10_again cX10_again 2 (some .boolean)) 1 := ⟨rfl, kinit_10, kcode_X10_again, kyn_RX10.1, kyn_RX10.2, kyd_12⟩
theorem kz_X10_again : Cond.instanceMethod yX10_again ∈ zb ∧ Cond.selects RX10 yX10_again yX10_again ∈ zb := ⟨kin_X10_again, kse_X10_again⟩
theorem ky_X9_copyFrom : zY RX9 yX9_copyFrom (Cond.code yX9_copyFrom cX9_copyFrom 3 none) 1 := ⟨rfl, kinit_9, kcode_X9_copyFrom, kyn_RX9.1, kyn_RX9.2, kyd_60⟩
theorem kz_X9_copyFrom : Cond.instanceMethod yX9_copyFrom ∈ zb ∧ Cond.selects RX9 yX9_copyFrom yX9_copyFrom ∈ zb := ⟨kin_X9_copyFrom, kse_X9_copyFrom⟩
set_option maxRecDepth 40000 in
theorem wx_kp {E : zE} {qx : Nat} {ta_tape : Nat → Int32} {tf_length : Int32} {tf_fault : Int32} {tf_place : Int32} {ta_counts : Nat → Int32} {tl0f_huts : Int32} {tl0f_singers : Int32} {tl0f_villages : Int32} {tl0f_dams : Int32} {tl0f_echoes : Int32} {tl0f_deep : Int32} {tl0f_slide : Int32} {tl0a_heights : Nat → Int32} {tl0a_ladders : Nat → Int32} {tl0a_minutes : Nat → Int32} {tl0a_echoFrom : Nat → Int32} {tl0a_echoTo : Nat → Int32} {tl0a_homes : Nat → Int32} {tl0a_talls : Nat → Int32} {tl0a_known : Nat → Int32} {tl1f_huts : Int32} {tl1f_singers : Int32} {tl1f_villages : Int32} {tl1f_dams : Int32} {tl1f_echoes : Int32} {tl1f_deep : Int32} {tl1f_slide : Int32} {tl1a_heights : Nat → Int32} {tl1a_ladders : Nat → Int32} {tl1a_minutes : Nat → Int32} {tl1a_echoFrom : Nat → Int32} {tl1a_echoTo : Nat → Int32} {tl1a_homes : Nat → Int32} {tl1a_talls : Nat → Int32} {tl1a_known : Nat → Int32} {tv0f_deeds : Int32} {tv0a_kinds : Nat → Int32} {tv0a_firsts : Nat → Int32} {tv0a_seconds : Nat → Int32} {tv1f_deeds : Int32} {tv1a_kinds : Nat → Int32} {tv1a_firsts : Nat → Int32} {tv1a_seconds : Nat → Int32} {ts0f_facts : Int32} {ts0a_heard : Nat → Int32} {ts0a_huts : Nat → Int32} {ts0a_minutes : Nat → Int32} {ts1f_facts : Int32} {ts1a_heard : Nat → Int32} {ts1a_huts : Nat → Int32} {ts1a_minutes : Nat → Int32} {tc0f_voices : Int32} {tc0f_step : Int32} {tc0a_parts : Nat → Int32} {tc0a_heights : Nat → Int32} {tc1f_voices : Int32} {tc1f_step : Int32} {tc1a_parts : Nat → Int32} {tc1a_heights : Nat → Int32} {m_images : Nat → Option Nat} {rlf_huts : Int32} {rlf_singers : Int32} {rlf_villages : Int32} {rlf_dams : Int32} {rlf_echoes : Int32} {rlf_deep : Int32} {rlf_slide : Int32} {rla_heights : Nat → Int32} {rla_ladders : Nat → Int32} {rla_minutes : Nat → Int32} {rla_echoFrom : Nat → Int32} {rla_echoTo : Nat → Int32} {rla_homes : Nat → Int32} {rla_talls : Nat → Int32} {rla_known : Nat → Int32} {rvf_deeds : Int32} {rva_kinds : Nat → Int32} {rva_firsts : Nat → Int32} {rva_seconds : Nat → Int32} {rsf_facts : Int32} {rsa_heard : Nat → Int32} {rsa_huts : Nat → Int32} {rsa_minutes : Nat → Int32} {rcf_voices : Int32} {rcf_step : Int32} {rca_parts : Nat → Int32} {rca_heights : Nat → Int32} {rf_fault : Int32} {rf_faultPlace : Int32} {ra_numbers : Nat → Int32} {ra_tape : Nat → Int32} {rf_length : Int32} {rf_behind : Int32} {rf_kind : Int32} {rf_first : Int32} {rf_value : Int32} {rf_hutsToldOf : Int32} {rf_singersToldOf : Int32} {nf_minute : Int32} {nf_avalanches : Int32} {nf_begun : Int32} {nf_climbed : Int32} {nf_seed : Int32} {na_huts : Nat → Int32} {na_known : Nat → Int32} {na_levels : Nat → Int32} {na_snow : Nat → Int32} {na_open : Nat → Int32} {pa_heard : Nat → Int32} {pa_walked : Nat → Int32} {pa_total : Nat → Int32} {pa_longest : Nat → Int32} {pa_next : Nat → Int32} {pa_cover : Nat → Int32} {pa_now : Nat → Int32} {pa_then : Nat → Int32} {ko_stands : Option Nat} {ka_gaps : Nat → Int32} {ka_behind : Nat → Int32} {ba_less : Nat → Int32} {ba_full : Nat → Int32} {H H1 : Heap} (h : wxW E qx ta_tape tf_length tf_fault tf_place ta_counts tl0f_huts tl0f_singers tl0f_villages tl0f_dams tl0f_echoes tl0f_deep tl0f_slide tl0a_heights tl0a_ladders tl0a_minutes tl0a_echoFrom tl0a_echoTo tl0a_homes tl0a_talls tl0a_known tl1f_huts tl1f_singers tl1f_villages tl1f_dams tl1f_echoes tl1f_deep tl1f_slide tl1a_heights tl1a_ladders tl1a_minutes tl1a_echoFrom tl1a_echoTo tl1a_homes tl1a_talls tl1a_known tv0f_deeds tv0a_kinds tv0a_firsts tv0a_seconds tv1f_deeds tv1a_kinds tv1a_firsts tv1a_seconds ts0f_facts ts0a_heard ts0a_huts ts0a_minutes ts1f_facts ts1a_heard ts1a_huts ts1a_minutes tc0f_voices tc0f_step tc0a_parts tc0a_heights tc1f_voices tc1f_step tc1a_parts tc1a_heights m_images rlf_huts rlf_singers rlf_villages rlf_dams rlf_echoes rlf_deep rlf_slide rla_heights rla_ladders rla_minutes rla_echoFrom rla_echoTo rla_homes rla_talls rla_known rvf_deeds rva_kinds rva_firsts rva_seconds rsf_facts rsa_heard rsa_huts rsa_minutes rcf_voices rcf_step rca_parts rca_heights rf_fault rf_faultPlace ra_numbers ra_tape rf_length rf_behind rf_kind rf_first rf_value rf_hutsToldOf rf_singersToldOf nf_minute nf_avalanches nf_begun nf_climbed nf_seed na_huts na_known na_levels na_snow na_open pa_heard pa_walked pa_total pa_longest pa_next pa_cover pa_now pa_then ko_stands ka_gaps ka_behind ba_less ba_full H) (hk : ∀ z : Nat, z < H.size → qx ≤ z → z < qx + 93 → H1[z]? = H[z]?) : wxW E qx ta_tape tf_length tf_fault tf_place ta_counts tl0f_huts tl0f_singers tl0f_villages tl0f_dams tl0f_echoes tl0f_deep tl0f_slide tl0a_heights tl0a_ladders tl0a_minutes tl0a_echoFrom tl0a_echoTo tl0a_homes tl0a_talls tl0a_known tl1f_huts tl1f_singers tl1f_villages tl1f_dams tl1f_echoes tl1f_deep tl1f_slide tl1a_heights tl1a_ladders tl1a_minutes tl1a_echoFrom tl1a_echoTo tl1a_homes tl1a_talls tl1a_known tv0f_deeds tv0a_kinds tv0a_firsts tv0a_seconds tv1f_deeds tv1a_kinds tv1a_firsts tv1a_seconds ts0f_facts ts0a_heard ts0a_huts ts0a_minutes ts1f_facts ts1a_heard ts1a_huts ts1a_minutes tc0f_voices tc0f_step tc0a_parts tc0a_heights tc1f_voices tc1f_step tc1a_parts tc1a_heights m_images rlf_huts rlf_singers rlf_villages rlf_dams rlf_echoes rlf_deep rlf_slide rla_heights rla_ladders rla_minutes rla_echoFrom rla_echoTo rla_homes rla_talls rla_known rvf_deeds rva_kinds rva_firsts rva_seconds rsf_facts rsa_heard rsa_huts rsa_minutes rcf_voices rcf_step rca_parts rca_heights rf_fault rf_faultPlace ra_numbers ra_tape rf_length rf_behind rf_kind rf_first rf_value rf_hutsToldOf rf_singersToldOf nf_minute nf_avalanches nf_begun nf_climbed nf_seed na_huts na_known na_levels na_snow na_open pa_heard pa_walked pa_total pa_longest pa_next pa_cover pa_now pa_then ko_stands ka_gaps ka_behind ba_less ba_full H1 := zkp h (zRg_of (by rfl)) hk
set_option maxRecDepth 40000 in
theorem m_kp {E : zE} {q : Nat} {f_code : Int32} {a_tape : Nat → Int32} {a_size : Nat → Int32} {a_fault : Nat → Int32} {a_faultPlace : Nat → Int32} {a_many : Nat → Int32} {a_lands : Nat → Int32} {a_evenings : Nat → Int32} {a_sights : Nat → Int32} {a_choirs : Nat → Int32} {f_reached : Int32} {f_length : Int32} {f_begins : Int32} {f_sort : Int32} {f_value : Int32} {f_word : Int64} {f_wrongAt : Int32} {f_laterFault : Int32} {f_laterPlace : Int32} {a_told : Nat → Int32} {a_read : Nat → Int32} {f_farHut : Int32} {f_farSinger : Int32} {f_good : Int32} {f_land : Int32} {f_huts : Int32} {f_singers : Int32} {f_evening : Int32} {a_at : Nat → Int32} {a_knows : Nat → Int32} {a_climbed : Nat → Int32} {a_snow : Nat → Int32} {a_level : Nat → Int32} {f_begun : Int32} {f_minute : Int32} {f_avalanches : Int32} {a_run : Nat → Int32} {a_covers : Nat → Int32} {a_routes : Nat → Int32} {a_longest : Nat → Int32} {a_steep : Nat → Int32} {a_laid : Nat → Int32} {a_far : Nat → Int32} {f_sight : Int32} {a_runs : Nat → Int32} {f_choir : Int32} {f_voices : Int32} {a_rest : Nat → Int64} {a_wins : Nat → Int32} {f_seed : Int32} {a_other : Nat → Int32} {a_kept : Nat → Int32} {H H1 : Heap} (h : mW E q f_code a_tape a_size a_fault a_faultPlace a_many a_lands a_evenings a_sights a_choirs f_reached f_length f_begins f_sort f_value f_word f_wrongAt f_laterFault f_laterPlace a_told a_read f_farHut f_farSinger f_good f_land f_huts f_singers f_evening a_at a_knows a_climbed a_snow a_level f_begun f_minute f_avalanches a_run a_covers a_routes a_longest a_steep a_laid a_far f_sight a_runs f_choir f_voices a_rest a_wins f_seed a_other a_kept H) (hk : ∀ z : Nat, z < H.size → q ≤ z → z < q + 29 → H1[z]? = H[z]?) : mW E q f_code a_tape a_size a_fault a_faultPlace a_many a_lands a_evenings a_sights a_choirs f_reached f_length f_begins f_sort f_value f_word f_wrongAt f_laterFault f_laterPlace a_told a_read f_farHut f_farSinger f_good f_land f_huts f_singers f_evening a_at a_knows a_climbed a_snow a_level f_begun f_minute f_avalanches a_run a_covers a_routes a_longest a_steep a_laid a_far f_sight a_runs f_choir f_voices a_rest a_wins f_seed a_other a_kept H1 := zkp h (zRg_of (by rfl)) hk
set_option maxRecDepth 40000 in
theorem wt_kp {E : zE} {qt : Nat} {a_tape : Nat → Int32} {f_length : Int32} {f_fault : Int32} {f_place : Int32} {a_counts : Nat → Int32} {l0f_huts : Int32} {l0f_singers : Int32} {l0f_villages : Int32} {l0f_dams : Int32} {l0f_echoes : Int32} {l0f_deep : Int32} {l0f_slide : Int32} {l0a_heights : Nat → Int32} {l0a_ladders : Nat → Int32} {l0a_minutes : Nat → Int32} {l0a_echoFrom : Nat → Int32} {l0a_echoTo : Nat → Int32} {l0a_homes : Nat → Int32} {l0a_talls : Nat → Int32} {l0a_known : Nat → Int32} {l1f_huts : Int32} {l1f_singers : Int32} {l1f_villages : Int32} {l1f_dams : Int32} {l1f_echoes : Int32} {l1f_deep : Int32} {l1f_slide : Int32} {l1a_heights : Nat → Int32} {l1a_ladders : Nat → Int32} {l1a_minutes : Nat → Int32} {l1a_echoFrom : Nat → Int32} {l1a_echoTo : Nat → Int32} {l1a_homes : Nat → Int32} {l1a_talls : Nat → Int32} {l1a_known : Nat → Int32} {v0f_deeds : Int32} {v0a_kinds : Nat → Int32} {v0a_firsts : Nat → Int32} {v0a_seconds : Nat → Int32} {v1f_deeds : Int32} {v1a_kinds : Nat → Int32} {v1a_firsts : Nat → Int32} {v1a_seconds : Nat → Int32} {s0f_facts : Int32} {s0a_heard : Nat → Int32} {s0a_huts : Nat → Int32} {s0a_minutes : Nat → Int32} {s1f_facts : Int32} {s1a_heard : Nat → Int32} {s1a_huts : Nat → Int32} {s1a_minutes : Nat → Int32} {c0f_voices : Int32} {c0f_step : Int32} {c0a_parts : Nat → Int32} {c0a_heights : Nat → Int32} {c1f_voices : Int32} {c1f_step : Int32} {c1a_parts : Nat → Int32} {c1a_heights : Nat → Int32} {H H1 : Heap} (h : wtW E qt a_tape f_length f_fault f_place a_counts l0f_huts l0f_singers l0f_villages l0f_dams l0f_echoes l0f_deep l0f_slide l0a_heights l0a_ladders l0a_minutes l0a_echoFrom l0a_echoTo l0a_homes l0a_talls l0a_known l1f_huts l1f_singers l1f_villages l1f_dams l1f_echoes l1f_deep l1f_slide l1a_heights l1a_ladders l1a_minutes l1a_echoFrom l1a_echoTo l1a_homes l1a_talls l1a_known v0f_deeds v0a_kinds v0a_firsts v0a_seconds v1f_deeds v1a_kinds v1a_firsts v1a_seconds s0f_facts s0a_heard s0a_huts s0a_minutes s1f_facts s1a_heard s1a_huts s1a_minutes c0f_voices c0f_step c0a_parts c0a_heights c1f_voices c1f_step c1a_parts c1a_heights H) (hk : ∀ z : Nat, z < H.size → qt ≤ z → z < qt + 47 → H1[z]? = H[z]?) : wtW E qt a_tape f_length f_fault f_place a_counts l0f_huts l0f_singers l0f_villages l0f_dams l0f_echoes l0f_deep l0f_slide l0a_heights l0a_ladders l0a_minutes l0a_echoFrom l0a_echoTo l0a_homes l0a_talls l0a_known l1f_huts l1f_singers l1f_villages l1f_dams l1f_echoes l1f_deep l1f_slide l1a_heights l1a_ladders l1a_minutes l1a_echoFrom l1a_echoTo l1a_homes l1a_talls l1a_known v0f_deeds v0a_kinds v0a_firsts v0a_seconds v1f_deeds v1a_kinds v1a_firsts v1a_seconds s0f_facts s0a_heard s0a_huts s0a_minutes s1f_facts s1a_heard s1a_huts s1a_minutes c0f_voices c0f_step c0a_parts c0a_heights c1f_voices c1f_step c1a_parts c1a_heights H1 := zkp h (zRg_of (by rfl)) hk
def tG (a_tape : Nat → Int32) (f_length : Int32) (f_fault : Int32) (f_place : Int32) (a_counts : Nat → Int32) (l0f_huts : Int32) (l0f_singers : Int32) (l0f_villages : Int32) (l0f_dams : Int32) (l0f_echoes : Int32) (l0f_deep : Int32) (l0f_slide : Int32) (l0a_heights : Nat → Int32) (l0a_ladders : Nat → Int32) (l0a_minutes : Nat → Int32) (l0a_echoFrom : Nat → Int32) (l0a_echoTo : Nat → Int32) (l0a_homes : Nat → Int32) (l0a_talls : Nat → Int32) (l0a_known : Nat → Int32) (l1f_huts : Int32) (l1f_singers : Int32) (l1f_villages : Int32) (l1f_dams : Int32) (l1f_echoes : Int32) (l1f_deep : Int32) (l1f_slide : Int32) (l1a_heights : Nat → Int32) (l1a_ladders : Nat → Int32) (l1a_minutes : Nat → Int32) (l1a_echoFrom : Nat → Int32) (l1a_echoTo : Nat → Int32) (l1a_homes : Nat → Int32) (l1a_talls : Nat → Int32) (l1a_known : Nat → Int32) (v0f_deeds : Int32) (v0a_kinds : Nat → Int32) (v0a_firsts : Nat → Int32) (v0a_seconds : Nat → Int32) (v1f_deeds : Int32) (v1a_kinds : Nat → Int32) (v1a_firsts : Nat → Int32) (v1a_seconds : Nat → Int32) (s0f_facts : Int32) (s0a_heard : Nat → Int32) (s0a_huts : Nat → Int32) (s0a_minutes : Nat → Int32) (s1f_facts : Int32) (s1a_heard : Nat → Int32) (s1a_huts : Nat → Int32) (s1a_minutes : Nat → Int32) (c0f_voices : Int32) (c0f_step : Int32) (c0a_parts : Nat → Int32) (c0a_heights : Nat → Int32) (c1f_voices : Int32) (c1f_step : Int32) (c1a_parts : Nat → Int32) (c1a_heights : Nat → Int32) : Prop := (∀ j, iv (-128) 127 (a_tape j)) ∧ (iv 0 600 f_length) ∧ (iv 0 4 f_fault) ∧ (iv (-1) 600 f_place) ∧ (∀ j, iv 0 2 (a_counts j)) ∧ (iv 0 9 l0f_huts) ∧ (iv 0 6 l0f_singers) ∧ (iv 0 511 l0f_villages) ∧ (iv 0 511 l0f_dams) ∧ (iv 0 4 l0f_echoes) ∧ (iv 1 9 l0f_deep) ∧ (iv 0 10 l0f_slide) ∧ (∀ j, iv 0 99 (l0a_heights j)) ∧ (∀ j, iv 0 9 (l0a_ladders j)) ∧ (∀ j, iv 0 9 (l0a_minutes j)) ∧ (∀ j, iv 0 8 (l0a_echoFrom j)) ∧ (∀ j, iv 0 8 (l0a_echoTo j)) ∧ (∀ j, iv 0 8 (l0a_homes j)) ∧ (∀ j, iv 0 9 (l0a_talls j)) ∧ (∀ j, iv 0 31 (l0a_known j)) ∧ (iv 0 9 l1f_huts) ∧ (iv 0 6 l1f_singers) ∧ (iv 0 511 l1f_villages) ∧ (iv 0 511 l1f_dams) ∧ (iv 0 4 l1f_echoes) ∧ (iv 1 9 l1f_deep) ∧ (iv 0 10 l1f_slide) ∧ (∀ j, iv 0 99 (l1a_heights j)) ∧ (∀ j, iv 0 9 (l1a_ladders j)) ∧ (∀ j, iv 0 9 (l1a_minutes j)) ∧ (∀ j, iv 0 8 (l1a_echoFrom j)) ∧ (∀ j, iv 0 8 (l1a_echoTo j)) ∧ (∀ j, iv 0 8 (l1a_homes j)) ∧ (∀ j, iv 0 9 (l1a_talls j)) ∧ (∀ j, iv 0 31 (l1a_known j)) ∧ (iv 0 40 v0f_deeds) ∧ (∀ j, iv 0 5 (v0a_kinds j)) ∧ (∀ j, iv 0 5 (v0a_firsts j)) ∧ (∀ j, iv (-1) 8 (v0a_seconds j)) ∧ (iv 0 40 v1f_deeds) ∧ (∀ j, iv 0 5 (v1a_kinds j)) ∧ (∀ j, iv 0 5 (v1a_firsts j)) ∧ (∀ j, iv (-1) 8 (v1a_seconds j)) ∧ (iv 0 10 s0f_facts) ∧ (∀ j, iv 0 1 (s0a_heard j)) ∧ (∀ j, iv 0 8 (s0a_huts j)) ∧ (∀ j, iv 0 60 (s0a_minutes j)) ∧ (iv 0 10 s1f_facts) ∧ (∀ j, iv 0 1 (s1a_heard j)) ∧ (∀ j, iv 0 8 (s1a_huts j)) ∧ (∀ j, iv 0 60 (s1a_minutes j)) ∧ (iv 0 9 c0f_voices) ∧ (iv 0 9 c0f_step) ∧ (∀ j, iv 0 3 (c0a_parts j)) ∧ (∀ j, iv 0 9 (c0a_heights j)) ∧ (iv 0 9 c1f_voices) ∧ (iv 0 9 c1f_step) ∧ (∀ j, iv 0 3 (c1a_parts j)) ∧ (∀ j, iv 0 9 (c1a_heights j))
theorem tG_copy {a_tape : Nat → Int32} {f_length : Int32} {f_fault : Int32} {f_place : Int32} {a_counts : Nat → Int32} {l0f_huts : Int32} {l0f_singers : Int32} {l0f_villages : Int32} {l0f_dams : Int32} {l0f_echoes : Int32} {l0f_deep : Int32} {l0f_slide : Int32} {l0a_heights : Nat → Int32} {l0a_ladders : Nat → Int32} {l0a_minutes : Nat → Int32} {l0a_echoFrom : Nat → Int32} {l0a_echoTo : Nat → Int32} {l0a_homes : Nat → Int32} {l0a_talls : Nat → Int32} {l0a_known : Nat → Int32} {l1f_huts : Int32} {l1f_singers : Int32} {l1f_villages : Int32} {l1f_dams : Int32} {l1f_echoes : Int32} {l1f_deep : Int32} {l1f_slide : Int32} {l1a_heights : Nat → Int32} {l1a_ladders : Nat → Int32} {l1a_minutes : Nat → Int32} {l1a_echoFrom : Nat → Int32} {l1a_echoTo : Nat → Int32} {l1a_homes : Nat → Int32} {l1a_talls : Nat → Int32} {l1a_known : Nat → Int32} {v0f_deeds : Int32} {v0a_kinds : Nat → Int32} {v0a_firsts : Nat → Int32} {v0a_seconds : Nat → Int32} {v1f_deeds : Int32} {v1a_kinds : Nat → Int32} {v1a_firsts : Nat → Int32} {v1a_seconds : Nat → Int32} {s0f_facts : Int32} {s0a_heard : Nat → Int32} {s0a_huts : Nat → Int32} {s0a_minutes : Nat → Int32} {s1f_facts : Int32} {s1a_heard : Nat → Int32} {s1a_huts : Nat → Int32} {s1a_minutes : Nat → Int32} {c0f_voices : Int32} {c0f_step : Int32} {c0a_parts : Nat → Int32} {c0a_heights : Nat → Int32} {c1f_voices : Int32} {c1f_step : Int32} {c1a_parts : Nat → Int32} {c1a_heights : Nat → Int32} {oa_tape : Nat → Int32} {of_length : Int32} {of_fault : Int32} {of_place : Int32} {oa_counts : Nat → Int32} {ol0f_huts : Int32} {ol0f_singers : Int32} {ol0f_villages : Int32} {ol0f_dams : Int32} {ol0f_echoes : Int32} {ol0f_deep : Int32} {ol0f_slide : Int32} {ol0a_heights : Nat → Int32} {ol0a_ladders : Nat → Int32} {ol0a_minutes : Nat → Int32} {ol0a_echoFrom : Nat → Int32} {ol0a_echoTo : Nat → Int32} {ol0a_homes : Nat → Int32} {ol0a_talls : Nat → Int32} {ol0a_known : Nat → Int32} {ol1f_huts : Int32} {ol1f_singers : Int32} {ol1f_villages : Int32} {ol1f_dams : Int32} {ol1f_echoes : Int32} {ol1f_deep : Int32} {ol1f_slide : Int32} {ol1a_heights : Nat → Int32} {ol1a_ladders : Nat → Int32} {ol1a_minutes : Nat → Int32} {ol1a_echoFrom : Nat → Int32} {ol1a_echoTo : Nat → Int32} {ol1a_homes : Nat → Int32} {ol1a_talls : Nat → Int32} {ol1a_known : Nat → Int32} {ov0f_deeds : Int32} {ov0a_kinds : Nat → Int32} {ov0a_firsts : Nat → Int32} {ov0a_seconds : Nat → Int32} {ov1f_deeds : Int32} {ov1a_kinds : Nat → Int32} {ov1a_firsts : Nat → Int32} {ov1a_seconds : Nat → Int32} {os0f_facts : Int32} {os0a_heard : Nat → Int32} {os0a_huts : Nat → Int32} {os0a_minutes : Nat → Int32} {os1f_facts : Int32} {os1a_heard : Nat → Int32} {os1a_huts : Nat → Int32} {os1a_minutes : Nat → Int32} {oc0f_voices : Int32} {oc0f_step : Int32} {oc0a_parts : Nat → Int32} {oc0a_heights : Nat → Int32} {oc1f_voices : Int32} {oc1f_step : Int32} {oc1a_parts : Nat → Int32} {oc1a_heights : Nat → Int32} {post : (Nat → Int32) → (Int32) → (Int32) → (Int32) → (Nat → Int32) → (Int32) → (Int32) → (Int32) → (Int32) → (Int32) → (Int32) → (Int32) → (Nat → Int32) → (Nat → Int32) → (Nat → Int32) → (Nat → Int32) → (Nat → Int32) → (Nat → Int32) → (Nat → Int32) → (Nat → Int32) → (Int32) → (Int32) → (Int32) → (Int32) → (Int32) → (Int32) → (Int32) → (Nat → Int32) → (Nat → Int32) → (Nat → Int32) → (Nat → Int32) → (Nat → Int32) → (Nat → Int32) → (Nat → Int32) → (Nat → Int32) → (Int32) → (Nat → Int32) → (Nat → Int32) → (Nat → Int32) → (Int32) → (Nat → Int32) → (Nat → Int32) → (Nat → Int32) → (Int32) → (Nat → Int32) → (Nat → Int32) → (Nat → Int32) → (Int32) → (Nat → Int32) → (Nat → Int32) → (Nat → Int32) → (Int32) → (Int32) → (Nat → Int32) → (Nat → Int32) → (Int32) → (Int32) → (Nat → Int32) → (Nat → Int32) → Prop} (hT : tG a_tape f_length f_fault f_place a_counts l0f_huts l0f_singers l0f_villages l0f_dams l0f_echoes l0f_deep l0f_slide l0a_heights l0a_ladders l0a_minutes l0a_echoFrom l0a_echoTo l0a_homes l0a_talls l0a_known l1f_huts l1f_singers l1f_villages l1f_dams l1f_echoes l1f_deep l1f_slide l1a_heights l1a_ladders l1a_minutes l1a_echoFrom l1a_echoTo l1a_homes l1a_talls l1a_known v0f_deeds v0a_kinds v0a_firsts v0a_seconds v1f_deeds v1a_kinds v1a_firsts v1a_seconds s0f_facts s0a_heard s0a_huts s0a_minutes s1f_facts s1a_heard s1a_huts s1a_minutes c0f_voices c0f_step c0a_parts c0a_heights c1f_voices c1f_step c1a_parts c1a_heights) (hO : tG oa_tape of_length of_fault of_place oa_counts ol0f_huts ol0f_singers ol0f_villages ol0f_dams ol0f_echoes ol0f_deep ol0f_slide ol0a_heights ol0a_ladders ol0a_minutes ol0a_echoFrom ol0a_echoTo ol0a_homes ol0a_talls ol0a_known ol1f_huts ol1f_singers ol1f_villages ol1f_dams ol1f_echoes ol1f_deep ol1f_slide ol1a_heights ol1a_ladders ol1a_minutes ol1a_echoFrom ol1a_echoTo ol1a_homes ol1a_talls ol1a_known ov0f_deeds ov0a_kinds ov0a_firsts ov0a_seconds ov1f_deeds ov1a_kinds ov1a_firsts ov1a_seconds os0f_facts os0a_heard os0a_huts os0a_minutes os1f_facts os1a_heard os1a_huts os1a_minutes oc0f_voices oc0f_step oc0a_parts oc0a_heights oc1f_voices oc1f_step oc1a_parts oc1a_heights) (hpost : ∀ (na_tape : Nat → Int32) (nf_length : Int32) (nf_fault : Int32) (nf_place : Int32) (na_counts : Nat → Int32) (nl0f_huts : Int32) (nl0f_singers : Int32) (nl0f_villages : Int32) (nl0f_dams : Int32) (nl0f_echoes : Int32) (nl0f_deep : Int32) (nl0f_slide : Int32) (nl0a_heights : Nat → Int32) (nl0a_ladders : Nat → Int32) (nl0a_minutes : Nat → Int32) (nl0a_echoFrom : Nat → Int32) (nl0a_echoTo : Nat → Int32) (nl0a_homes : Nat → Int32) (nl0a_talls : Nat → Int32) (nl0a_known : Nat → Int32) (nl1f_huts : Int32) (nl1f_singers : Int32) (nl1f_villages : Int32) (nl1f_dams : Int32) (nl1f_echoes : Int32) (nl1f_deep : Int32) (nl1f_slide : Int32) (nl1a_heights : Nat → Int32) (nl1a_ladders : Nat → Int32) (nl1a_minutes : Nat → Int32) (nl1a_echoFrom : Nat → Int32) (nl1a_echoTo : Nat → Int32) (nl1a_homes : Nat → Int32) (nl1a_talls : Nat → Int32) (nl1a_known : Nat → Int32) (nv0f_deeds : Int32) (nv0a_kinds : Nat → Int32) (nv0a_firsts : Nat → Int32) (nv0a_seconds : Nat → Int32) (nv1f_deeds : Int32) (nv1a_kinds : Nat → Int32) (nv1a_firsts : Nat → Int32) (nv1a_seconds : Nat → Int32) (ns0f_facts : Int32) (ns0a_heard : Nat → Int32) (ns0a_huts : Nat → Int32) (ns0a_minutes : Nat → Int32) (ns1f_facts : Int32) (ns1a_heard : Nat → Int32) (ns1a_huts : Nat → Int32) (ns1a_minutes : Nat → Int32) (nc0f_voices : Int32) (nc0f_step : Int32) (nc0a_parts : Nat → Int32) (nc0a_heights : Nat → Int32) (nc1f_voices : Int32) (nc1f_step : Int32) (nc1a_parts : Nat → Int32) (nc1a_heights : Nat → Int32), tG na_tape nf_length nf_fault nf_place na_counts nl0f_huts nl0f_singers nl0f_villages nl0f_dams nl0f_echoes nl0f_deep nl0f_slide nl0a_heights nl0a_ladders nl0a_minutes nl0a_echoFrom nl0a_echoTo nl0a_homes nl0a_talls nl0a_known nl1f_huts nl1f_singers nl1f_villages nl1f_dams nl1f_echoes nl1f_deep nl1f_slide nl1a_heights nl1a_ladders nl1a_minutes nl1a_echoFrom nl1a_echoTo nl1a_homes nl1a_talls nl1a_known nv0f_deeds nv0a_kinds nv0a_firsts nv0a_seconds nv1f_deeds nv1a_kinds nv1a_firsts nv1a_seconds ns0f_facts ns0a_heard ns0a_huts ns0a_minutes ns1f_facts ns1a_heard ns1a_huts ns1a_minutes nc0f_voices nc0f_step nc0a_parts nc0a_heights nc1f_voices nc1f_step nc1a_parts nc1a_heights → post na_tape nf_length nf_fault nf_place na_counts nl0f_huts nl0f_singers nl0f_villages nl0f_dams nl0f_echoes nl0f_deep nl0f_slide nl0a_heights nl0a_ladders nl0a_minutes nl0a_echoFrom nl0a_echoTo nl0a_homes nl0a_talls nl0a_known nl1f_huts nl1f_singers nl1f_villages nl1f_dams nl1f_echoes nl1f_deep nl1f_slide nl1a_heights nl1a_ladders nl1a_minutes nl1a_echoFrom nl1a_echoTo nl1a_homes nl1a_talls nl1a_known nv0f_deeds nv0a_kinds nv0a_firsts nv0a_seconds nv1f_deeds nv1a_kinds nv1a_firsts nv1a_seconds ns0f_facts ns0a_heard ns0a_huts ns0a_minutes ns1f_facts ns1a_heard ns1a_huts ns1a_minutes nc0f_voices nc0f_step nc0a_parts nc0a_heights nc1f_voices nc1f_step nc1a_parts nc1a_heights) : q_wtt_X9_copyFrom_47_0 a_tape f_length f_fault f_place a_counts l0f_huts l0f_singers l0f_villages l0f_dams l0f_echoes l0f_deep l0f_slide l0a_heights l0a_ladders l0a_minutes l0a_echoFrom l0a_echoTo l0a_homes l0a_talls l0a_known l1f_huts l1f_singers l1f_villages l1f_dams l1f_echoes l1f_deep l1f_slide l1a_heights l1a_ladders l1a_minutes l1a_echoFrom l1a_echoTo l1a_homes l1a_talls l1a_known v0f_deeds v0a_kinds v0a_firsts v0a_seconds v1f_deeds v1a_kinds v1a_firsts v1a_seconds s0f_facts s0a_heard s0a_huts s0a_minutes s1f_facts s1a_heard s1a_huts s1a_minutes c0f_voices c0f_step c0a_parts c0a_heights c1f_voices c1f_step c1a_parts c1a_heights oa_tape of_length of_fault of_place oa_counts ol0f_huts ol0f_singers ol0f_villages ol0f_dams ol0f_echoes ol0f_deep ol0f_slide ol0a_heights ol0a_ladders ol0a_minutes ol0a_echoFrom ol0a_echoTo ol0a_homes ol0a_talls ol0a_known ol1f_huts ol1f_singers ol1f_villages ol1f_dams ol1f_echoes ol1f_deep ol1f_slide ol1a_heights ol1a_ladders ol1a_minutes ol1a_echoFrom ol1a_echoTo ol1a_homes ol1a_talls ol1a_known ov0f_deeds ov0a_kinds ov0a_firsts ov0a_seconds ov1f_deeds ov1a_kinds ov1a_firsts ov1a_seconds os0f_facts os0a_heard os0a_huts os0a_minutes os1f_facts os1a_heard os1a_huts os1a_minutes oc0f_voices oc0f_step oc0a_parts oc0a_heights oc1f_voices oc1f_step oc1a_parts oc1a_heights post := by
  obtain ⟨t_a_tape, t_f_length, t_f_fault, t_f_place, t_a_counts, t_l0f_huts, t_l0f_singers, t_l0f_villages, t_l0f_dams, t_l0f_echoes, t_l0f_deep, t_l0f_slide, t_l0a_heights, t_l0a_ladders, t_l0a_minutes, t_l0a_echoFrom, t_l0a_echoTo, t_l0a_homes, t_l0a_talls, t_l0a_known, t_l1f_huts, t_l1f_singers, t_l1f_villages, t_l1f_dams, t_l1f_echoes, t_l1f_deep, t_l1f_slide, t_l1a_heights, t_l1a_ladders, t_l1a_minutes, t_l1a_echoFrom, t_l1a_echoTo, t_l1a_homes, t_l1a_talls, t_l1a_known, t_v0f_deeds, t_v0a_kinds, t_v0a_firsts, t_v0a_seconds, t_v1f_deeds, t_v1a_kinds, t_v1a_firsts, t_v1a_seconds, t_s0f_facts, t_s0a_heard, t_s0a_huts, t_s0a_minutes, t_s1f_facts, t_s1a_heard, t_s1a_huts, t_s1a_minutes, t_c0f_voices, t_c0f_step, t_c0a_parts, t_c0a_heights, t_c1f_voices, t_c1f_step, t_c1a_parts, t_c1a_heights⟩ := hT
  obtain ⟨o_a_tape, o_f_length, o_f_fault, o_f_place, o_a_counts, o_l0f_huts, o_l0f_singers, o_l0f_villages, o_l0f_dams, o_l0f_echoes, o_l0f_deep, o_l0f_slide, o_l0a_heights, o_l0a_ladders, o_l0a_minutes, o_l0a_echoFrom, o_l0a_echoTo, o_l0a_homes, o_l0a_talls, o_l0a_known, o_l1f_huts, o_l1f_singers, o_l1f_villages, o_l1f_dams, o_l1f_echoes, o_l1f_deep, o_l1f_slide, o_l1a_heights, o_l1a_ladders, o_l1a_minutes, o_l1a_echoFrom, o_l1a_echoTo, o_l1a_homes, o_l1a_talls, o_l1a_known, o_v0f_deeds, o_v0a_kinds, o_v0a_firsts, o_v0a_seconds, o_v1f_deeds, o_v1a_kinds, o_v1a_firsts, o_v1a_seconds, o_s0f_facts, o_s0a_heard, o_s0a_huts, o_s0a_minutes, o_s1f_facts, o_s1a_heard, o_s1a_huts, o_s1a_minutes, o_c0f_voices, o_c0f_step, o_c0a_parts, o_c0a_heights, o_c1f_voices, o_c1f_step, o_c1a_parts, o_c1a_heights⟩ := hO
  exact s_wtt_X9_copyFrom_47_0 t_a_tape t_f_length t_f_fault t_f_place t_a_counts t_l0f_huts t_l0f_singers t_l0f_villages t_l0f_dams t_l0f_echoes t_l0f_deep t_l0f_slide t_l0a_heights t_l0a_ladders t_l0a_minutes t_l0a_echoFrom t_l0a_echoTo t_l0a_homes t_l0a_talls t_l0a_known t_l1f_huts t_l1f_singers t_l1f_villages t_l1f_dams t_l1f_echoes t_l1f_deep t_l1f_slide t_l1a_heights t_l1a_ladders t_l1a_minutes t_l1a_echoFrom t_l1a_echoTo t_l1a_homes t_l1a_talls t_l1a_known t_v0f_deeds t_v0a_kinds t_v0a_firsts t_v0a_seconds t_v1f_deeds t_v1a_kinds t_v1a_firsts t_v1a_seconds t_s0f_facts t_s0a_heard t_s0a_huts t_s0a_minutes t_s1f_facts t_s1a_heard t_s1a_huts t_s1a_minutes t_c0f_voices t_c0f_step t_c0a_parts t_c0a_heights t_c1f_voices t_c1f_step t_c1a_parts t_c1a_heights o_a_tape o_f_length o_f_fault o_f_place o_a_counts o_l0f_huts o_l0f_singers o_l0f_villages o_l0f_dams o_l0f_echoes o_l0f_deep o_l0f_slide o_l0a_heights o_l0a_ladders o_l0a_minutes o_l0a_echoFrom o_l0a_echoTo o_l0a_homes o_l0a_talls o_l0a_known o_l1f_huts o_l1f_singers o_l1f_villages o_l1f_dams o_l1f_echoes o_l1f_deep o_l1f_slide o_l1a_heights o_l1a_ladders o_l1a_minutes o_l1a_echoFrom o_l1a_echoTo o_l1a_homes o_l1a_talls o_l1a_known o_v0f_deeds o_v0a_kinds o_v0a_firsts o_v0a_seconds o_v1f_deeds o_v1a_kinds o_v1a_firsts o_v1a_seconds o_s0f_facts o_s0a_heard o_s0a_huts o_s0a_minutes o_s1f_facts o_s1a_heard o_s1a_huts o_s1a_minutes o_c0f_voices o_c0f_step o_c0a_parts o_c0a_heights o_c1f_voices o_c1f_step o_c1a_parts o_c1a_heights (fun na_tape nf_length nf_fault nf_place na_counts nl0f_huts nl0f_singers nl0f_villages nl0f_dams nl0f_echoes nl0f_deep nl0f_slide nl0a_heights nl0a_ladders nl0a_minutes nl0a_echoFrom nl0a_echoTo nl0a_homes nl0a_talls nl0a_known nl1f_huts nl1f_singers nl1f_villages nl1f_dams nl1f_echoes nl1f_deep nl1f_slide nl1a_heights nl1a_ladders nl1a_minutes nl1a_echoFrom nl1a_echoTo nl1a_homes nl1a_talls nl1a_known nv0f_deeds nv0a_kinds nv0a_firsts nv0a_seconds nv1f_deeds nv1a_kinds nv1a_firsts nv1a_seconds ns0f_facts ns0a_heard ns0a_huts ns0a_minutes ns1f_facts ns1a_heard ns1a_huts ns1a_minutes nc0f_voices nc0f_step nc0a_parts nc0a_heights nc1f_voices nc1f_step nc1a_parts nc1a_heights z_a_tape z_f_length z_f_fault z_f_place z_a_counts z_l0f_huts z_l0f_singers z_l0f_villages z_l0f_dams z_l0f_echoes z_l0f_deep z_l0f_slide z_l0a_heights z_l0a_ladders z_l0a_minutes z_l0a_echoFrom z_l0a_echoTo z_l0a_homes z_l0a_talls z_l0a_known z_l1f_huts z_l1f_singers z_l1f_villages z_l1f_dams z_l1f_echoes z_l1f_deep z_l1f_slide z_l1a_heights z_l1a_ladders z_l1a_minutes z_l1a_echoFrom z_l1a_echoTo z_l1a_homes z_l1a_talls z_l1a_known z_v0f_deeds z_v0a_kinds z_v0a_firsts z_v0a_seconds z_v1f_deeds z_v1a_kinds z_v1a_firsts z_v1a_seconds z_s0f_facts z_s0a_heard z_s0a_huts z_s0a_minutes z_s1f_facts z_s1a_heard z_s1a_huts z_s1a_minutes z_c0f_voices z_c0f_step z_c0a_parts z_c0a_heights z_c1f_voices z_c1f_step z_c1a_parts z_c1a_heights => hpost na_tape nf_length nf_fault nf_place na_counts nl0f_huts nl0f_singers nl0f_villages nl0f_dams nl0f_echoes nl0f_deep nl0f_slide nl0a_heights nl0a_ladders nl0a_minutes nl0a_echoFrom nl0a_echoTo nl0a_homes nl0a_talls nl0a_known nl1f_huts nl1f_singers nl1f_villages nl1f_dams nl1f_echoes nl1f_deep nl1f_slide nl1a_heights nl1a_ladders nl1a_minutes nl1a_echoFrom nl1a_echoTo nl1a_homes nl1a_talls nl1a_known nv0f_deeds nv0a_kinds nv0a_firsts nv0a_seconds nv1f_deeds nv1a_kinds nv1a_firsts nv1a_seconds ns0f_facts ns0a_heard ns0a_huts ns0a_minutes ns1f_facts ns1a_heard ns1a_huts ns1a_minutes nc0f_voices nc0f_step nc0a_parts nc0a_heights nc1f_voices nc1f_step nc1a_parts nc1a_heights ⟨z_a_tape, z_f_length, z_f_fault, z_f_place, z_a_counts, z_l0f_huts, z_l0f_singers, z_l0f_villages, z_l0f_dams, z_l0f_echoes, z_l0f_deep, z_l0f_slide, z_l0a_heights, z_l0a_ladders, z_l0a_minutes, z_l0a_echoFrom, z_l0a_echoTo, z_l0a_homes, z_l0a_talls, z_l0a_known, z_l1f_huts, z_l1f_singers, z_l1f_villages, z_l1f_dams, z_l1f_echoes, z_l1f_deep, z_l1f_slide, z_l1a_heights, z_l1a_ladders, z_l1a_minutes, z_l1a_echoFrom, z_l1a_echoTo, z_l1a_homes, z_l1a_talls, z_l1a_known, z_v0f_deeds, z_v0a_kinds, z_v0a_firsts, z_v0a_seconds, z_v1f_deeds, z_v1a_kinds, z_v1a_firsts, z_v1a_seconds, z_s0f_facts, z_s0a_heard, z_s0a_huts, z_s0a_minutes, z_s1f_facts, z_s1a_heard, z_s1a_huts, z_s1a_minutes, z_c0f_voices, z_c0f_step, z_c0a_parts, z_c0a_heights, z_c1f_voices, z_c1f_step, z_c1a_parts, z_c1a_heights⟩)
set_option maxRecDepth 40000 in
set_option maxHeartbeats 4000000 in
theorem xi_x {E : zE} {qx qi : Nat} {ta_tape : Nat → Int32} {tf_length : Int32} {tf_fault : Int32} {tf_place : Int32} {ta_counts : Nat → Int32} {tl0f_huts : Int32} {tl0f_singers : Int32} {tl0f_villages : Int32} {tl0f_dams : Int32} {tl0f_echoes : Int32} {tl0f_deep : Int32} {tl0f_slide : Int32} {tl0a_heights : Nat → Int32} {tl0a_ladders : Nat → Int32} {tl0a_minutes : Nat → Int32} {tl0a_echoFrom : Nat → Int32} {tl0a_echoTo : Nat → Int32} {tl0a_homes : Nat → Int32} {tl0a_talls : Nat → Int32} {tl0a_known : Nat → Int32} {tl1f_huts : Int32} {tl1f_singers : Int32} {tl1f_villages : Int32} {tl1f_dams : Int32} {tl1f_echoes : Int32} {tl1f_deep : Int32} {tl1f_slide : Int32} {tl1a_heights : Nat → Int32} {tl1a_ladders : Nat → Int32} {tl1a_minutes : Nat → Int32} {tl1a_echoFrom : Nat → Int32} {tl1a_echoTo : Nat → Int32} {tl1a_homes : Nat → Int32} {tl1a_talls : Nat → Int32} {tl1a_known : Nat → Int32} {tv0f_deeds : Int32} {tv0a_kinds : Nat → Int32} {tv0a_firsts : Nat → Int32} {tv0a_seconds : Nat → Int32} {tv1f_deeds : Int32} {tv1a_kinds : Nat → Int32} {tv1a_firsts : Nat → Int32} {tv1a_seconds : Nat → Int32} {ts0f_facts : Int32} {ts0a_heard : Nat → Int32} {ts0a_huts : Nat → Int32} {ts0a_minutes : Nat → Int32} {ts1f_facts : Int32} {ts1a_heard : Nat → Int32} {ts1a_huts : Nat → Int32} {ts1a_minutes : Nat → Int32} {tc0f_voices : Int32} {tc0f_step : Int32} {tc0a_parts : Nat → Int32} {tc0a_heights : Nat → Int32} {tc1f_voices : Int32} {tc1f_step : Int32} {tc1a_parts : Nat → Int32} {tc1a_heights : Nat → Int32} {m_images : Nat → Option Nat} {rlf_huts : Int32} {rlf_singers : Int32} {rlf_villages : Int32} {rlf_dams : Int32} {rlf_echoes : Int32} {rlf_deep : Int32} {rlf_slide : Int32} {rla_heights : Nat → Int32} {rla_ladders : Nat → Int32} {rla_minutes : Nat → Int32} {rla_echoFrom : Nat → Int32} {rla_echoTo : Nat → Int32} {rla_homes : Nat → Int32} {rla_talls : Nat → Int32} {rla_known : Nat → Int32} {rvf_deeds : Int32} {rva_kinds : Nat → Int32} {rva_firsts : Nat → Int32} {rva_seconds : Nat → Int32} {rsf_facts : Int32} {rsa_heard : Nat → Int32} {rsa_huts : Nat → Int32} {rsa_minutes : Nat → Int32} {rcf_voices : Int32} {rcf_step : Int32} {rca_parts : Nat → Int32} {rca_heights : Nat → Int32} {rf_fault : Int32} {rf_faultPlace : Int32} {ra_numbers : Nat → Int32} {ra_tape : Nat → Int32} {rf_length : Int32} {rf_behind : Int32} {rf_kind : Int32} {rf_first : Int32} {rf_value : Int32} {rf_hutsToldOf : Int32} {rf_singersToldOf : Int32} {nf_minute : Int32} {nf_avalanches : Int32} {nf_begun : Int32} {nf_climbed : Int32} {nf_seed : Int32} {na_huts : Nat → Int32} {na_known : Nat → Int32} {na_levels : Nat → Int32} {na_snow : Nat → Int32} {na_open : Nat → Int32} {pa_heard : Nat → Int32} {pa_walked : Nat → Int32} {pa_total : Nat → Int32} {pa_longest : Nat → Int32} {pa_next : Nat → Int32} {pa_cover : Nat → Int32} {pa_now : Nat → Int32} {pa_then : Nat → Int32} {ko_stands : Option Nat} {ka_gaps : Nat → Int32} {ka_behind : Nat → Int32} {ba_less : Nat → Int32} {ba_full : Nat → Int32} {ia_tape : Nat → Int32} {if_length : Int32} {if_fault : Int32} {if_place : Int32} {ia_counts : Nat → Int32} {il0f_huts : Int32} {il0f_singers : Int32} {il0f_villages : Int32} {il0f_dams : Int32} {il0f_echoes : Int32} {il0f_deep : Int32} {il0f_slide : Int32} {il0a_heights : Nat → Int32} {il0a_ladders : Nat → Int32} {il0a_minutes : Nat → Int32} {il0a_echoFrom : Nat → Int32} {il0a_echoTo : Nat → Int32} {il0a_homes : Nat → Int32} {il0a_talls : Nat → Int32} {il0a_known : Nat → Int32} {il1f_huts : Int32} {il1f_singers : Int32} {il1f_villages : Int32} {il1f_dams : Int32} {il1f_echoes : Int32} {il1f_deep : Int32} {il1f_slide : Int32} {il1a_heights : Nat → Int32} {il1a_ladders : Nat → Int32} {il1a_minutes : Nat → Int32} {il1a_echoFrom : Nat → Int32} {il1a_echoTo : Nat → Int32} {il1a_homes : Nat → Int32} {il1a_talls : Nat → Int32} {il1a_known : Nat → Int32} {iv0f_deeds : Int32} {iv0a_kinds : Nat → Int32} {iv0a_firsts : Nat → Int32} {iv0a_seconds : Nat → Int32} {iv1f_deeds : Int32} {iv1a_kinds : Nat → Int32} {iv1a_firsts : Nat → Int32} {iv1a_seconds : Nat → Int32} {is0f_facts : Int32} {is0a_heard : Nat → Int32} {is0a_huts : Nat → Int32} {is0a_minutes : Nat → Int32} {is1f_facts : Int32} {is1a_heard : Nat → Int32} {is1a_huts : Nat → Int32} {is1a_minutes : Nat → Int32} {ic0f_voices : Int32} {ic0f_step : Int32} {ic0a_parts : Nat → Int32} {ic0a_heights : Nat → Int32} {ic1f_voices : Int32} {ic1f_step : Int32} {ic1a_parts : Nat → Int32} {ic1a_heights : Nat → Int32} {H : Heap} (h : wxiW E qx qi ta_tape tf_length tf_fault tf_place ta_counts tl0f_huts tl0f_singers tl0f_villages tl0f_dams tl0f_echoes tl0f_deep tl0f_slide tl0a_heights tl0a_ladders tl0a_minutes tl0a_echoFrom tl0a_echoTo tl0a_homes tl0a_talls tl0a_known tl1f_huts tl1f_singers tl1f_villages tl1f_dams tl1f_echoes tl1f_deep tl1f_slide tl1a_heights tl1a_ladders tl1a_minutes tl1a_echoFrom tl1a_echoTo tl1a_homes tl1a_talls tl1a_known tv0f_deeds tv0a_kinds tv0a_firsts tv0a_seconds tv1f_deeds tv1a_kinds tv1a_firsts tv1a_seconds ts0f_facts ts0a_heard ts0a_huts ts0a_minutes ts1f_facts ts1a_heard ts1a_huts ts1a_minutes tc0f_voices tc0f_step tc0a_parts tc0a_heights tc1f_voices tc1f_step tc1a_parts tc1a_heights m_images rlf_huts rlf_singers rlf_villages rlf_dams rlf_echoes rlf_deep rlf_slide rla_heights rla_ladders rla_minutes rla_echoFrom rla_echoTo rla_homes rla_talls rla_known rvf_deeds rva_kinds rva_firsts rva_seconds rsf_facts rsa_heard rsa_huts rsa_minutes rcf_voices rcf_step rca_parts rca_heights rf_fault rf_faultPlace ra_numbers ra_tape rf_length rf_behind rf_kind rf_first rf_value rf_hutsToldOf rf_singersToldOf nf_minute nf_avalanches nf_begun nf_climbed nf_seed na_huts na_known na_levels na_snow na_open pa_heard pa_walked pa_total pa_longest pa_next pa_cover pa_now pa_then ko_stands ka_gaps ka_behind ba_less ba_full ia_tape if_length if_fault if_place ia_counts il0f_huts il0f_singers il0f_villages il0f_dams il0f_echoes il0f_deep il0f_slide il0a_heights il0a_ladders il0a_minutes il0a_echoFrom il0a_echoTo il0a_homes il0a_talls il0a_known il1f_huts il1f_singers il1f_villages il1f_dams il1f_echoes il1f_deep il1f_slide il1a_heights il1a_ladders il1a_minutes il1a_echoFrom il1a_echoTo il1a_homes il1a_talls il1a_known iv0f_deeds iv0a_kinds iv0a_firsts iv0a_seconds iv1f_deeds iv1a_kinds iv1a_firsts iv1a_seconds is0f_facts is0a_heard is0a_huts is0a_minutes is1f_facts is1a_heard is1a_huts is1a_minutes ic0f_voices ic0f_step ic0a_parts ic0a_heights ic1f_voices ic1f_step ic1a_parts ic1a_heights H) : wxW E qx ta_tape tf_length tf_fault tf_place ta_counts tl0f_huts tl0f_singers tl0f_villages tl0f_dams tl0f_echoes tl0f_deep tl0f_slide tl0a_heights tl0a_ladders tl0a_minutes tl0a_echoFrom tl0a_echoTo tl0a_homes tl0a_talls tl0a_known tl1f_huts tl1f_singers tl1f_villages tl1f_dams tl1f_echoes tl1f_deep tl1f_slide tl1a_heights tl1a_ladders tl1a_minutes tl1a_echoFrom tl1a_echoTo tl1a_homes tl1a_talls tl1a_known tv0f_deeds tv0a_kinds tv0a_firsts tv0a_seconds tv1f_deeds tv1a_kinds tv1a_firsts tv1a_seconds ts0f_facts ts0a_heard ts0a_huts ts0a_minutes ts1f_facts ts1a_heard ts1a_huts ts1a_minutes tc0f_voices tc0f_step tc0a_parts tc0a_heights tc1f_voices tc1f_step tc1a_parts tc1a_heights m_images rlf_huts rlf_singers rlf_villages rlf_dams rlf_echoes rlf_deep rlf_slide rla_heights rla_ladders rla_minutes rla_echoFrom rla_echoTo rla_homes rla_talls rla_known rvf_deeds rva_kinds rva_firsts rva_seconds rsf_facts rsa_heard rsa_huts rsa_minutes rcf_voices rcf_step rca_parts rca_heights rf_fault rf_faultPlace ra_numbers ra_tape rf_length rf_behind rf_kind rf_first rf_value rf_hutsToldOf rf_singersToldOf nf_minute nf_avalanches nf_begun nf_climbed nf_seed na_huts na_known na_levels na_snow na_open pa_heard pa_walked pa_total pa_longest pa_next pa_cover pa_now pa_then ko_stands ka_gaps ka_behind ba_less ba_full H := va_P.sub h.1 [0, 1, 2, 3, 4, 5, 6, 7, 8, 9, 10, 11, 12, 13, 14, 15, 16, 17, 18, 19, 20, 21, 22, 23, 24, 25, 26, 27, 28, 29, 30, 31, 32, 33, 34, 35, 36, 37, 38, 39, 40, 41, 42, 43, 44, 45, 46, 47, 48, 49, 50, 51, 52, 53, 54, 55, 56, 57, 58, 59, 60, 61, 62, 63, 64, 65, 66, 67, 68, 69, 70, 71, 72, 73, 74, 75, 76, 77, 78, 79, 80, 81, 82, 83, 84, 85, 86, 87, 88, 89, 90, 91, 92] rfl
set_option maxRecDepth 40000 in
set_option maxHeartbeats 4000000 in
theorem xi_t {E : zE} {qx qi : Nat} {ta_tape : Nat → Int32} {tf_length : Int32} {tf_fault : Int32} {tf_place : Int32} {ta_counts : Nat → Int32} {tl0f_huts : Int32} {tl0f_singers : Int32} {tl0f_villages : Int32} {tl0f_dams : Int32} {tl0f_echoes : Int32} {tl0f_deep : Int32} {tl0f_slide : Int32} {tl0a_heights : Nat → Int32} {tl0a_ladders : Nat → Int32} {tl0a_minutes : Nat → Int32} {tl0a_echoFrom : Nat → Int32} {tl0a_echoTo : Nat → Int32} {tl0a_homes : Nat → Int32} {tl0a_talls : Nat → Int32} {tl0a_known : Nat → Int32} {tl1f_huts : Int32} {tl1f_singers : Int32} {tl1f_villages : Int32} {tl1f_dams : Int32} {tl1f_echoes : Int32} {tl1f_deep : Int32} {tl1f_slide : Int32} {tl1a_heights : Nat → Int32} {tl1a_ladders : Nat → Int32} {tl1a_minutes : Nat → Int32} {tl1a_echoFrom : Nat → Int32} {tl1a_echoTo : Nat → Int32} {tl1a_homes : Nat → Int32} {tl1a_talls : Nat → Int32} {tl1a_known : Nat → Int32} {tv0f_deeds : Int32} {tv0a_kinds : Nat → Int32} {tv0a_firsts : Nat → Int32} {tv0a_seconds : Nat → Int32} {tv1f_deeds : Int32} {tv1a_kinds : Nat → Int32} {tv1a_firsts : Nat → Int32} {tv1a_seconds : Nat → Int32} {ts0f_facts : Int32} {ts0a_heard : Nat → Int32} {ts0a_huts : Nat → Int32} {ts0a_minutes : Nat → Int32} {ts1f_facts : Int32} {ts1a_heard : Nat → Int32} {ts1a_huts : Nat → Int32} {ts1a_minutes : Nat → Int32} {tc0f_voices : Int32} {tc0f_step : Int32} {tc0a_parts : Nat → Int32} {tc0a_heights : Nat → Int32} {tc1f_voices : Int32} {tc1f_step : Int32} {tc1a_parts : Nat → Int32} {tc1a_heights : Nat → Int32} {m_images : Nat → Option Nat} {rlf_huts : Int32} {rlf_singers : Int32} {rlf_villages : Int32} {rlf_dams : Int32} {rlf_echoes : Int32} {rlf_deep : Int32} {rlf_slide : Int32} {rla_heights : Nat → Int32} {rla_ladders : Nat → Int32} {rla_minutes : Nat → Int32} {rla_echoFrom : Nat → Int32} {rla_echoTo : Nat → Int32} {rla_homes : Nat → Int32} {rla_talls : Nat → Int32} {rla_known : Nat → Int32} {rvf_deeds : Int32} {rva_kinds : Nat → Int32} {rva_firsts : Nat → Int32} {rva_seconds : Nat → Int32} {rsf_facts : Int32} {rsa_heard : Nat → Int32} {rsa_huts : Nat → Int32} {rsa_minutes : Nat → Int32} {rcf_voices : Int32} {rcf_step : Int32} {rca_parts : Nat → Int32} {rca_heights : Nat → Int32} {rf_fault : Int32} {rf_faultPlace : Int32} {ra_numbers : Nat → Int32} {ra_tape : Nat → Int32} {rf_length : Int32} {rf_behind : Int32} {rf_kind : Int32} {rf_first : Int32} {rf_value : Int32} {rf_hutsToldOf : Int32} {rf_singersToldOf : Int32} {nf_minute : Int32} {nf_avalanches : Int32} {nf_begun : Int32} {nf_climbed : Int32} {nf_seed : Int32} {na_huts : Nat → Int32} {na_known : Nat → Int32} {na_levels : Nat → Int32} {na_snow : Nat → Int32} {na_open : Nat → Int32} {pa_heard : Nat → Int32} {pa_walked : Nat → Int32} {pa_total : Nat → Int32} {pa_longest : Nat → Int32} {pa_next : Nat → Int32} {pa_cover : Nat → Int32} {pa_now : Nat → Int32} {pa_then : Nat → Int32} {ko_stands : Option Nat} {ka_gaps : Nat → Int32} {ka_behind : Nat → Int32} {ba_less : Nat → Int32} {ba_full : Nat → Int32} {ia_tape : Nat → Int32} {if_length : Int32} {if_fault : Int32} {if_place : Int32} {ia_counts : Nat → Int32} {il0f_huts : Int32} {il0f_singers : Int32} {il0f_villages : Int32} {il0f_dams : Int32} {il0f_echoes : Int32} {il0f_deep : Int32} {il0f_slide : Int32} {il0a_heights : Nat → Int32} {il0a_ladders : Nat → Int32} {il0a_minutes : Nat → Int32} {il0a_echoFrom : Nat → Int32} {il0a_echoTo : Nat → Int32} {il0a_homes : Nat → Int32} {il0a_talls : Nat → Int32} {il0a_known : Nat → Int32} {il1f_huts : Int32} {il1f_singers : Int32} {il1f_villages : Int32} {il1f_dams : Int32} {il1f_echoes : Int32} {il1f_deep : Int32} {il1f_slide : Int32} {il1a_heights : Nat → Int32} {il1a_ladders : Nat → Int32} {il1a_minutes : Nat → Int32} {il1a_echoFrom : Nat → Int32} {il1a_echoTo : Nat → Int32} {il1a_homes : Nat → Int32} {il1a_talls : Nat → Int32} {il1a_known : Nat → Int32} {iv0f_deeds : Int32} {iv0a_kinds : Nat → Int32} {iv0a_firsts : Nat → Int32} {iv0a_seconds : Nat → Int32} {iv1f_deeds : Int32} {iv1a_kinds : Nat → Int32} {iv1a_firsts : Nat → Int32} {iv1a_seconds : Nat → Int32} {is0f_facts : Int32} {is0a_heard : Nat → Int32} {is0a_huts : Nat → Int32} {is0a_minutes : Nat → Int32} {is1f_facts : Int32} {is1a_heard : Nat → Int32} {is1a_huts : Nat → Int32} {is1a_minutes : Nat → Int32} {ic0f_voices : Int32} {ic0f_step : Int32} {ic0a_parts : Nat → Int32} {ic0a_heights : Nat → Int32} {ic1f_voices : Int32} {ic1f_step : Int32} {ic1a_parts : Nat → Int32} {ic1a_heights : Nat → Int32} {H : Heap} (h : wxiW E qx qi ta_tape tf_length tf_fault tf_place ta_counts tl0f_huts tl0f_singers tl0f_villages tl0f_dams tl0f_echoes tl0f_deep tl0f_slide tl0a_heights tl0a_ladders tl0a_minutes tl0a_echoFrom tl0a_echoTo tl0a_homes tl0a_talls tl0a_known tl1f_huts tl1f_singers tl1f_villages tl1f_dams tl1f_echoes tl1f_deep tl1f_slide tl1a_heights tl1a_ladders tl1a_minutes tl1a_echoFrom tl1a_echoTo tl1a_homes tl1a_talls tl1a_known tv0f_deeds tv0a_kinds tv0a_firsts tv0a_seconds tv1f_deeds tv1a_kinds tv1a_firsts tv1a_seconds ts0f_facts ts0a_heard ts0a_huts ts0a_minutes ts1f_facts ts1a_heard ts1a_huts ts1a_minutes tc0f_voices tc0f_step tc0a_parts tc0a_heights tc1f_voices tc1f_step tc1a_parts tc1a_heights m_images rlf_huts rlf_singers rlf_villages rlf_dams rlf_echoes rlf_deep rlf_slide rla_heights rla_ladders rla_minutes rla_echoFrom rla_echoTo rla_homes rla_talls rla_known rvf_deeds rva_kinds rva_firsts rva_seconds rsf_facts rsa_heard rsa_huts rsa_minutes rcf_voices rcf_step rca_parts rca_heights rf_fault rf_faultPlace ra_numbers ra_tape rf_length rf_behind rf_kind rf_first rf_value rf_hutsToldOf rf_singersToldOf nf_minute nf_avalanches nf_begun nf_climbed nf_seed na_huts na_known na_levels na_snow na_open pa_heard pa_walked pa_total pa_longest pa_next pa_cover pa_now pa_then ko_stands ka_gaps ka_behind ba_less ba_full ia_tape if_length if_fault if_place ia_counts il0f_huts il0f_singers il0f_villages il0f_dams il0f_echoes il0f_deep il0f_slide il0a_heights il0a_ladders il0a_minutes il0a_echoFrom il0a_echoTo il0a_homes il0a_talls il0a_known il1f_huts il1f_singers il1f_villages il1f_dams il1f_echoes il1f_deep il1f_slide il1a_heights il1a_ladders il1a_minutes il1a_echoFrom il1a_echoTo il1a_homes il1a_talls il1a_known iv0f_deeds iv0a_kinds iv0a_firsts iv0a_seconds iv1f_deeds iv1a_kinds iv1a_firsts iv1a_seconds is0f_facts is0a_heard is0a_huts is0a_minutes is1f_facts is1a_heard is1a_huts is1a_minutes ic0f_voices ic0f_step ic0a_parts ic0a_heights ic1f_voices ic1f_step ic1a_parts ic1a_heights H) : wtW E qi ia_tape if_length if_fault if_place ia_counts il0f_huts il0f_singers il0f_villages il0f_dams il0f_echoes il0f_deep il0f_slide il0a_heights il0a_ladders il0a_minutes il0a_echoFrom il0a_echoTo il0a_homes il0a_talls il0a_known il1f_huts il1f_singers il1f_villages il1f_dams il1f_echoes il1f_deep il1f_slide il1a_heights il1a_ladders il1a_minutes il1a_echoFrom il1a_echoTo il1a_homes il1a_talls il1a_known iv0f_deeds iv0a_kinds iv0a_firsts iv0a_seconds iv1f_deeds iv1a_kinds iv1a_firsts iv1a_seconds is0f_facts is0a_heard is0a_huts is0a_minutes is1f_facts is1a_heard is1a_huts is1a_minutes ic0f_voices ic0f_step ic0a_parts ic0a_heights ic1f_voices ic1f_step ic1a_parts ic1a_heights H := va_P.sub h.1 [93, 94, 95, 96, 97, 98, 99, 100, 101, 102, 103, 104, 105, 106, 107, 108, 109, 110, 111, 112, 113, 114, 115, 116, 117, 118, 119, 120, 121, 122, 123, 124, 125, 126, 127, 128, 129, 130, 131, 132, 133, 134, 135, 136, 137, 138, 139] rfl
set_option maxRecDepth 40000 in
set_option maxHeartbeats 4000000 in
theorem xi_of {E : zE} {qx qi : Nat} {ta_tape : Nat → Int32} {tf_length : Int32} {tf_fault : Int32} {tf_place : Int32} {ta_counts : Nat → Int32} {tl0f_huts : Int32} {tl0f_singers : Int32} {tl0f_villages : Int32} {tl0f_dams : Int32} {tl0f_echoes : Int32} {tl0f_deep : Int32} {tl0f_slide : Int32} {tl0a_heights : Nat → Int32} {tl0a_ladders : Nat → Int32} {tl0a_minutes : Nat → Int32} {tl0a_echoFrom : Nat → Int32} {tl0a_echoTo : Nat → Int32} {tl0a_homes : Nat → Int32} {tl0a_talls : Nat → Int32} {tl0a_known : Nat → Int32} {tl1f_huts : Int32} {tl1f_singers : Int32} {tl1f_villages : Int32} {tl1f_dams : Int32} {tl1f_echoes : Int32} {tl1f_deep : Int32} {tl1f_slide : Int32} {tl1a_heights : Nat → Int32} {tl1a_ladders : Nat → Int32} {tl1a_minutes : Nat → Int32} {tl1a_echoFrom : Nat → Int32} {tl1a_echoTo : Nat → Int32} {tl1a_homes : Nat → Int32} {tl1a_talls : Nat → Int32} {tl1a_known : Nat → Int32} {tv0f_deeds : Int32} {tv0a_kinds : Nat → Int32} {tv0a_firsts : Nat → Int32} {tv0a_seconds : Nat → Int32} {tv1f_deeds : Int32} {tv1a_kinds : Nat → Int32} {tv1a_firsts : Nat → Int32} {tv1a_seconds : Nat → Int32} {ts0f_facts : Int32} {ts0a_heard : Nat → Int32} {ts0a_huts : Nat → Int32} {ts0a_minutes : Nat → Int32} {ts1f_facts : Int32} {ts1a_heard : Nat → Int32} {ts1a_huts : Nat → Int32} {ts1a_minutes : Nat → Int32} {tc0f_voices : Int32} {tc0f_step : Int32} {tc0a_parts : Nat → Int32} {tc0a_heights : Nat → Int32} {tc1f_voices : Int32} {tc1f_step : Int32} {tc1a_parts : Nat → Int32} {tc1a_heights : Nat → Int32} {m_images : Nat → Option Nat} {rlf_huts : Int32} {rlf_singers : Int32} {rlf_villages : Int32} {rlf_dams : Int32} {rlf_echoes : Int32} {rlf_deep : Int32} {rlf_slide : Int32} {rla_heights : Nat → Int32} {rla_ladders : Nat → Int32} {rla_minutes : Nat → Int32} {rla_echoFrom : Nat → Int32} {rla_echoTo : Nat → Int32} {rla_homes : Nat → Int32} {rla_talls : Nat → Int32} {rla_known : Nat → Int32} {rvf_deeds : Int32} {rva_kinds : Nat → Int32} {rva_firsts : Nat → Int32} {rva_seconds : Nat → Int32} {rsf_facts : Int32} {rsa_heard : Nat → Int32} {rsa_huts : Nat → Int32} {rsa_minutes : Nat → Int32} {rcf_voices : Int32} {rcf_step : Int32} {rca_parts : Nat → Int32} {rca_heights : Nat → Int32} {rf_fault : Int32} {rf_faultPlace : Int32} {ra_numbers : Nat → Int32} {ra_tape : Nat → Int32} {rf_length : Int32} {rf_behind : Int32} {rf_kind : Int32} {rf_first : Int32} {rf_value : Int32} {rf_hutsToldOf : Int32} {rf_singersToldOf : Int32} {nf_minute : Int32} {nf_avalanches : Int32} {nf_begun : Int32} {nf_climbed : Int32} {nf_seed : Int32} {na_huts : Nat → Int32} {na_known : Nat → Int32} {na_levels : Nat → Int32} {na_snow : Nat → Int32} {na_open : Nat → Int32} {pa_heard : Nat → Int32} {pa_walked : Nat → Int32} {pa_total : Nat → Int32} {pa_longest : Nat → Int32} {pa_next : Nat → Int32} {pa_cover : Nat → Int32} {pa_now : Nat → Int32} {pa_then : Nat → Int32} {ko_stands : Option Nat} {ka_gaps : Nat → Int32} {ka_behind : Nat → Int32} {ba_less : Nat → Int32} {ba_full : Nat → Int32} {ia_tape : Nat → Int32} {if_length : Int32} {if_fault : Int32} {if_place : Int32} {ia_counts : Nat → Int32} {il0f_huts : Int32} {il0f_singers : Int32} {il0f_villages : Int32} {il0f_dams : Int32} {il0f_echoes : Int32} {il0f_deep : Int32} {il0f_slide : Int32} {il0a_heights : Nat → Int32} {il0a_ladders : Nat → Int32} {il0a_minutes : Nat → Int32} {il0a_echoFrom : Nat → Int32} {il0a_echoTo : Nat → Int32} {il0a_homes : Nat → Int32} {il0a_talls : Nat → Int32} {il0a_known : Nat → Int32} {il1f_huts : Int32} {il1f_singers : Int32} {il1f_villages : Int32} {il1f_dams : Int32} {il1f_echoes : Int32} {il1f_deep : Int32} {il1f_slide : Int32} {il1a_heights : Nat → Int32} {il1a_ladders : Nat → Int32} {il1a_minutes : Nat → Int32} {il1a_echoFrom : Nat → Int32} {il1a_echoTo : Nat → Int32} {il1a_homes : Nat → Int32} {il1a_talls : Nat → Int32} {il1a_known : Nat → Int32} {iv0f_deeds : Int32} {iv0a_kinds : Nat → Int32} {iv0a_firsts : Nat → Int32} {iv0a_seconds : Nat → Int32} {iv1f_deeds : Int32} {iv1a_kinds : Nat → Int32} {iv1a_firsts : Nat → Int32} {iv1a_seconds : Nat → Int32} {is0f_facts : Int32} {is0a_heard : Nat → Int32} {is0a_huts : Nat → Int32} {is0a_minutes : Nat → Int32} {is1f_facts : Int32} {is1a_heard : Nat → Int32} {is1a_huts : Nat → Int32} {is1a_minutes : Nat → Int32} {ic0f_voices : Int32} {ic0f_step : Int32} {ic0a_parts : Nat → Int32} {ic0a_heights : Nat → Int32} {ic1f_voices : Int32} {ic1f_step : Int32} {ic1a_parts : Nat → Int32} {ic1a_heights : Nat → Int32} {H : Heap} (h : wxW E qx ta_tape tf_length tf_fault tf_place ta_counts tl0f_huts tl0f_singers tl0f_villages tl0f_dams tl0f_echoes tl0f_deep tl0f_slide tl0a_heights tl0a_ladders tl0a_minutes tl0a_echoFrom tl0a_echoTo tl0a_homes tl0a_talls tl0a_known tl1f_huts tl1f_singers tl1f_villages tl1f_dams tl1f_echoes tl1f_deep tl1f_slide tl1a_heights tl1a_ladders tl1a_minutes tl1a_echoFrom tl1a_echoTo tl1a_homes tl1a_talls tl1a_known tv0f_deeds tv0a_kinds tv0a_firsts tv0a_seconds tv1f_deeds tv1a_kinds tv1a_firsts tv1a_seconds ts0f_facts ts0a_heard ts0a_huts ts0a_minutes ts1f_facts ts1a_heard ts1a_huts ts1a_minutes tc0f_voices tc0f_step tc0a_parts tc0a_heights tc1f_voices tc1f_step tc1a_parts tc1a_heights m_images rlf_huts rlf_singers rlf_villages rlf_dams rlf_echoes rlf_deep rlf_slide rla_heights rla_ladders rla_minutes rla_echoFrom rla_echoTo rla_homes rla_talls rla_known rvf_deeds rva_kinds rva_firsts rva_seconds rsf_facts rsa_heard rsa_huts rsa_minutes rcf_voices rcf_step rca_parts rca_heights rf_fault rf_faultPlace ra_numbers ra_tape rf_length rf_behind rf_kind rf_first rf_value rf_hutsToldOf rf_singersToldOf nf_minute nf_avalanches nf_begun nf_climbed nf_seed na_huts na_known na_levels na_snow na_open pa_heard pa_walked pa_total pa_longest pa_next pa_cover pa_now pa_then ko_stands ka_gaps ka_behind ba_less ba_full H) (hi : wtW E qi ia_tape if_length if_fault if_place ia_counts il0f_huts il0f_singers il0f_villages il0f_dams il0f_echoes il0f_deep il0f_slide il0a_heights il0a_ladders il0a_minutes il0a_echoFrom il0a_echoTo il0a_homes il0a_talls il0a_known il1f_huts il1f_singers il1f_villages il1f_dams il1f_echoes il1f_deep il1f_slide il1a_heights il1a_ladders il1a_minutes il1a_echoFrom il1a_echoTo il1a_homes il1a_talls il1a_known iv0f_deeds iv0a_kinds iv0a_firsts iv0a_seconds iv1f_deeds iv1a_kinds iv1a_firsts iv1a_seconds is0f_facts is0a_heard is0a_huts is0a_minutes is1f_facts is1a_heard is1a_huts is1a_minutes ic0f_voices ic0f_step ic0a_parts ic0a_heights ic1f_voices ic1f_step ic1a_parts ic1a_heights H) (hd : qx + 93 ≤ qi) : wxiW E qx qi ta_tape tf_length tf_fault tf_place ta_counts tl0f_huts tl0f_singers tl0f_villages tl0f_dams tl0f_echoes tl0f_deep tl0f_slide tl0a_heights tl0a_ladders tl0a_minutes tl0a_echoFrom tl0a_echoTo tl0a_homes tl0a_talls tl0a_known tl1f_huts tl1f_singers tl1f_villages tl1f_dams tl1f_echoes tl1f_deep tl1f_slide tl1a_heights tl1a_ladders tl1a_minutes tl1a_echoFrom tl1a_echoTo tl1a_homes tl1a_talls tl1a_known tv0f_deeds tv0a_kinds tv0a_firsts tv0a_seconds tv1f_deeds tv1a_kinds tv1a_firsts tv1a_seconds ts0f_facts ts0a_heard ts0a_huts ts0a_minutes ts1f_facts ts1a_heard ts1a_huts ts1a_minutes tc0f_voices tc0f_step tc0a_parts tc0a_heights tc1f_voices tc1f_step tc1a_parts tc1a_heights m_images rlf_huts rlf_singers rlf_villages rlf_dams rlf_echoes rlf_deep rlf_slide rla_heights rla_ladders rla_minutes rla_echoFrom rla_echoTo rla_homes rla_talls rla_known rvf_deeds rva_kinds rva_firsts rva_seconds rsf_facts rsa_heard rsa_huts rsa_minutes rcf_voices rcf_step rca_parts rca_heights rf_fault rf_faultPlace ra_numbers ra_tape rf_length rf_behind rf_kind rf_first rf_value rf_hutsToldOf rf_singersToldOf nf_minute nf_avalanches nf_begun nf_climbed nf_seed na_huts na_known na_levels na_snow na_open pa_heard pa_walked pa_total pa_longest pa_next pa_cover pa_now pa_then ko_stands ka_gaps ka_behind ba_less ba_full ia_tape if_length if_fault if_place ia_counts il0f_huts il0f_singers il0f_villages il0f_dams il0f_echoes il0f_deep il0f_slide il0a_heights il0a_ladders il0a_minutes il0a_echoFrom il0a_echoTo il0a_homes il0a_talls il0a_known il1f_huts il1f_singers il1f_villages il1f_dams il1f_echoes il1f_deep il1f_slide il1a_heights il1a_ladders il1a_minutes il1a_echoFrom il1a_echoTo il1a_homes il1a_talls il1a_known iv0f_deeds iv0a_kinds iv0a_firsts iv0a_seconds iv1f_deeds iv1a_kinds iv1a_firsts iv1a_seconds is0f_facts is0a_heard is0a_huts is0a_minutes is1f_facts is1a_heard is1a_huts is1a_minutes ic0f_voices ic0f_step ic0a_parts ic0a_heights ic1f_voices ic1f_step ic1a_parts ic1a_heights H := ⟨va_P.app h hi, by unfold wxiQ; omega⟩
abbrev rmI (kc ks : Nat) : Room := { frames := 3, cells := kc, slots := ks, locals := 90 }
set_option maxRecDepth 40000 in
set_option maxHeartbeats 4000000 in
theorem im_tail {p : Program} {l : Launch} {e : Env} {s : State} {m : MethodId} {args : Array Value} {below : List Frame} {meth : Method} {c : Code} {H : Heap} {locs : List Loc} {ls : Array Slot} {E : zE} {qx qi kc ks : Nat} {A : Nat → Prop} {x1 : Int32} {ta_tape : Nat → Int32} {tf_length : Int32} {tf_fault : Int32} {tf_place : Int32} {ta_counts : Nat → Int32} {tl0f_huts : Int32} {tl0f_singers : Int32} {tl0f_villages : Int32} {tl0f_dams : Int32} {tl0f_echoes : Int32} {tl0f_deep : Int32} {tl0f_slide : Int32} {tl0a_heights : Nat → Int32} {tl0a_ladders : Nat → Int32} {tl0a_minutes : Nat → Int32} {tl0a_echoFrom : Nat → Int32} {tl0a_echoTo : Nat → Int32} {tl0a_homes : Nat → Int32} {tl0a_talls : Nat → Int32} {tl0a_known : Nat → Int32} {tl1f_huts : Int32} {tl1f_singers : Int32} {tl1f_villages : Int32} {tl1f_dams : Int32} {tl1f_echoes : Int32} {tl1f_deep : Int32} {tl1f_slide : Int32} {tl1a_heights : Nat → Int32} {tl1a_ladders : Nat → Int32} {tl1a_minutes : Nat → Int32} {tl1a_echoFrom : Nat → Int32} {tl1a_echoTo : Nat → Int32} {tl1a_homes : Nat → Int32} {tl1a_talls : Nat → Int32} {tl1a_known : Nat → Int32} {tv0f_deeds : Int32} {tv0a_kinds : Nat → Int32} {tv0a_firsts : Nat → Int32} {tv0a_seconds : Nat → Int32} {tv1f_deeds : Int32} {tv1a_kinds : Nat → Int32} {tv1a_firsts : Nat → Int32} {tv1a_seconds : Nat → Int32} {ts0f_facts : Int32} {ts0a_heard : Nat → Int32} {ts0a_huts : Nat → Int32} {ts0a_minutes : Nat → Int32} {ts1f_facts : Int32} {ts1a_heard : Nat → Int32} {ts1a_huts : Nat → Int32} {ts1a_minutes : Nat → Int32} {tc0f_voices : Int32} {tc0f_step : Int32} {tc0a_parts : Nat → Int32} {tc0a_heights : Nat → Int32} {tc1f_voices : Int32} {tc1f_step : Int32} {tc1a_parts : Nat → Int32} {tc1a_heights : Nat → Int32} {m_images : Nat → Option Nat} {rlf_huts : Int32} {rlf_singers : Int32} {rlf_villages : Int32} {rlf_dams : Int32} {rlf_echoes : Int32} {rlf_deep : Int32} {rlf_slide : Int32} {rla_heights : Nat → Int32} {rla_ladders : Nat → Int32} {rla_minutes : Nat → Int32} {rla_echoFrom : Nat → Int32} {rla_echoTo : Nat → Int32} {rla_homes : Nat → Int32} {rla_talls : Nat → Int32} {rla_known : Nat → Int32} {rvf_deeds : Int32} {rva_kinds : Nat → Int32} {rva_firsts : Nat → Int32} {rva_seconds : Nat → Int32} {rsf_facts : Int32} {rsa_heard : Nat → Int32} {rsa_huts : Nat → Int32} {rsa_minutes : Nat → Int32} {rcf_voices : Int32} {rcf_step : Int32} {rca_parts : Nat → Int32} {rca_heights : Nat → Int32} {rf_fault : Int32} {rf_faultPlace : Int32} {ra_numbers : Nat → Int32} {ra_tape : Nat → Int32} {rf_length : Int32} {rf_behind : Int32} {rf_kind : Int32} {rf_first : Int32} {rf_value : Int32} {rf_hutsToldOf : Int32} {rf_singersToldOf : Int32} {nf_minute : Int32} {nf_avalanches : Int32} {nf_begun : Int32} {nf_climbed : Int32} {nf_seed : Int32} {na_huts : Nat → Int32} {na_known : Nat → Int32} {na_levels : Nat → Int32} {na_snow : Nat → Int32} {na_open : Nat → Int32} {pa_heard : Nat → Int32} {pa_walked : Nat → Int32} {pa_total : Nat → Int32} {pa_longest : Nat → Int32} {pa_next : Nat → Int32} {pa_cover : Nat → Int32} {pa_now : Nat → Int32} {pa_then : Nat → Int32} {ko_stands : Option Nat} {ka_gaps : Nat → Int32} {ka_behind : Nat → Int32} {ba_less : Nat → Int32} {ba_full : Nat → Int32} {ia_tape : Nat → Int32} {if_length : Int32} {if_fault : Int32} {if_place : Int32} {ia_counts : Nat → Int32} {il0f_huts : Int32} {il0f_singers : Int32} {il0f_villages : Int32} {il0f_dams : Int32} {il0f_echoes : Int32} {il0f_deep : Int32} {il0f_slide : Int32} {il0a_heights : Nat → Int32} {il0a_ladders : Nat → Int32} {il0a_minutes : Nat → Int32} {il0a_echoFrom : Nat → Int32} {il0a_echoTo : Nat → Int32} {il0a_homes : Nat → Int32} {il0a_talls : Nat → Int32} {il0a_known : Nat → Int32} {il1f_huts : Int32} {il1f_singers : Int32} {il1f_villages : Int32} {il1f_dams : Int32} {il1f_echoes : Int32} {il1f_deep : Int32} {il1f_slide : Int32} {il1a_heights : Nat → Int32} {il1a_ladders : Nat → Int32} {il1a_minutes : Nat → Int32} {il1a_echoFrom : Nat → Int32} {il1a_echoTo : Nat → Int32} {il1a_homes : Nat → Int32} {il1a_talls : Nat → Int32} {il1a_known : Nat → Int32} {iv0f_deeds : Int32} {iv0a_kinds : Nat → Int32} {iv0a_firsts : Nat → Int32} {iv0a_seconds : Nat → Int32} {iv1f_deeds : Int32} {iv1a_kinds : Nat → Int32} {iv1a_firsts : Nat → Int32} {iv1a_seconds : Nat → Int32} {is0f_facts : Int32} {is0a_heard : Nat → Int32} {is0a_huts : Nat → Int32} {is0a_minutes : Nat → Int32} {is1f_facts : Int32} {is1a_heard : Nat → Int32} {is1a_huts : Nat → Int32} {is1a_minutes : Nat → Int32} {ic0f_voices : Int32} {ic0f_step : Int32} {ic0a_parts : Nat → Int32} {ic0a_heights : Nat → Int32} {ic1f_voices : Int32} {ic1f_step : Int32} {ic1a_parts : Nat → Int32} {ic1a_heights : Nat → Int32} (zc : zC p s m args meth c cX10_image 2 RX10 (some .boolean)) (hK : zK E s) (hM : wxiW E qx qi ta_tape tf_length tf_fault tf_place ta_counts tl0f_huts tl0f_singers tl0f_villages tl0f_dams tl0f_echoes tl0f_deep tl0f_slide tl0a_heights tl0a_ladders tl0a_minutes tl0a_echoFrom tl0a_echoTo tl0a_homes tl0a_talls tl0a_known tl1f_huts tl1f_singers tl1f_villages tl1f_dams tl1f_echoes tl1f_deep tl1f_slide tl1a_heights tl1a_ladders tl1a_minutes tl1a_echoFrom tl1a_echoTo tl1a_homes tl1a_talls tl1a_known tv0f_deeds tv0a_kinds tv0a_firsts tv0a_seconds tv1f_deeds tv1a_kinds tv1a_firsts tv1a_seconds ts0f_facts ts0a_heard ts0a_huts ts0a_minutes ts1f_facts ts1a_heard ts1a_huts ts1a_minutes tc0f_voices tc0f_step tc0a_parts tc0a_heights tc1f_voices tc1f_step tc1a_parts tc1a_heights m_images rlf_huts rlf_singers rlf_villages rlf_dams rlf_echoes rlf_deep rlf_slide rla_heights rla_ladders rla_minutes rla_echoFrom rla_echoTo rla_homes rla_talls rla_known rvf_deeds rva_kinds rva_firsts rva_seconds rsf_facts rsa_heard rsa_huts rsa_minutes rcf_voices rcf_step rca_parts rca_heights rf_fault rf_faultPlace ra_numbers ra_tape rf_length rf_behind rf_kind rf_first rf_value rf_hutsToldOf rf_singersToldOf nf_minute nf_avalanches nf_begun nf_climbed nf_seed na_huts na_known na_levels na_snow na_open pa_heard pa_walked pa_total pa_longest pa_next pa_cover pa_now pa_then ko_stands ka_gaps ka_behind ba_less ba_full ia_tape if_length if_fault if_place ia_counts il0f_huts il0f_singers il0f_villages il0f_dams il0f_echoes il0f_deep il0f_slide il0a_heights il0a_ladders il0a_minutes il0a_echoFrom il0a_echoTo il0a_homes il0a_talls il0a_known il1f_huts il1f_singers il1f_villages il1f_dams il1f_echoes il1f_deep il1f_slide il1a_heights il1a_ladders il1a_minutes il1a_echoFrom il1a_echoTo il1a_homes il1a_talls il1a_known iv0f_deeds iv0a_kinds iv0a_firsts iv0a_seconds iv1f_deeds iv1a_kinds iv1a_firsts iv1a_seconds is0f_facts is0a_heard is0a_huts is0a_minutes is1f_facts is1a_heard is1a_huts is1a_minutes ic0f_voices ic0f_step ic0a_parts ic0a_heights ic1f_voices ic1f_step ic1a_parts ic1a_heights H) (hT : tG ta_tape tf_length tf_fault tf_place ta_counts tl0f_huts tl0f_singers tl0f_villages tl0f_dams tl0f_echoes tl0f_deep tl0f_slide tl0a_heights tl0a_ladders tl0a_minutes tl0a_echoFrom tl0a_echoTo tl0a_homes tl0a_talls tl0a_known tl1f_huts tl1f_singers tl1f_villages tl1f_dams tl1f_echoes tl1f_deep tl1f_slide tl1a_heights tl1a_ladders tl1a_minutes tl1a_echoFrom tl1a_echoTo tl1a_homes tl1a_talls tl1a_known tv0f_deeds tv0a_kinds tv0a_firsts tv0a_seconds tv1f_deeds tv1a_kinds tv1a_firsts tv1a_seconds ts0f_facts ts0a_heard ts0a_huts ts0a_minutes ts1f_facts ts1a_heard ts1a_huts ts1a_minutes tc0f_voices tc0f_step tc0a_parts tc0a_heights tc1f_voices tc1f_step tc1a_parts tc1a_heights) (hI : tG ia_tape if_length if_fault if_place ia_counts il0f_huts il0f_singers il0f_villages il0f_dams il0f_echoes il0f_deep il0f_slide il0a_heights il0a_ladders il0a_minutes il0a_echoFrom il0a_echoTo il0a_homes il0a_talls il0a_known il1f_huts il1f_singers il1f_villages il1f_dams il1f_echoes il1f_deep il1f_slide il1a_heights il1a_ladders il1a_minutes il1a_echoFrom il1a_echoTo il1a_homes il1a_talls il1a_known iv0f_deeds iv0a_kinds iv0a_firsts iv0a_seconds iv1f_deeds iv1a_kinds iv1a_firsts iv1a_seconds is0f_facts is0a_heard is0a_huts is0a_minutes is1f_facts is1a_heard is1a_huts is1a_minutes ic0f_voices ic0f_step ic0a_parts ic0a_heights ic1f_voices ic1f_step ic1a_parts ic1a_heights) (hin : vp_in x1 3) (hm : m_images (Int32.toNatClampNeg x1) = some qi) (hS : va_S A s.heap H locs) (hsub : ∀ q, wttA qi (qx + 1) q → A q) (hl : lv_has ls 2 [(0, .ref qx), (1, .int x1)]) :
    W p l e (rmI kc ks) s m args below meth c H locs kc ks (MQ below (zQi (S := Unit) (fun r _ => r = 1) (fun _ H => ∃ na_tape nf_length nf_fault nf_place na_counts nl0f_huts nl0f_singers nl0f_villages nl0f_dams nl0f_echoes nl0f_deep nl0f_slide nl0a_heights nl0a_ladders nl0a_minutes nl0a_echoFrom nl0a_echoTo nl0a_homes nl0a_talls nl0a_known nl1f_huts nl1f_singers nl1f_villages nl1f_dams nl1f_echoes nl1f_deep nl1f_slide nl1a_heights nl1a_ladders nl1a_minutes nl1a_echoFrom nl1a_echoTo nl1a_homes nl1a_talls nl1a_known nv0f_deeds nv0a_kinds nv0a_firsts nv0a_seconds nv1f_deeds nv1a_kinds nv1a_firsts nv1a_seconds ns0f_facts ns0a_heard ns0a_huts ns0a_minutes ns1f_facts ns1a_heard ns1a_huts ns1a_minutes nc0f_voices nc0f_step nc0a_parts nc0a_heights nc1f_voices nc1f_step nc1a_parts nc1a_heights, tG na_tape nf_length nf_fault nf_place na_counts nl0f_huts nl0f_singers nl0f_villages nl0f_dams nl0f_echoes nl0f_deep nl0f_slide nl0a_heights nl0a_ladders nl0a_minutes nl0a_echoFrom nl0a_echoTo nl0a_homes nl0a_talls nl0a_known nl1f_huts nl1f_singers nl1f_villages nl1f_dams nl1f_echoes nl1f_deep nl1f_slide nl1a_heights nl1a_ladders nl1a_minutes nl1a_echoFrom nl1a_echoTo nl1a_homes nl1a_talls nl1a_known nv0f_deeds nv0a_kinds nv0a_firsts nv0a_seconds nv1f_deeds nv1a_kinds nv1a_firsts nv1a_seconds ns0f_facts ns0a_heard ns0a_huts ns0a_minutes ns1f_facts ns1a_heard ns1a_huts ns1a_minutes nc0f_voices nc0f_step nc0a_parts nc0a_heights nc1f_voices nc1f_step nc1a_parts nc1a_heights ∧ wxiW E qx qi ta_tape tf_length tf_fault tf_place ta_counts tl0f_huts tl0f_singers tl0f_villages tl0f_dams tl0f_echoes tl0f_deep tl0f_slide tl0a_heights tl0a_ladders tl0a_minutes tl0a_echoFrom tl0a_echoTo tl0a_homes tl0a_talls tl0a_known tl1f_huts tl1f_singers tl1f_villages tl1f_dams tl1f_echoes tl1f_deep tl1f_slide tl1a_heights tl1a_ladders tl1a_minutes tl1a_echoFrom tl1a_echoTo tl1a_homes tl1a_talls tl1a_known tv0f_deeds tv0a_kinds tv0a_firsts tv0a_seconds tv1f_deeds tv1a_kinds tv1a_firsts tv1a_seconds ts0f_facts ts0a_heard ts0a_huts ts0a_minutes ts1f_facts ts1a_heard ts1a_huts ts1a_minutes tc0f_voices tc0f_step tc0a_parts tc0a_heights tc1f_voices tc1f_step tc1a_parts tc1a_heights m_images rlf_huts rlf_singers rlf_villages rlf_dams rlf_echoes rlf_deep rlf_slide rla_heights rla_ladders rla_minutes rla_echoFrom rla_echoTo rla_homes rla_talls rla_known rvf_deeds rva_kinds rva_firsts rva_seconds rsf_facts rsa_heard rsa_huts rsa_minutes rcf_voices rcf_step rca_parts rca_heights rf_fault rf_faultPlace ra_numbers ra_tape rf_length rf_behind rf_kind rf_first rf_value rf_hutsToldOf rf_singersToldOf nf_minute nf_avalanches nf_begun nf_climbed nf_seed na_huts na_known na_levels na_snow na_open pa_heard pa_walked pa_total pa_longest pa_next pa_cover pa_now pa_then ko_stands ka_gaps ka_behind ba_less ba_full na_tape nf_length nf_fault nf_place na_counts nl0f_huts nl0f_singers nl0f_villages nl0f_dams nl0f_echoes nl0f_deep nl0f_slide nl0a_heights nl0a_ladders nl0a_minutes nl0a_echoFrom nl0a_echoTo nl0a_homes nl0a_talls nl0a_known nl1f_huts nl1f_singers nl1f_villages nl1f_dams nl1f_echoes nl1f_deep nl1f_slide nl1a_heights nl1a_ladders nl1a_minutes nl1a_echoFrom nl1a_echoTo nl1a_homes nl1a_talls nl1a_known nv0f_deeds nv0a_kinds nv0a_firsts nv0a_seconds nv1f_deeds nv1a_kinds nv1a_firsts nv1a_seconds ns0f_facts ns0a_heard ns0a_huts ns0a_minutes ns1f_facts ns1a_heard ns1a_huts ns1a_minutes nc0f_voices nc0f_step nc0a_parts nc0a_heights nc1f_voices nc1f_step nc1a_parts nc1a_heights H) A) args s kc ks A) (F0 m 33 ls []) := by
  have hx := zc.1
  have hb := zc.2.1
  have hMx := xi_x hM
  refine lv_aload_n hx hb dX10_image_33 rfl (lv_at hl 0 rfl) ?_
  refine va_get (D := E.1) (ci := 10) (v := .ref (qx + 48)) (C := RX10) (T := TX10) (N := 7) hx hb zc.2.2.2.2.1 uw10 zc.2.2.2.1 hK.1 hMx 0 rfl rfl 1 (by decide) (zc.2.2.2.2.1 _ kf_10_16) (fun _ h9 => h9) rfl dX10_image_34 ?_
  refine lv_iload_n hx hb dX10_image_37 rfl (lv_at hl 1 rfl) ?_
  refine va_aldq hx hb hK.1 hMx 48 8 rfl rfl hin dX10_image_38 ?_
  rw [hm]
  refine W.eq (g2 := F0 m 39 ls (.ref qi :: [])) rfl ?_
  refine lv_aload_n hx hb dX10_image_39 rfl (lv_at hl 0 rfl) ?_
  refine va_get (D := E.1) (ci := 10) (v := .ref (qx + 1)) (C := RX10) (T := TX10) (N := 7) hx hb zc.2.2.2.2.1 uw10 zc.2.2.2.1 hK.1 hMx 0 rfl rfl 0 (by decide) (zc.2.2.2.2.1 _ kf_10_10) (fun _ h9 => h9) rfl dX10_image_40 ?_
  refine zVa_v [.ref (qx + 1)] [] zc ky_X9_copyFrom kz_X9_copyFrom km_10_323 (c_wtt_X9_copyFrom_47 l (post := fun na_tape nf_length nf_fault nf_place na_counts nl0f_huts nl0f_singers nl0f_villages nl0f_dams nl0f_echoes nl0f_deep nl0f_slide nl0a_heights nl0a_ladders nl0a_minutes nl0a_echoFrom nl0a_echoTo nl0a_homes nl0a_talls nl0a_known nl1f_huts nl1f_singers nl1f_villages nl1f_dams nl1f_echoes nl1f_deep nl1f_slide nl1a_heights nl1a_ladders nl1a_minutes nl1a_echoFrom nl1a_echoTo nl1a_homes nl1a_talls nl1a_known nv0f_deeds nv0a_kinds nv0a_firsts nv0a_seconds nv1f_deeds nv1a_kinds nv1a_firsts nv1a_seconds ns0f_facts ns0a_heard ns0a_huts ns0a_minutes ns1f_facts ns1a_heard ns1a_huts ns1a_minutes nc0f_voices nc0f_step nc0a_parts nc0a_heights nc1f_voices nc1f_step nc1a_parts nc1a_heights => tG na_tape nf_length nf_fault nf_place na_counts nl0f_huts nl0f_singers nl0f_villages nl0f_dams nl0f_echoes nl0f_deep nl0f_slide nl0a_heights nl0a_ladders nl0a_minutes nl0a_echoFrom nl0a_echoTo nl0a_homes nl0a_talls nl0a_known nl1f_huts nl1f_singers nl1f_villages nl1f_dams nl1f_echoes nl1f_deep nl1f_slide nl1a_heights nl1a_ladders nl1a_minutes nl1a_echoFrom nl1a_echoTo nl1a_homes nl1a_talls nl1a_known nv0f_deeds nv0a_kinds nv0a_firsts nv0a_seconds nv1f_deeds nv1a_kinds nv1a_firsts nv1a_seconds ns0f_facts ns0a_heard ns0a_huts ns0a_minutes ns1f_facts ns1a_heard ns1a_huts ns1a_minutes nc0f_voices nc0f_step nc0a_parts nc0a_heights nc1f_voices nc1f_step nc1a_parts nc1a_heights) (tG_copy hI hT (fun _ _ _ _ _ _ _ _ _ _ _ _ _ _ _ _ _ _ _ _ _ _ _ _ _ _ _ _ _ _ _ _ _ _ _ _ _ _ _ _ _ _ _ _ _ _ _ _ _ _ _ _ _ _ _ _ _ _ _ h => h))) (wttPreV0 hK (pj_wxi_wtt_93_1 hM)) hS hsub rfl rfl hl.1 (Nat.le_of_ble_eq_true rfl) ⟨rfl, rfl⟩ ⟨(Nat.le_of_ble_eq_true rfl), (Nat.le_of_ble_eq_true rfl)⟩ ⟨Nat.le_refl _, Nat.le_refl _⟩ dX10_image_43 (fun u H4 locs hw hB hsz hk hS => ?_)
  have hM := jn_wxi_wtt_93_1 hM hB hk
  refine lv_iconst (v := (1 : Int32)) hx hb dX10_image_46 (by decide) ?_
  exact zret_zw () zc hS rfl rfl ⟨_, _, _, _, _, _, _, _, _, _, _, _, _, _, _, _, _, _, _, _, _, _, _, _, _, _, _, _, _, _, _, _, _, _, _, _, _, _, _, _, _, _, _, _, _, _, _, _, _, _, _, _, _, _, _, _, _, _, _, hw, hM⟩ dX10_image_47
set_option maxRecDepth 40000 in
set_option maxHeartbeats 4000000 in
theorem c_image_no (l : Launch) {E : zE} {qx : Nat} {x1 : Int32} (hn : x1 < 0 ∨ ¬ x1 < 3) : Met l yX10_image (Cond.code yX10_image cX10_image 2 (some .boolean) :: zb) (rmI 0 0) (va_Pc [.ref qx, .int x1] (fun _ => True)) (vp_Si (fun r => r = 0)) 0 0 (fun _ => False) := by
  refine Met.ofW (cc := cX10_image) (maxL := 2) (ret := (some .boolean)) (by decide) rfl ?_
  intro p e s m args below meth c s₁ B hml hv
  obtain ⟨rfl, -⟩ := hv
  have zc := zc_of B hml
  have hx := zc.1
  have hb := zc.2.1
  have hl := lv_entry ([.ref qx, .int x1]) (n := 2) (Nat.le_of_ble_eq_true rfl)
  rw [lg_entry_eq]
  generalize (lg_sl ([.ref qx, .int x1]) ++ List.replicate (2 - (lg_sl ([.ref qx, .int x1])).length) Slot.unset).toArray = ls at hl ⊢
  have hl : lv_has ls 2 [(0, .ref qx), (1, .int x1)] := hl
  refine lv_iload_n hx hb dX10_image_0 rfl (lv_at hl 1 rfl) ?_
  refine lv_if_lt (tgt := 9) hx hb dX10_image_1 (by decide) (fun hc => ?_) (fun hc => ?_)
  · refine lv_iconst (v := (0 : Int32)) hx hb dX10_image_9 (by decide) ?_
    exact zret_z zc rfl rfl dX10_image_10
  refine lv_iload_n hx hb dX10_image_4 rfl (lv_at hl 1 rfl) ?_
  refine lv_iconst (v := (3 : Int32)) hx hb dX10_image_5 (by decide) ?_
  refine lv_icmp_lt (tgt := 11) hx hb dX10_image_6 (by decide) (fun hd => absurd hd (hn.resolve_left hc)) (fun hd => ?_)
  refine lv_iconst (v := (0 : Int32)) hx hb dX10_image_9 (by decide) ?_
  exact zret_z zc rfl rfl dX10_image_10
set_option maxRecDepth 40000 in
set_option maxHeartbeats 4000000 in
theorem c_image_old (l : Launch) {E : zE} {qx qi : Nat} {ta_tape : Nat → Int32} {tf_length : Int32} {tf_fault : Int32} {tf_place : Int32} {ta_counts : Nat → Int32} {tl0f_huts : Int32} {tl0f_singers : Int32} {tl0f_villages : Int32} {tl0f_dams : Int32} {tl0f_echoes : Int32} {tl0f_deep : Int32} {tl0f_slide : Int32} {tl0a_heights : Nat → Int32} {tl0a_ladders : Nat → Int32} {tl0a_minutes : Nat → Int32} {tl0a_echoFrom : Nat → Int32} {tl0a_echoTo : Nat → Int32} {tl0a_homes : Nat → Int32} {tl0a_talls : Nat → Int32} {tl0a_known : Nat → Int32} {tl1f_huts : Int32} {tl1f_singers : Int32} {tl1f_villages : Int32} {tl1f_dams : Int32} {tl1f_echoes : Int32} {tl1f_deep : Int32} {tl1f_slide : Int32} {tl1a_heights : Nat → Int32} {tl1a_ladders : Nat → Int32} {tl1a_minutes : Nat → Int32} {tl1a_echoFrom : Nat → Int32} {tl1a_echoTo : Nat → Int32} {tl1a_homes : Nat → Int32} {tl1a_talls : Nat → Int32} {tl1a_known : Nat → Int32} {tv0f_deeds : Int32} {tv0a_kinds : Nat → Int32} {tv0a_firsts : Nat → Int32} {tv0a_seconds : Nat → Int32} {tv1f_deeds : Int32} {tv1a_kinds : Nat → Int32} {tv1a_firsts : Nat → Int32} {tv1a_seconds : Nat → Int32} {ts0f_facts : Int32} {ts0a_heard : Nat → Int32} {ts0a_huts : Nat → Int32} {ts0a_minutes : Nat → Int32} {ts1f_facts : Int32} {ts1a_heard : Nat → Int32} {ts1a_huts : Nat → Int32} {ts1a_minutes : Nat → Int32} {tc0f_voices : Int32} {tc0f_step : Int32} {tc0a_parts : Nat → Int32} {tc0a_heights : Nat → Int32} {tc1f_voices : Int32} {tc1f_step : Int32} {tc1a_parts : Nat → Int32} {tc1a_heights : Nat → Int32} {m_images : Nat → Option Nat} {rlf_huts : Int32} {rlf_singers : Int32} {rlf_villages : Int32} {rlf_dams : Int32} {rlf_echoes : Int32} {rlf_deep : Int32} {rlf_slide : Int32} {rla_heights : Nat → Int32} {rla_ladders : Nat → Int32} {rla_minutes : Nat → Int32} {rla_echoFrom : Nat → Int32} {rla_echoTo : Nat → Int32} {rla_homes : Nat → Int32} {rla_talls : Nat → Int32} {rla_known : Nat → Int32} {rvf_deeds : Int32} {rva_kinds : Nat → Int32} {rva_firsts : Nat → Int32} {rva_seconds : Nat → Int32} {rsf_facts : Int32} {rsa_heard : Nat → Int32} {rsa_huts : Nat → Int32} {rsa_minutes : Nat → Int32} {rcf_voices : Int32} {rcf_step : Int32} {rca_parts : Nat → Int32} {rca_heights : Nat → Int32} {rf_fault : Int32} {rf_faultPlace : Int32} {ra_numbers : Nat → Int32} {ra_tape : Nat → Int32} {rf_length : Int32} {rf_behind : Int32} {rf_kind : Int32} {rf_first : Int32} {rf_value : Int32} {rf_hutsToldOf : Int32} {rf_singersToldOf : Int32} {nf_minute : Int32} {nf_avalanches : Int32} {nf_begun : Int32} {nf_climbed : Int32} {nf_seed : Int32} {na_huts : Nat → Int32} {na_known : Nat → Int32} {na_levels : Nat → Int32} {na_snow : Nat → Int32} {na_open : Nat → Int32} {pa_heard : Nat → Int32} {pa_walked : Nat → Int32} {pa_total : Nat → Int32} {pa_longest : Nat → Int32} {pa_next : Nat → Int32} {pa_cover : Nat → Int32} {pa_now : Nat → Int32} {pa_then : Nat → Int32} {ko_stands : Option Nat} {ka_gaps : Nat → Int32} {ka_behind : Nat → Int32} {ba_less : Nat → Int32} {ba_full : Nat → Int32} {ia_tape : Nat → Int32} {if_length : Int32} {if_fault : Int32} {if_place : Int32} {ia_counts : Nat → Int32} {il0f_huts : Int32} {il0f_singers : Int32} {il0f_villages : Int32} {il0f_dams : Int32} {il0f_echoes : Int32} {il0f_deep : Int32} {il0f_slide : Int32} {il0a_heights : Nat → Int32} {il0a_ladders : Nat → Int32} {il0a_minutes : Nat → Int32} {il0a_echoFrom : Nat → Int32} {il0a_echoTo : Nat → Int32} {il0a_homes : Nat → Int32} {il0a_talls : Nat → Int32} {il0a_known : Nat → Int32} {il1f_huts : Int32} {il1f_singers : Int32} {il1f_villages : Int32} {il1f_dams : Int32} {il1f_echoes : Int32} {il1f_deep : Int32} {il1f_slide : Int32} {il1a_heights : Nat → Int32} {il1a_ladders : Nat → Int32} {il1a_minutes : Nat → Int32} {il1a_echoFrom : Nat → Int32} {il1a_echoTo : Nat → Int32} {il1a_homes : Nat → Int32} {il1a_talls : Nat → Int32} {il1a_known : Nat → Int32} {iv0f_deeds : Int32} {iv0a_kinds : Nat → Int32} {iv0a_firsts : Nat → Int32} {iv0a_seconds : Nat → Int32} {iv1f_deeds : Int32} {iv1a_kinds : Nat → Int32} {iv1a_firsts : Nat → Int32} {iv1a_seconds : Nat → Int32} {is0f_facts : Int32} {is0a_heard : Nat → Int32} {is0a_huts : Nat → Int32} {is0a_minutes : Nat → Int32} {is1f_facts : Int32} {is1a_heard : Nat → Int32} {is1a_huts : Nat → Int32} {is1a_minutes : Nat → Int32} {ic0f_voices : Int32} {ic0f_step : Int32} {ic0a_parts : Nat → Int32} {ic0a_heights : Nat → Int32} {ic1f_voices : Int32} {ic1f_step : Int32} {ic1a_parts : Nat → Int32} {ic1a_heights : Nat → Int32} {x1 : Int32} (hr : ¬ x1 < 0 ∧ x1 < 3) (hm : m_images (Int32.toNatClampNeg x1) = some qi) (hT : tG ta_tape tf_length tf_fault tf_place ta_counts tl0f_huts tl0f_singers tl0f_villages tl0f_dams tl0f_echoes tl0f_deep tl0f_slide tl0a_heights tl0a_ladders tl0a_minutes tl0a_echoFrom tl0a_echoTo tl0a_homes tl0a_talls tl0a_known tl1f_huts tl1f_singers tl1f_villages tl1f_dams tl1f_echoes tl1f_deep tl1f_slide tl1a_heights tl1a_ladders tl1a_minutes tl1a_echoFrom tl1a_echoTo tl1a_homes tl1a_talls tl1a_known tv0f_deeds tv0a_kinds tv0a_firsts tv0a_seconds tv1f_deeds tv1a_kinds tv1a_firsts tv1a_seconds ts0f_facts ts0a_heard ts0a_huts ts0a_minutes ts1f_facts ts1a_heard ts1a_huts ts1a_minutes tc0f_voices tc0f_step tc0a_parts tc0a_heights tc1f_voices tc1f_step tc1a_parts tc1a_heights) (hI : tG ia_tape if_length if_fault if_place ia_counts il0f_huts il0f_singers il0f_villages il0f_dams il0f_echoes il0f_deep il0f_slide il0a_heights il0a_ladders il0a_minutes il0a_echoFrom il0a_echoTo il0a_homes il0a_talls il0a_known il1f_huts il1f_singers il1f_villages il1f_dams il1f_echoes il1f_deep il1f_slide il1a_heights il1a_ladders il1a_minutes il1a_echoFrom il1a_echoTo il1a_homes il1a_talls il1a_known iv0f_deeds iv0a_kinds iv0a_firsts iv0a_seconds iv1f_deeds iv1a_kinds iv1a_firsts iv1a_seconds is0f_facts is0a_heard is0a_huts is0a_minutes is1f_facts is1a_heard is1a_huts is1a_minutes ic0f_voices ic0f_step ic0a_parts ic0a_heights ic1f_voices ic1f_step ic1a_parts ic1a_heights) : Met l yX10_image (Cond.code yX10_image cX10_image 2 (some .boolean) :: zb) (rmI 0 0) (va_Pc [.ref qx, .int x1] (fun U => wxiW E qx qi ta_tape tf_length tf_fault tf_place ta_counts tl0f_huts tl0f_singers tl0f_villages tl0f_dams tl0f_echoes tl0f_deep tl0f_slide tl0a_heights tl0a_ladders tl0a_minutes tl0a_echoFrom tl0a_echoTo tl0a_homes tl0a_talls tl0a_known tl1f_huts tl1f_singers tl1f_villages tl1f_dams tl1f_echoes tl1f_deep tl1f_slide tl1a_heights tl1a_ladders tl1a_minutes tl1a_echoFrom tl1a_echoTo tl1a_homes tl1a_talls tl1a_known tv0f_deeds tv0a_kinds tv0a_firsts tv0a_seconds tv1f_deeds tv1a_kinds tv1a_firsts tv1a_seconds ts0f_facts ts0a_heard ts0a_huts ts0a_minutes ts1f_facts ts1a_heard ts1a_huts ts1a_minutes tc0f_voices tc0f_step tc0a_parts tc0a_heights tc1f_voices tc1f_step tc1a_parts tc1a_heights m_images rlf_huts rlf_singers rlf_villages rlf_dams rlf_echoes rlf_deep rlf_slide rla_heights rla_ladders rla_minutes rla_echoFrom rla_echoTo rla_homes rla_talls rla_known rvf_deeds rva_kinds rva_firsts rva_seconds rsf_facts rsa_heard rsa_huts rsa_minutes rcf_voices rcf_step rca_parts rca_heights rf_fault rf_faultPlace ra_numbers ra_tape rf_length rf_behind rf_kind rf_first rf_value rf_hutsToldOf rf_singersToldOf nf_minute nf_avalanches nf_begun nf_climbed nf_seed na_huts na_known na_levels na_snow na_open pa_heard pa_walked pa_total pa_longest pa_next pa_cover pa_now pa_then ko_stands ka_gaps ka_behind ba_less ba_full ia_tape if_length if_fault if_place ia_counts il0f_huts il0f_singers il0f_villages il0f_dams il0f_echoes il0f_deep il0f_slide il0a_heights il0a_ladders il0a_minutes il0a_echoFrom il0a_echoTo il0a_homes il0a_talls il0a_known il1f_huts il1f_singers il1f_villages il1f_dams il1f_echoes il1f_deep il1f_slide il1a_heights il1a_ladders il1a_minutes il1a_echoFrom il1a_echoTo il1a_homes il1a_talls il1a_known iv0f_deeds iv0a_kinds iv0a_firsts iv0a_seconds iv1f_deeds iv1a_kinds iv1a_firsts iv1a_seconds is0f_facts is0a_heard is0a_huts is0a_minutes is1f_facts is1a_heard is1a_huts is1a_minutes ic0f_voices ic0f_step ic0a_parts ic0a_heights ic1f_voices ic1f_step ic1a_parts ic1a_heights U.heap ∧ zK E U)) (zQi (S := Unit) (fun r _ => r = 1) (fun _ H => ∃ na_tape nf_length nf_fault nf_place na_counts nl0f_huts nl0f_singers nl0f_villages nl0f_dams nl0f_echoes nl0f_deep nl0f_slide nl0a_heights nl0a_ladders nl0a_minutes nl0a_echoFrom nl0a_echoTo nl0a_homes nl0a_talls nl0a_known nl1f_huts nl1f_singers nl1f_villages nl1f_dams nl1f_echoes nl1f_deep nl1f_slide nl1a_heights nl1a_ladders nl1a_minutes nl1a_echoFrom nl1a_echoTo nl1a_homes nl1a_talls nl1a_known nv0f_deeds nv0a_kinds nv0a_firsts nv0a_seconds nv1f_deeds nv1a_kinds nv1a_firsts nv1a_seconds ns0f_facts ns0a_heard ns0a_huts ns0a_minutes ns1f_facts ns1a_heard ns1a_huts ns1a_minutes nc0f_voices nc0f_step nc0a_parts nc0a_heights nc1f_voices nc1f_step nc1a_parts nc1a_heights, tG na_tape nf_length nf_fault nf_place na_counts nl0f_huts nl0f_singers nl0f_villages nl0f_dams nl0f_echoes nl0f_deep nl0f_slide nl0a_heights nl0a_ladders nl0a_minutes nl0a_echoFrom nl0a_echoTo nl0a_homes nl0a_talls nl0a_known nl1f_huts nl1f_singers nl1f_villages nl1f_dams nl1f_echoes nl1f_deep nl1f_slide nl1a_heights nl1a_ladders nl1a_minutes nl1a_echoFrom nl1a_echoTo nl1a_homes nl1a_talls nl1a_known nv0f_deeds nv0a_kinds nv0a_firsts nv0a_seconds nv1f_deeds nv1a_kinds nv1a_firsts nv1a_seconds ns0f_facts ns0a_heard ns0a_huts ns0a_minutes ns1f_facts ns1a_heard ns1a_huts ns1a_minutes nc0f_voices nc0f_step nc0a_parts nc0a_heights nc1f_voices nc1f_step nc1a_parts nc1a_heights ∧ wxiW E qx qi ta_tape tf_length tf_fault tf_place ta_counts tl0f_huts tl0f_singers tl0f_villages tl0f_dams tl0f_echoes tl0f_deep tl0f_slide tl0a_heights tl0a_ladders tl0a_minutes tl0a_echoFrom tl0a_echoTo tl0a_homes tl0a_talls tl0a_known tl1f_huts tl1f_singers tl1f_villages tl1f_dams tl1f_echoes tl1f_deep tl1f_slide tl1a_heights tl1a_ladders tl1a_minutes tl1a_echoFrom tl1a_echoTo tl1a_homes tl1a_talls tl1a_known tv0f_deeds tv0a_kinds tv0a_firsts tv0a_seconds tv1f_deeds tv1a_kinds tv1a_firsts tv1a_seconds ts0f_facts ts0a_heard ts0a_huts ts0a_minutes ts1f_facts ts1a_heard ts1a_huts ts1a_minutes tc0f_voices tc0f_step tc0a_parts tc0a_heights tc1f_voices tc1f_step tc1a_parts tc1a_heights m_images rlf_huts rlf_singers rlf_villages rlf_dams rlf_echoes rlf_deep rlf_slide rla_heights rla_ladders rla_minutes rla_echoFrom rla_echoTo rla_homes rla_talls rla_known rvf_deeds rva_kinds rva_firsts rva_seconds rsf_facts rsa_heard rsa_huts rsa_minutes rcf_voices rcf_step rca_parts rca_heights rf_fault rf_faultPlace ra_numbers ra_tape rf_length rf_behind rf_kind rf_first rf_value rf_hutsToldOf rf_singersToldOf nf_minute nf_avalanches nf_begun nf_climbed nf_seed na_huts na_known na_levels na_snow na_open pa_heard pa_walked pa_total pa_longest pa_next pa_cover pa_now pa_then ko_stands ka_gaps ka_behind ba_less ba_full na_tape nf_length nf_fault nf_place na_counts nl0f_huts nl0f_singers nl0f_villages nl0f_dams nl0f_echoes nl0f_deep nl0f_slide nl0a_heights nl0a_ladders nl0a_minutes nl0a_echoFrom nl0a_echoTo nl0a_homes nl0a_talls nl0a_known nl1f_huts nl1f_singers nl1f_villages nl1f_dams nl1f_echoes nl1f_deep nl1f_slide nl1a_heights nl1a_ladders nl1a_minutes nl1a_echoFrom nl1a_echoTo nl1a_homes nl1a_talls nl1a_known nv0f_deeds nv0a_kinds nv0a_firsts nv0a_seconds nv1f_deeds nv1a_kinds nv1a_firsts nv1a_seconds ns0f_facts ns0a_heard ns0a_huts ns0a_minutes ns1f_facts ns1a_heard ns1a_huts ns1a_minutes nc0f_voices nc0f_step nc0a_parts nc0a_heights nc1f_voices nc1f_step nc1a_parts nc1a_heights H) (wttA qi (qx + 1))) 0 0 (wttA qi (qx + 1)) := by
  refine Met.ofW (cc := cX10_image) (maxL := 2) (ret := (some .boolean)) (by decide) rfl ?_
  intro p e s m args below meth c s₁ B hml hv
  obtain ⟨rfl, hM, hK⟩ := hv
  have zc := zc_of B hml
  have hx := zc.1
  have hb := zc.2.1
  have hl := lv_entry ([.ref qx, .int x1]) (n := 2) (Nat.le_of_ble_eq_true rfl)
  rw [lg_entry_eq]
  generalize (lg_sl ([.ref qx, .int x1]) ++ List.replicate (2 - (lg_sl ([.ref qx, .int x1])).length) Slot.unset).toArray = ls at hl ⊢
  have hl : lv_has ls 2 [(0, .ref qx), (1, .int x1)] := hl
  have hMx := xi_x hM
  have hin : vp_in x1 3 := iv_in (iv_lta (l := 0) (h := 2) (r_lt hr.2) (iv_leb (l := 0) (h := 2147483647) (r_nlt hr.1) (iv_lit (x := 0) (l := 0) (h := 0) (by decide)) (iv_top x1) (by decide)) (iv_lit (x := 3) (l := 3) (h := 3) (by decide)) (by decide)) (by decide)
  refine lv_iload_n hx hb dX10_image_0 rfl (lv_at hl 1 rfl) ?_
  refine lv_if_lt (tgt := 9) hx hb dX10_image_1 (by decide) (fun hc => absurd hc hr.1) (fun hc => ?_)
  refine lv_iload_n hx hb dX10_image_4 rfl (lv_at hl 1 rfl) ?_
  refine lv_iconst (v := (3 : Int32)) hx hb dX10_image_5 (by decide) ?_
  refine lv_icmp_lt (tgt := 11) hx hb dX10_image_6 (by decide) (fun hd => ?_) (fun hd => absurd hr.2 hd)
  refine lv_aload_n hx hb dX10_image_11 rfl (lv_at hl 0 rfl) ?_
  refine va_get (D := E.1) (ci := 10) (v := .ref (qx + 48)) (C := RX10) (T := TX10) (N := 7) hx hb zc.2.2.2.2.1 uw10 zc.2.2.2.1 hK.1 hMx 0 rfl rfl 1 (by decide) (zc.2.2.2.2.1 _ kf_10_16) (fun _ h9 => h9) rfl dX10_image_12 ?_
  refine lv_iload_n hx hb dX10_image_15 rfl (lv_at hl 1 rfl) ?_
  refine va_aldq hx hb hK.1 hMx 48 8 rfl rfl hin dX10_image_16 ?_
  rw [hm]
  refine W.eq (g2 := F0 m 17 ls (.ref qi :: [])) rfl ?_
  refine lv_ifnonnull (tgt := 33) hx hb dX10_image_17 (by decide) ?_
  exact im_tail zc hK hM hT hI hin hm va_S.rf (fun _ h => h) hl
set_option maxRecDepth 40000 in
theorem tG_0 : tG (fun _ => 0) 0 0 (-1) (fun _ => 0) 0 0 0 0 0 2 5 (fun _ => 0) (fun _ => 0) (fun _ => 0) (fun _ => 0) (fun _ => 0) (fun _ => 0) (fun _ => 0) (fun _ => 0) 0 0 0 0 0 2 5 (fun _ => 0) (fun _ => 0) (fun _ => 0) (fun _ => 0) (fun _ => 0) (fun _ => 0) (fun _ => 0) (fun _ => 0) 0 (fun _ => 0) (fun _ => 0) (fun _ => 0) 0 (fun _ => 0) (fun _ => 0) (fun _ => 0) 0 (fun _ => 0) (fun _ => 0) (fun _ => 0) 0 (fun _ => 0) (fun _ => 0) (fun _ => 0) 0 0 (fun _ => 0) (fun _ => 0) 0 0 (fun _ => 0) (fun _ => 0) := by unfold tG; refine ⟨fun _ => iv_lit (x := 0) (by decide), ⟨by decide, by decide⟩, ⟨by decide, by decide⟩, ⟨by decide, by decide⟩, fun _ => iv_lit (x := 0) (by decide), ⟨by decide, by decide⟩, ⟨by decide, by decide⟩, ⟨by decide, by decide⟩, ⟨by decide, by decide⟩, ⟨by decide, by decide⟩, ⟨by decide, by decide⟩, ⟨by decide, by decide⟩, fun _ => iv_lit (x := 0) (by decide), fun _ => iv_lit (x := 0) (by decide), fun _ => iv_lit (x := 0) (by decide), fun _ => iv_lit (x := 0) (by decide), fun _ => iv_lit (x := 0) (by decide), fun _ => iv_lit (x := 0) (by decide), fun _ => iv_lit (x := 0) (by decide), fun _ => iv_lit (x := 0) (by decide), ⟨by decide, by decide⟩, ⟨by decide, by decide⟩, ⟨by decide, by decide⟩, ⟨by decide, by decide⟩, ⟨by decide, by decide⟩, ⟨by decide, by decide⟩, ⟨by decide, by decide⟩, fun _ => iv_lit (x := 0) (by decide), fun _ => iv_lit (x := 0) (by decide), fun _ => iv_lit (x := 0) (by decide), fun _ => iv_lit (x := 0) (by decide), fun _ => iv_lit (x := 0) (by decide), fun _ => iv_lit (x := 0) (by decide), fun _ => iv_lit (x := 0) (by decide), fun _ => iv_lit (x := 0) (by decide), ⟨by decide, by decide⟩, fun _ => iv_lit (x := 0) (by decide), fun _ => iv_lit (x := 0) (by decide), fun _ => iv_lit (x := 0) (by decide), ⟨by decide, by decide⟩, fun _ => iv_lit (x := 0) (by decide), fun _ => iv_lit (x := 0) (by decide), fun _ => iv_lit (x := 0) (by decide), ⟨by decide, by decide⟩, fun _ => iv_lit (x := 0) (by decide), fun _ => iv_lit (x := 0) (by decide), fun _ => iv_lit (x := 0) (by decide), ⟨by decide, by decide⟩, fun _ => iv_lit (x := 0) (by decide), fun _ => iv_lit (x := 0) (by decide), fun _ => iv_lit (x := 0) (by decide), ⟨by decide, by decide⟩, ⟨by decide, by decide⟩, fun _ => iv_lit (x := 0) (by decide), fun _ => iv_lit (x := 0) (by decide), ⟨by decide, by decide⟩, ⟨by decide, by decide⟩, fun _ => iv_lit (x := 0) (by decide), fun _ => iv_lit (x := 0) (by decide)⟩
set_option maxRecDepth 40000 in
set_option maxHeartbeats 4000000 in
theorem wt_0 {E : zE} {h : Nat} {H : Heap} (g9 : va_P E.1 zcl (zb_X9_init E h) H) : wtW E h (fun _ => 0) 0 0 (-1) (fun _ => 0) 0 0 0 0 0 2 5 (fun _ => 0) (fun _ => 0) (fun _ => 0) (fun _ => 0) (fun _ => 0) (fun _ => 0) (fun _ => 0) (fun _ => 0) 0 0 0 0 0 2 5 (fun _ => 0) (fun _ => 0) (fun _ => 0) (fun _ => 0) (fun _ => 0) (fun _ => 0) (fun _ => 0) (fun _ => 0) 0 (fun _ => 0) (fun _ => 0) (fun _ => 0) 0 (fun _ => 0) (fun _ => 0) (fun _ => 0) 0 (fun _ => 0) (fun _ => 0) (fun _ => 0) 0 (fun _ => 0) (fun _ => 0) (fun _ => 0) 0 0 (fun _ => 0) (fun _ => 0) 0 0 (fun _ => 0) (fun _ => 0) H := g9
set_option maxRecDepth 40000 in
set_option maxHeartbeats 4000000 in
theorem c_image_new (l : Launch) {E : zE} {qx h : Nat} {ta_tape : Nat → Int32} {tf_length : Int32} {tf_fault : Int32} {tf_place : Int32} {ta_counts : Nat → Int32} {tl0f_huts : Int32} {tl0f_singers : Int32} {tl0f_villages : Int32} {tl0f_dams : Int32} {tl0f_echoes : Int32} {tl0f_deep : Int32} {tl0f_slide : Int32} {tl0a_heights : Nat → Int32} {tl0a_ladders : Nat → Int32} {tl0a_minutes : Nat → Int32} {tl0a_echoFrom : Nat → Int32} {tl0a_echoTo : Nat → Int32} {tl0a_homes : Nat → Int32} {tl0a_talls : Nat → Int32} {tl0a_known : Nat → Int32} {tl1f_huts : Int32} {tl1f_singers : Int32} {tl1f_villages : Int32} {tl1f_dams : Int32} {tl1f_echoes : Int32} {tl1f_deep : Int32} {tl1f_slide : Int32} {tl1a_heights : Nat → Int32} {tl1a_ladders : Nat → Int32} {tl1a_minutes : Nat → Int32} {tl1a_echoFrom : Nat → Int32} {tl1a_echoTo : Nat → Int32} {tl1a_homes : Nat → Int32} {tl1a_talls : Nat → Int32} {tl1a_known : Nat → Int32} {tv0f_deeds : Int32} {tv0a_kinds : Nat → Int32} {tv0a_firsts : Nat → Int32} {tv0a_seconds : Nat → Int32} {tv1f_deeds : Int32} {tv1a_kinds : Nat → Int32} {tv1a_firsts : Nat → Int32} {tv1a_seconds : Nat → Int32} {ts0f_facts : Int32} {ts0a_heard : Nat → Int32} {ts0a_huts : Nat → Int32} {ts0a_minutes : Nat → Int32} {ts1f_facts : Int32} {ts1a_heard : Nat → Int32} {ts1a_huts : Nat → Int32} {ts1a_minutes : Nat → Int32} {tc0f_voices : Int32} {tc0f_step : Int32} {tc0a_parts : Nat → Int32} {tc0a_heights : Nat → Int32} {tc1f_voices : Int32} {tc1f_step : Int32} {tc1a_parts : Nat → Int32} {tc1a_heights : Nat → Int32} {m_images : Nat → Option Nat} {rlf_huts : Int32} {rlf_singers : Int32} {rlf_villages : Int32} {rlf_dams : Int32} {rlf_echoes : Int32} {rlf_deep : Int32} {rlf_slide : Int32} {rla_heights : Nat → Int32} {rla_ladders : Nat → Int32} {rla_minutes : Nat → Int32} {rla_echoFrom : Nat → Int32} {rla_echoTo : Nat → Int32} {rla_homes : Nat → Int32} {rla_talls : Nat → Int32} {rla_known : Nat → Int32} {rvf_deeds : Int32} {rva_kinds : Nat → Int32} {rva_firsts : Nat → Int32} {rva_seconds : Nat → Int32} {rsf_facts : Int32} {rsa_heard : Nat → Int32} {rsa_huts : Nat → Int32} {rsa_minutes : Nat → Int32} {rcf_voices : Int32} {rcf_step : Int32} {rca_parts : Nat → Int32} {rca_heights : Nat → Int32} {rf_fault : Int32} {rf_faultPlace : Int32} {ra_numbers : Nat → Int32} {ra_tape : Nat → Int32} {rf_length : Int32} {rf_behind : Int32} {rf_kind : Int32} {rf_first : Int32} {rf_value : Int32} {rf_hutsToldOf : Int32} {rf_singersToldOf : Int32} {nf_minute : Int32} {nf_avalanches : Int32} {nf_begun : Int32} {nf_climbed : Int32} {nf_seed : Int32} {na_huts : Nat → Int32} {na_known : Nat → Int32} {na_levels : Nat → Int32} {na_snow : Nat → Int32} {na_open : Nat → Int32} {pa_heard : Nat → Int32} {pa_walked : Nat → Int32} {pa_total : Nat → Int32} {pa_longest : Nat → Int32} {pa_next : Nat → Int32} {pa_cover : Nat → Int32} {pa_now : Nat → Int32} {pa_then : Nat → Int32} {ko_stands : Option Nat} {ka_gaps : Nat → Int32} {ka_behind : Nat → Int32} {ba_less : Nat → Int32} {ba_full : Nat → Int32} {x1 : Int32} (hr : ¬ x1 < 0 ∧ x1 < 3) (hm : m_images (Int32.toNatClampNeg x1) = none) (hT : tG ta_tape tf_length tf_fault tf_place ta_counts tl0f_huts tl0f_singers tl0f_villages tl0f_dams tl0f_echoes tl0f_deep tl0f_slide tl0a_heights tl0a_ladders tl0a_minutes tl0a_echoFrom tl0a_echoTo tl0a_homes tl0a_talls tl0a_known tl1f_huts tl1f_singers tl1f_villages tl1f_dams tl1f_echoes tl1f_deep tl1f_slide tl1a_heights tl1a_ladders tl1a_minutes tl1a_echoFrom tl1a_echoTo tl1a_homes tl1a_talls tl1a_known tv0f_deeds tv0a_kinds tv0a_firsts tv0a_seconds tv1f_deeds tv1a_kinds tv1a_firsts tv1a_seconds ts0f_facts ts0a_heard ts0a_huts ts0a_minutes ts1f_facts ts1a_heard ts1a_huts ts1a_minutes tc0f_voices tc0f_step tc0a_parts tc0a_heights tc1f_voices tc1f_step tc1a_parts tc1a_heights) : Met l yX10_image (Cond.code yX10_image cX10_image 2 (some .boolean) :: zb) (rmI 47 1261) (va_Pc [.ref qx, .int x1] (fun U => (U.heap.size = h ∧ qx + 93 ≤ h) ∧ wxW E qx ta_tape tf_length tf_fault tf_place ta_counts tl0f_huts tl0f_singers tl0f_villages tl0f_dams tl0f_echoes tl0f_deep tl0f_slide tl0a_heights tl0a_ladders tl0a_minutes tl0a_echoFrom tl0a_echoTo tl0a_homes tl0a_talls tl0a_known tl1f_huts tl1f_singers tl1f_villages tl1f_dams tl1f_echoes tl1f_deep tl1f_slide tl1a_heights tl1a_ladders tl1a_minutes tl1a_echoFrom tl1a_echoTo tl1a_homes tl1a_talls tl1a_known tv0f_deeds tv0a_kinds tv0a_firsts tv0a_seconds tv1f_deeds tv1a_kinds tv1a_firsts tv1a_seconds ts0f_facts ts0a_heard ts0a_huts ts0a_minutes ts1f_facts ts1a_heard ts1a_huts ts1a_minutes tc0f_voices tc0f_step tc0a_parts tc0a_heights tc1f_voices tc1f_step tc1a_parts tc1a_heights m_images rlf_huts rlf_singers rlf_villages rlf_dams rlf_echoes rlf_deep rlf_slide rla_heights rla_ladders rla_minutes rla_echoFrom rla_echoTo rla_homes rla_talls rla_known rvf_deeds rva_kinds rva_firsts rva_seconds rsf_facts rsa_heard rsa_huts rsa_minutes rcf_voices rcf_step rca_parts rca_heights rf_fault rf_faultPlace ra_numbers ra_tape rf_length rf_behind rf_kind rf_first rf_value rf_hutsToldOf rf_singersToldOf nf_minute nf_avalanches nf_begun nf_climbed nf_seed na_huts na_known na_levels na_snow na_open pa_heard pa_walked pa_total pa_longest pa_next pa_cover pa_now pa_then ko_stands ka_gaps ka_behind ba_less ba_full U.heap ∧ zK E U ∧ zO U)) (zQi (S := Unit) (fun r _ => r = 1) (fun _ H => ∃ na_tape nf_length nf_fault nf_place na_counts nl0f_huts nl0f_singers nl0f_villages nl0f_dams nl0f_echoes nl0f_deep nl0f_slide nl0a_heights nl0a_ladders nl0a_minutes nl0a_echoFrom nl0a_echoTo nl0a_homes nl0a_talls nl0a_known nl1f_huts nl1f_singers nl1f_villages nl1f_dams nl1f_echoes nl1f_deep nl1f_slide nl1a_heights nl1a_ladders nl1a_minutes nl1a_echoFrom nl1a_echoTo nl1a_homes nl1a_talls nl1a_known nv0f_deeds nv0a_kinds nv0a_firsts nv0a_seconds nv1f_deeds nv1a_kinds nv1a_firsts nv1a_seconds ns0f_facts ns0a_heard ns0a_huts ns0a_minutes ns1f_facts ns1a_heard ns1a_huts ns1a_minutes nc0f_voices nc0f_step nc0a_parts nc0a_heights nc1f_voices nc1f_step nc1a_parts nc1a_heights, tG na_tape nf_length nf_fault nf_place na_counts nl0f_huts nl0f_singers nl0f_villages nl0f_dams nl0f_echoes nl0f_deep nl0f_slide nl0a_heights nl0a_ladders nl0a_minutes nl0a_echoFrom nl0a_echoTo nl0a_homes nl0a_talls nl0a_known nl1f_huts nl1f_singers nl1f_villages nl1f_dams nl1f_echoes nl1f_deep nl1f_slide nl1a_heights nl1a_ladders nl1a_minutes nl1a_echoFrom nl1a_echoTo nl1a_homes nl1a_talls nl1a_known nv0f_deeds nv0a_kinds nv0a_firsts nv0a_seconds nv1f_deeds nv1a_kinds nv1a_firsts nv1a_seconds ns0f_facts ns0a_heard ns0a_huts ns0a_minutes ns1f_facts ns1a_heard ns1a_huts ns1a_minutes nc0f_voices nc0f_step nc0a_parts nc0a_heights nc1f_voices nc1f_step nc1a_parts nc1a_heights ∧ wxiW E qx h ta_tape tf_length tf_fault tf_place ta_counts tl0f_huts tl0f_singers tl0f_villages tl0f_dams tl0f_echoes tl0f_deep tl0f_slide tl0a_heights tl0a_ladders tl0a_minutes tl0a_echoFrom tl0a_echoTo tl0a_homes tl0a_talls tl0a_known tl1f_huts tl1f_singers tl1f_villages tl1f_dams tl1f_echoes tl1f_deep tl1f_slide tl1a_heights tl1a_ladders tl1a_minutes tl1a_echoFrom tl1a_echoTo tl1a_homes tl1a_talls tl1a_known tv0f_deeds tv0a_kinds tv0a_firsts tv0a_seconds tv1f_deeds tv1a_kinds tv1a_firsts tv1a_seconds ts0f_facts ts0a_heard ts0a_huts ts0a_minutes ts1f_facts ts1a_heard ts1a_huts ts1a_minutes tc0f_voices tc0f_step tc0a_parts tc0a_heights tc1f_voices tc1f_step tc1a_parts tc1a_heights (va_up m_images (Int32.toNatClampNeg x1) (some h)) rlf_huts rlf_singers rlf_villages rlf_dams rlf_echoes rlf_deep rlf_slide rla_heights rla_ladders rla_minutes rla_echoFrom rla_echoTo rla_homes rla_talls rla_known rvf_deeds rva_kinds rva_firsts rva_seconds rsf_facts rsa_heard rsa_huts rsa_minutes rcf_voices rcf_step rca_parts rca_heights rf_fault rf_faultPlace ra_numbers ra_tape rf_length rf_behind rf_kind rf_first rf_value rf_hutsToldOf rf_singersToldOf nf_minute nf_avalanches nf_begun nf_climbed nf_seed na_huts na_known na_levels na_snow na_open pa_heard pa_walked pa_total pa_longest pa_next pa_cover pa_now pa_then ko_stands ka_gaps ka_behind ba_less ba_full na_tape nf_length nf_fault nf_place na_counts nl0f_huts nl0f_singers nl0f_villages nl0f_dams nl0f_echoes nl0f_deep nl0f_slide nl0a_heights nl0a_ladders nl0a_minutes nl0a_echoFrom nl0a_echoTo nl0a_homes nl0a_talls nl0a_known nl1f_huts nl1f_singers nl1f_villages nl1f_dams nl1f_echoes nl1f_deep nl1f_slide nl1a_heights nl1a_ladders nl1a_minutes nl1a_echoFrom nl1a_echoTo nl1a_homes nl1a_talls nl1a_known nv0f_deeds nv0a_kinds nv0a_firsts nv0a_seconds nv1f_deeds nv1a_kinds nv1a_firsts nv1a_seconds ns0f_facts ns0a_heard ns0a_huts ns0a_minutes ns1f_facts ns1a_heard ns1a_huts ns1a_minutes nc0f_voices nc0f_step nc0a_parts nc0a_heights nc1f_voices nc1f_step nc1a_parts nc1a_heights H) (zImA qx h)) 47 1261 (zImA qx h) := by
  refine Met.ofW (cc := cX10_image) (maxL := 2) (ret := (some .boolean)) (by decide) rfl ?_
  intro p e s m args below meth c s₁ B hml hv
  obtain ⟨rfl, ⟨hsz, hqh⟩, hMx, hK, hO⟩ := hv
  have zc := zc_of B hml
  have hx := zc.1
  have hb := zc.2.1
  have hl := lv_entry ([.ref qx, .int x1]) (n := 2) (Nat.le_of_ble_eq_true rfl)
  rw [lg_entry_eq]
  generalize (lg_sl ([.ref qx, .int x1]) ++ List.replicate (2 - (lg_sl ([.ref qx, .int x1])).length) Slot.unset).toArray = ls at hl ⊢
  have hl : lv_has ls 2 [(0, .ref qx), (1, .int x1)] := hl
  have hS : va_S (zImA qx h) s.heap s.heap [] := va_S.rf
  have hin : vp_in x1 3 := iv_in (iv_lta (l := 0) (h := 2) (r_lt hr.2) (iv_leb (l := 0) (h := 2147483647) (r_nlt hr.1) (iv_lit (x := 0) (l := 0) (h := 0) (by decide)) (iv_top x1) (by decide)) (iv_lit (x := 3) (l := 3) (h := 3) (by decide)) (by decide)) (by decide)
  refine lv_iload_n hx hb dX10_image_0 rfl (lv_at hl 1 rfl) ?_
  refine lv_if_lt (tgt := 9) hx hb dX10_image_1 (by decide) (fun hc => absurd hc hr.1) (fun hc => ?_)
  refine lv_iload_n hx hb dX10_image_4 rfl (lv_at hl 1 rfl) ?_
  refine lv_iconst (v := (3 : Int32)) hx hb dX10_image_5 (by decide) ?_
  refine lv_icmp_lt (tgt := 11) hx hb dX10_image_6 (by decide) (fun hd => ?_) (fun hd => absurd hr.2 hd)
  refine lv_aload_n hx hb dX10_image_11 rfl (lv_at hl 0 rfl) ?_
  refine va_get (D := E.1) (ci := 10) (v := .ref (qx + 48)) (C := RX10) (T := TX10) (N := 7) hx hb zc.2.2.2.2.1 uw10 zc.2.2.2.1 hK.1 hMx 0 rfl rfl 1 (by decide) (zc.2.2.2.2.1 _ kf_10_16) (fun _ h9 => h9) rfl dX10_image_12 ?_
  refine lv_iload_n hx hb dX10_image_15 rfl (lv_at hl 1 rfl) ?_
  refine va_aldq hx hb hK.1 hMx 48 8 rfl rfl hin dX10_image_16 ?_
  rw [hm]
  refine W.eq (g2 := F0 m 17 ls (.null :: [])) rfl ?_
  refine lv_ifnonnullN hx hb dX10_image_17 ?_
  refine lv_aload_n hx hb dX10_image_20 rfl (lv_at hl 0 rfl) ?_
  refine va_get (D := E.1) (ci := 10) (v := .ref (qx + 48)) (C := RX10) (T := TX10) (N := 7) hx hb zc.2.2.2.2.1 uw10 zc.2.2.2.1 hK.1 hMx 0 rfl rfl 1 (by decide) (zc.2.2.2.2.1 _ kf_10_16) (fun _ h9 => h9) rfl dX10_image_21 ?_
  refine lv_iload_n hx hb dX10_image_24 rfl (lv_at hl 1 rfl) ?_
  refine zNew (ws := []) (C := RX9) (T := TX9) (N := 9) (ci := 9) zc hK (fun k q h => by simp at h) hS hsz uw9 tyX9 tyX9_ok kcl_10_7 kins_9 kinit_9 rfl [.null, .int 0, .int 0, .int 0, .null, .null, .null, .null, .null] (fun j hj => match j, hj with | 0, _ => rfl | 1, _ => rfl | 2, _ => rfl | 3, _ => rfl | 4, _ => rfl | 5, _ => rfl | 6, _ => rfl | 7, _ => rfl | 8, _ => rfl | j + 9, hj => absurd hj (by omega)) (Nat.le_of_ble_eq_true rfl) (Nat.le_of_ble_eq_true rfl) dX10_image_25 (fun H1 hN o1 hz1 hS => ?_)
  have hMx := wx_kp hMx (fun z _ _ h3 => o1 z (Nat.lt_of_lt_of_le h3 hqh))
  have g9 : va_P E.1 zcl [(h, .inr (9, [.null, .int 0, .int 0, .int 0, .null, .null, .null, .null, .null]))] H1 := hN
  refine W.cs (cells' := 1) (slots' := 9) rfl rfl ?_
  refine lv_dup hx hb dX10_image_28 rfl ?_
  refine zIc zc ky_X9_init kz_X9_init rfl km_10_9 (ci_X9_init l) (zIpre hK hO g9 hz1) hS (fun q (hq : h ≤ q) => Or.inr hq) hl.1 (Nat.le_of_ble_eq_true rfl) ⟨rfl, rfl⟩ ⟨(Nat.le_of_ble_eq_true rfl), (Nat.le_of_ble_eq_true rfl)⟩ ⟨(Nat.le_of_ble_eq_true rfl), (Nat.le_of_ble_eq_true rfl)⟩ dX10_image_29 (fun _ H2 locs _ hJ hk hS => ?_)
  have hMx := wx_kp hMx (fun z h1 _ h3 => hk z h1 (fun (hq : h ≤ z) => absurd (Nat.lt_of_lt_of_le h3 hqh) (Nat.not_lt.mpr hq)))
  have g9 := hJ.1
  refine W.cs (cells' := 47) (slots' := 1261) rfl rfl ?_
  refine zAast (t := 8) (r := (RX9, TX9, 9)) zc hK hMx ((wxD E qx ta_tape tf_length tf_fault tf_place ta_counts tl0f_huts tl0f_singers tl0f_villages tl0f_dams tl0f_echoes tl0f_deep tl0f_slide tl0a_heights tl0a_ladders tl0a_minutes tl0a_echoFrom tl0a_echoTo tl0a_homes tl0a_talls tl0a_known tl1f_huts tl1f_singers tl1f_villages tl1f_dams tl1f_echoes tl1f_deep tl1f_slide tl1a_heights tl1a_ladders tl1a_minutes tl1a_echoFrom tl1a_echoTo tl1a_homes tl1a_talls tl1a_known tv0f_deeds tv0a_kinds tv0a_firsts tv0a_seconds tv1f_deeds tv1a_kinds tv1a_firsts tv1a_seconds ts0f_facts ts0a_heard ts0a_huts ts0a_minutes ts1f_facts ts1a_heard ts1a_huts ts1a_minutes tc0f_voices tc0f_step tc0a_parts tc0a_heights tc1f_voices tc1f_step tc1a_parts tc1a_heights m_images rlf_huts rlf_singers rlf_villages rlf_dams rlf_echoes rlf_deep rlf_slide rla_heights rla_ladders rla_minutes rla_echoFrom rla_echoTo rla_homes rla_talls rla_known rvf_deeds rva_kinds rva_firsts rva_seconds rsf_facts rsa_heard rsa_huts rsa_minutes rcf_voices rcf_step rca_parts rca_heights rf_fault rf_faultPlace ra_numbers ra_tape rf_length rf_behind rf_kind rf_first rf_value rf_hutsToldOf rf_singersToldOf nf_minute nf_avalanches nf_begun nf_climbed nf_seed na_huts na_known na_levels na_snow na_open pa_heard pa_walked pa_total pa_longest pa_next pa_cover pa_now pa_then ko_stands ka_gaps ka_behind ba_less ba_full).weaken (fun _ _ _ h => Or.inl h)) hS 48 0 rfl rfl g9 rfl rfl hin dX10_image_32 (fun H3 locs hN oq hz3 hS => ?_)
  have hMx : wxW E qx ta_tape tf_length tf_fault tf_place ta_counts tl0f_huts tl0f_singers tl0f_villages tl0f_dams tl0f_echoes tl0f_deep tl0f_slide tl0a_heights tl0a_ladders tl0a_minutes tl0a_echoFrom tl0a_echoTo tl0a_homes tl0a_talls tl0a_known tl1f_huts tl1f_singers tl1f_villages tl1f_dams tl1f_echoes tl1f_deep tl1f_slide tl1a_heights tl1a_ladders tl1a_minutes tl1a_echoFrom tl1a_echoTo tl1a_homes tl1a_talls tl1a_known tv0f_deeds tv0a_kinds tv0a_firsts tv0a_seconds tv1f_deeds tv1a_kinds tv1a_firsts tv1a_seconds ts0f_facts ts0a_heard ts0a_huts ts0a_minutes ts1f_facts ts1a_heard ts1a_huts ts1a_minutes tc0f_voices tc0f_step tc0a_parts tc0a_heights tc1f_voices tc1f_step tc1a_parts tc1a_heights (va_up m_images (Int32.toNatClampNeg x1) (some h)) rlf_huts rlf_singers rlf_villages rlf_dams rlf_echoes rlf_deep rlf_slide rla_heights rla_ladders rla_minutes rla_echoFrom rla_echoTo rla_homes rla_talls rla_known rvf_deeds rva_kinds rva_firsts rva_seconds rsf_facts rsa_heard rsa_huts rsa_minutes rcf_voices rcf_step rca_parts rca_heights rf_fault rf_faultPlace ra_numbers ra_tape rf_length rf_behind rf_kind rf_first rf_value rf_hutsToldOf rf_singersToldOf nf_minute nf_avalanches nf_begun nf_climbed nf_seed na_huts na_known na_levels na_snow na_open pa_heard pa_walked pa_total pa_longest pa_next pa_cover pa_now pa_then ko_stands ka_gaps ka_behind ba_less ba_full H3 := hN
  have g9 := zkp g9 zrg_X9_init (fun q _ h2 _ => oq q (by omega))
  exact im_tail zc hK (xi_of hMx (wt_0 g9) hqh) hT tG_0 hin (va_up_self _ _ _) hS (fun q hq => by unfold wttA at hq; unfold zImA zR; omega) hl
set_option maxRecDepth 40000 in
set_option maxHeartbeats 4000000 in
theorem c_again_no (l : Launch) {E : zE} {qx : Nat} {ta_tape : Nat → Int32} {tf_length : Int32} {tf_fault : Int32} {tf_place : Int32} {ta_counts : Nat → Int32} {tl0f_huts : Int32} {tl0f_singers : Int32} {tl0f_villages : Int32} {tl0f_dams : Int32} {tl0f_echoes : Int32} {tl0f_deep : Int32} {tl0f_slide : Int32} {tl0a_heights : Nat → Int32} {tl0a_ladders : Nat → Int32} {tl0a_minutes : Nat → Int32} {tl0a_echoFrom : Nat → Int32} {tl0a_echoTo : Nat → Int32} {tl0a_homes : Nat → Int32} {tl0a_talls : Nat → Int32} {tl0a_known : Nat → Int32} {tl1f_huts : Int32} {tl1f_singers : Int32} {tl1f_villages : Int32} {tl1f_dams : Int32} {tl1f_echoes : Int32} {tl1f_deep : Int32} {tl1f_slide : Int32} {tl1a_heights : Nat → Int32} {tl1a_ladders : Nat → Int32} {tl1a_minutes : Nat → Int32} {tl1a_echoFrom : Nat → Int32} {tl1a_echoTo : Nat → Int32} {tl1a_homes : Nat → Int32} {tl1a_talls : Nat → Int32} {tl1a_known : Nat → Int32} {tv0f_deeds : Int32} {tv0a_kinds : Nat → Int32} {tv0a_firsts : Nat → Int32} {tv0a_seconds : Nat → Int32} {tv1f_deeds : Int32} {tv1a_kinds : Nat → Int32} {tv1a_firsts : Nat → Int32} {tv1a_seconds : Nat → Int32} {ts0f_facts : Int32} {ts0a_heard : Nat → Int32} {ts0a_huts : Nat → Int32} {ts0a_minutes : Nat → Int32} {ts1f_facts : Int32} {ts1a_heard : Nat → Int32} {ts1a_huts : Nat → Int32} {ts1a_minutes : Nat → Int32} {tc0f_voices : Int32} {tc0f_step : Int32} {tc0a_parts : Nat → Int32} {tc0a_heights : Nat → Int32} {tc1f_voices : Int32} {tc1f_step : Int32} {tc1a_parts : Nat → Int32} {tc1a_heights : Nat → Int32} {m_images : Nat → Option Nat} {rlf_huts : Int32} {rlf_singers : Int32} {rlf_villages : Int32} {rlf_dams : Int32} {rlf_echoes : Int32} {rlf_deep : Int32} {rlf_slide : Int32} {rla_heights : Nat → Int32} {rla_ladders : Nat → Int32} {rla_minutes : Nat → Int32} {rla_echoFrom : Nat → Int32} {rla_echoTo : Nat → Int32} {rla_homes : Nat → Int32} {rla_talls : Nat → Int32} {rla_known : Nat → Int32} {rvf_deeds : Int32} {rva_kinds : Nat → Int32} {rva_firsts : Nat → Int32} {rva_seconds : Nat → Int32} {rsf_facts : Int32} {rsa_heard : Nat → Int32} {rsa_huts : Nat → Int32} {rsa_minutes : Nat → Int32} {rcf_voices : Int32} {rcf_step : Int32} {rca_parts : Nat → Int32} {rca_heights : Nat → Int32} {rf_fault : Int32} {rf_faultPlace : Int32} {ra_numbers : Nat → Int32} {ra_tape : Nat → Int32} {rf_length : Int32} {rf_behind : Int32} {rf_kind : Int32} {rf_first : Int32} {rf_value : Int32} {rf_hutsToldOf : Int32} {rf_singersToldOf : Int32} {nf_minute : Int32} {nf_avalanches : Int32} {nf_begun : Int32} {nf_climbed : Int32} {nf_seed : Int32} {na_huts : Nat → Int32} {na_known : Nat → Int32} {na_levels : Nat → Int32} {na_snow : Nat → Int32} {na_open : Nat → Int32} {pa_heard : Nat → Int32} {pa_walked : Nat → Int32} {pa_total : Nat → Int32} {pa_longest : Nat → Int32} {pa_next : Nat → Int32} {pa_cover : Nat → Int32} {pa_now : Nat → Int32} {pa_then : Nat → Int32} {ko_stands : Option Nat} {ka_gaps : Nat → Int32} {ka_behind : Nat → Int32} {ba_less : Nat → Int32} {ba_full : Nat → Int32} {x1 : Int32} (hn : ¬ x1 < 0 → x1 < 3 → m_images (Int32.toNatClampNeg x1) = none) : Met l yX10_again (Cond.code yX10_again cX10_again 2 (some .boolean) :: zb) (rmI 0 0) (va_Pc [.ref qx, .int x1] (fun U => wxW E qx ta_tape tf_length tf_fault tf_place ta_counts tl0f_huts tl0f_singers tl0f_villages tl0f_dams tl0f_echoes tl0f_deep tl0f_slide tl0a_heights tl0a_ladders tl0a_minutes tl0a_echoFrom tl0a_echoTo tl0a_homes tl0a_talls tl0a_known tl1f_huts tl1f_singers tl1f_villages tl1f_dams tl1f_echoes tl1f_deep tl1f_slide tl1a_heights tl1a_ladders tl1a_minutes tl1a_echoFrom tl1a_echoTo tl1a_homes tl1a_talls tl1a_known tv0f_deeds tv0a_kinds tv0a_firsts tv0a_seconds tv1f_deeds tv1a_kinds tv1a_firsts tv1a_seconds ts0f_facts ts0a_heard ts0a_huts ts0a_minutes ts1f_facts ts1a_heard ts1a_huts ts1a_minutes tc0f_voices tc0f_step tc0a_parts tc0a_heights tc1f_voices tc1f_step tc1a_parts tc1a_heights m_images rlf_huts rlf_singers rlf_villages rlf_dams rlf_echoes rlf_deep rlf_slide rla_heights rla_ladders rla_minutes rla_echoFrom rla_echoTo rla_homes rla_talls rla_known rvf_deeds rva_kinds rva_firsts rva_seconds rsf_facts rsa_heard rsa_huts rsa_minutes rcf_voices rcf_step rca_parts rca_heights rf_fault rf_faultPlace ra_numbers ra_tape rf_length rf_behind rf_kind rf_first rf_value rf_hutsToldOf rf_singersToldOf nf_minute nf_avalanches nf_begun nf_climbed nf_seed na_huts na_known na_levels na_snow na_open pa_heard pa_walked pa_total pa_longest pa_next pa_cover pa_now pa_then ko_stands ka_gaps ka_behind ba_less ba_full U.heap ∧ zK E U)) (vp_Si (fun r => r = 0)) 0 0 (fun _ => False) := by
  refine Met.ofW (cc := cX10_again) (maxL := 2) (ret := (some .boolean)) (by decide) rfl ?_
  intro p e s m args below meth c s₁ B hml hv
  obtain ⟨rfl, hMx, hK⟩ := hv
  have zc := zc_of B hml
  have hx := zc.1
  have hb := zc.2.1
  have hl := lv_entry ([.ref qx, .int x1]) (n := 2) (Nat.le_of_ble_eq_true rfl)
  rw [lg_entry_eq]
  generalize (lg_sl ([.ref qx, .int x1]) ++ List.replicate (2 - (lg_sl ([.ref qx, .int x1])).length) Slot.unset).toArray = ls at hl ⊢
  have hl : lv_has ls 2 [(0, .ref qx), (1, .int x1)] := hl
  refine lv_iload_n hx hb dX10_again_0 rfl (lv_at hl 1 rfl) ?_
  refine lv_if_lt (tgt := 18) hx hb dX10_again_1 (by decide) (fun hc => ?_) (fun hc => ?_)
  · refine lv_iconst (v := (0 : Int32)) hx hb dX10_again_18 (by decide) ?_
    exact zret_z zc rfl rfl dX10_again_19
  refine lv_iload_n hx hb dX10_again_4 rfl (lv_at hl 1 rfl) ?_
  refine lv_iconst (v := (3 : Int32)) hx hb dX10_again_5 (by decide) ?_
  refine lv_icmp_ge (tgt := 18) hx hb dX10_again_6 (by decide) (fun hd => ?_) (fun hd => ?_)
  · refine lv_iconst (v := (0 : Int32)) hx hb dX10_again_18 (by decide) ?_
    exact zret_z zc rfl rfl dX10_again_19
  have hd2 : x1 < 3 := Int32.not_le.mp hd
  have hin : vp_in x1 3 := iv_in (iv_lta (l := 0) (h := 2) (r_lt hd2) (iv_leb (l := 0) (h := 2147483647) (r_nlt hc) (iv_lit (x := 0) (l := 0) (h := 0) (by decide)) (iv_top x1) (by decide)) (iv_lit (x := 3) (l := 3) (h := 3) (by decide)) (by decide)) (by decide)
  refine lv_aload_n hx hb dX10_again_9 rfl (lv_at hl 0 rfl) ?_
  refine va_get (D := E.1) (ci := 10) (v := .ref (qx + 48)) (C := RX10) (T := TX10) (N := 7) hx hb zc.2.2.2.2.1 uw10 zc.2.2.2.1 hK.1 hMx 0 rfl rfl 1 (by decide) (zc.2.2.2.2.1 _ kf_10_16) (fun _ h9 => h9) rfl dX10_again_10 ?_
  refine lv_iload_n hx hb dX10_again_13 rfl (lv_at hl 1 rfl) ?_
  refine va_aldq hx hb hK.1 hMx 48 8 rfl rfl hin dX10_again_14 ?_
  rw [hn hc hd2]
  refine W.eq (g2 := F0 m 15 ls (.null :: [])) rfl ?_
  refine lv_ifnonnullN hx hb dX10_again_15 ?_
  refine lv_iconst (v := (0 : Int32)) hx hb dX10_again_18 (by decide) ?_
  exact zret_z zc rfl rfl dX10_again_19
set_option maxRecDepth 40000 in
set_option maxHeartbeats 4000000 in
theorem c_again_yes (l : Launch) {E : zE} {qx qi : Nat} {ta_tape : Nat → Int32} {tf_length : Int32} {tf_fault : Int32} {tf_place : Int32} {ta_counts : Nat → Int32} {tl0f_huts : Int32} {tl0f_singers : Int32} {tl0f_villages : Int32} {tl0f_dams : Int32} {tl0f_echoes : Int32} {tl0f_deep : Int32} {tl0f_slide : Int32} {tl0a_heights : Nat → Int32} {tl0a_ladders : Nat → Int32} {tl0a_minutes : Nat → Int32} {tl0a_echoFrom : Nat → Int32} {tl0a_echoTo : Nat → Int32} {tl0a_homes : Nat → Int32} {tl0a_talls : Nat → Int32} {tl0a_known : Nat → Int32} {tl1f_huts : Int32} {tl1f_singers : Int32} {tl1f_villages : Int32} {tl1f_dams : Int32} {tl1f_echoes : Int32} {tl1f_deep : Int32} {tl1f_slide : Int32} {tl1a_heights : Nat → Int32} {tl1a_ladders : Nat → Int32} {tl1a_minutes : Nat → Int32} {tl1a_echoFrom : Nat → Int32} {tl1a_echoTo : Nat → Int32} {tl1a_homes : Nat → Int32} {tl1a_talls : Nat → Int32} {tl1a_known : Nat → Int32} {tv0f_deeds : Int32} {tv0a_kinds : Nat → Int32} {tv0a_firsts : Nat → Int32} {tv0a_seconds : Nat → Int32} {tv1f_deeds : Int32} {tv1a_kinds : Nat → Int32} {tv1a_firsts : Nat → Int32} {tv1a_seconds : Nat → Int32} {ts0f_facts : Int32} {ts0a_heard : Nat → Int32} {ts0a_huts : Nat → Int32} {ts0a_minutes : Nat → Int32} {ts1f_facts : Int32} {ts1a_heard : Nat → Int32} {ts1a_huts : Nat → Int32} {ts1a_minutes : Nat → Int32} {tc0f_voices : Int32} {tc0f_step : Int32} {tc0a_parts : Nat → Int32} {tc0a_heights : Nat → Int32} {tc1f_voices : Int32} {tc1f_step : Int32} {tc1a_parts : Nat → Int32} {tc1a_heights : Nat → Int32} {m_images : Nat → Option Nat} {rlf_huts : Int32} {rlf_singers : Int32} {rlf_villages : Int32} {rlf_dams : Int32} {rlf_echoes : Int32} {rlf_deep : Int32} {rlf_slide : Int32} {rla_heights : Nat → Int32} {rla_ladders : Nat → Int32} {rla_minutes : Nat → Int32} {rla_echoFrom : Nat → Int32} {rla_echoTo : Nat → Int32} {rla_homes : Nat → Int32} {rla_talls : Nat → Int32} {rla_known : Nat → Int32} {rvf_deeds : Int32} {rva_kinds : Nat → Int32} {rva_firsts : Nat → Int32} {rva_seconds : Nat → Int32} {rsf_facts : Int32} {rsa_heard : Nat → Int32} {rsa_huts : Nat → Int32} {rsa_minutes : Nat → Int32} {rcf_voices : Int32} {rcf_step : Int32} {rca_parts : Nat → Int32} {rca_heights : Nat → Int32} {rf_fault : Int32} {rf_faultPlace : Int32} {ra_numbers : Nat → Int32} {ra_tape : Nat → Int32} {rf_length : Int32} {rf_behind : Int32} {rf_kind : Int32} {rf_first : Int32} {rf_value : Int32} {rf_hutsToldOf : Int32} {rf_singersToldOf : Int32} {nf_minute : Int32} {nf_avalanches : Int32} {nf_begun : Int32} {nf_climbed : Int32} {nf_seed : Int32} {na_huts : Nat → Int32} {na_known : Nat → Int32} {na_levels : Nat → Int32} {na_snow : Nat → Int32} {na_open : Nat → Int32} {pa_heard : Nat → Int32} {pa_walked : Nat → Int32} {pa_total : Nat → Int32} {pa_longest : Nat → Int32} {pa_next : Nat → Int32} {pa_cover : Nat → Int32} {pa_now : Nat → Int32} {pa_then : Nat → Int32} {ko_stands : Option Nat} {ka_gaps : Nat → Int32} {ka_behind : Nat → Int32} {ba_less : Nat → Int32} {ba_full : Nat → Int32} {ia_tape : Nat → Int32} {if_length : Int32} {if_fault : Int32} {if_place : Int32} {ia_counts : Nat → Int32} {il0f_huts : Int32} {il0f_singers : Int32} {il0f_villages : Int32} {il0f_dams : Int32} {il0f_echoes : Int32} {il0f_deep : Int32} {il0f_slide : Int32} {il0a_heights : Nat → Int32} {il0a_ladders : Nat → Int32} {il0a_minutes : Nat → Int32} {il0a_echoFrom : Nat → Int32} {il0a_echoTo : Nat → Int32} {il0a_homes : Nat → Int32} {il0a_talls : Nat → Int32} {il0a_known : Nat → Int32} {il1f_huts : Int32} {il1f_singers : Int32} {il1f_villages : Int32} {il1f_dams : Int32} {il1f_echoes : Int32} {il1f_deep : Int32} {il1f_slide : Int32} {il1a_heights : Nat → Int32} {il1a_ladders : Nat → Int32} {il1a_minutes : Nat → Int32} {il1a_echoFrom : Nat → Int32} {il1a_echoTo : Nat → Int32} {il1a_homes : Nat → Int32} {il1a_talls : Nat → Int32} {il1a_known : Nat → Int32} {iv0f_deeds : Int32} {iv0a_kinds : Nat → Int32} {iv0a_firsts : Nat → Int32} {iv0a_seconds : Nat → Int32} {iv1f_deeds : Int32} {iv1a_kinds : Nat → Int32} {iv1a_firsts : Nat → Int32} {iv1a_seconds : Nat → Int32} {is0f_facts : Int32} {is0a_heard : Nat → Int32} {is0a_huts : Nat → Int32} {is0a_minutes : Nat → Int32} {is1f_facts : Int32} {is1a_heard : Nat → Int32} {is1a_huts : Nat → Int32} {is1a_minutes : Nat → Int32} {ic0f_voices : Int32} {ic0f_step : Int32} {ic0a_parts : Nat → Int32} {ic0a_heights : Nat → Int32} {ic1f_voices : Int32} {ic1f_step : Int32} {ic1a_parts : Nat → Int32} {ic1a_heights : Nat → Int32} {x1 : Int32} (hr : ¬ x1 < 0 ∧ x1 < 3) (hm : m_images (Int32.toNatClampNeg x1) = some qi) (hT : tG ta_tape tf_length tf_fault tf_place ta_counts tl0f_huts tl0f_singers tl0f_villages tl0f_dams tl0f_echoes tl0f_deep tl0f_slide tl0a_heights tl0a_ladders tl0a_minutes tl0a_echoFrom tl0a_echoTo tl0a_homes tl0a_talls tl0a_known tl1f_huts tl1f_singers tl1f_villages tl1f_dams tl1f_echoes tl1f_deep tl1f_slide tl1a_heights tl1a_ladders tl1a_minutes tl1a_echoFrom tl1a_echoTo tl1a_homes tl1a_talls tl1a_known tv0f_deeds tv0a_kinds tv0a_firsts tv0a_seconds tv1f_deeds tv1a_kinds tv1a_firsts tv1a_seconds ts0f_facts ts0a_heard ts0a_huts ts0a_minutes ts1f_facts ts1a_heard ts1a_huts ts1a_minutes tc0f_voices tc0f_step tc0a_parts tc0a_heights tc1f_voices tc1f_step tc1a_parts tc1a_heights) (hI : tG ia_tape if_length if_fault if_place ia_counts il0f_huts il0f_singers il0f_villages il0f_dams il0f_echoes il0f_deep il0f_slide il0a_heights il0a_ladders il0a_minutes il0a_echoFrom il0a_echoTo il0a_homes il0a_talls il0a_known il1f_huts il1f_singers il1f_villages il1f_dams il1f_echoes il1f_deep il1f_slide il1a_heights il1a_ladders il1a_minutes il1a_echoFrom il1a_echoTo il1a_homes il1a_talls il1a_known iv0f_deeds iv0a_kinds iv0a_firsts iv0a_seconds iv1f_deeds iv1a_kinds iv1a_firsts iv1a_seconds is0f_facts is0a_heard is0a_huts is0a_minutes is1f_facts is1a_heard is1a_huts is1a_minutes ic0f_voices ic0f_step ic0a_parts ic0a_heights ic1f_voices ic1f_step ic1a_parts ic1a_heights) : Met l yX10_again (Cond.code yX10_again cX10_again 2 (some .boolean) :: zb) (rmI 0 0) (va_Pc [.ref qx, .int x1] (fun U => wxiW E qx qi ta_tape tf_length tf_fault tf_place ta_counts tl0f_huts tl0f_singers tl0f_villages tl0f_dams tl0f_echoes tl0f_deep tl0f_slide tl0a_heights tl0a_ladders tl0a_minutes tl0a_echoFrom tl0a_echoTo tl0a_homes tl0a_talls tl0a_known tl1f_huts tl1f_singers tl1f_villages tl1f_dams tl1f_echoes tl1f_deep tl1f_slide tl1a_heights tl1a_ladders tl1a_minutes tl1a_echoFrom tl1a_echoTo tl1a_homes tl1a_talls tl1a_known tv0f_deeds tv0a_kinds tv0a_firsts tv0a_seconds tv1f_deeds tv1a_kinds tv1a_firsts tv1a_seconds ts0f_facts ts0a_heard ts0a_huts ts0a_minutes ts1f_facts ts1a_heard ts1a_huts ts1a_minutes tc0f_voices tc0f_step tc0a_parts tc0a_heights tc1f_voices tc1f_step tc1a_parts tc1a_heights m_images rlf_huts rlf_singers rlf_villages rlf_dams rlf_echoes rlf_deep rlf_slide rla_heights rla_ladders rla_minutes rla_echoFrom rla_echoTo rla_homes rla_talls rla_known rvf_deeds rva_kinds rva_firsts rva_seconds rsf_facts rsa_heard rsa_huts rsa_minutes rcf_voices rcf_step rca_parts rca_heights rf_fault rf_faultPlace ra_numbers ra_tape rf_length rf_behind rf_kind rf_first rf_value rf_hutsToldOf rf_singersToldOf nf_minute nf_avalanches nf_begun nf_climbed nf_seed na_huts na_known na_levels na_snow na_open pa_heard pa_walked pa_total pa_longest pa_next pa_cover pa_now pa_then ko_stands ka_gaps ka_behind ba_less ba_full ia_tape if_length if_fault if_place ia_counts il0f_huts il0f_singers il0f_villages il0f_dams il0f_echoes il0f_deep il0f_slide il0a_heights il0a_ladders il0a_minutes il0a_echoFrom il0a_echoTo il0a_homes il0a_talls il0a_known il1f_huts il1f_singers il1f_villages il1f_dams il1f_echoes il1f_deep il1f_slide il1a_heights il1a_ladders il1a_minutes il1a_echoFrom il1a_echoTo il1a_homes il1a_talls il1a_known iv0f_deeds iv0a_kinds iv0a_firsts iv0a_seconds iv1f_deeds iv1a_kinds iv1a_firsts iv1a_seconds is0f_facts is0a_heard is0a_huts is0a_minutes is1f_facts is1a_heard is1a_huts is1a_minutes ic0f_voices ic0f_step ic0a_parts ic0a_heights ic1f_voices ic1f_step ic1a_parts ic1a_heights U.heap ∧ zK E U)) (zQi (S := Unit) (fun r _ => r = 1) (fun _ H => ∃ na_tape nf_length nf_fault nf_place na_counts nl0f_huts nl0f_singers nl0f_villages nl0f_dams nl0f_echoes nl0f_deep nl0f_slide nl0a_heights nl0a_ladders nl0a_minutes nl0a_echoFrom nl0a_echoTo nl0a_homes nl0a_talls nl0a_known nl1f_huts nl1f_singers nl1f_villages nl1f_dams nl1f_echoes nl1f_deep nl1f_slide nl1a_heights nl1a_ladders nl1a_minutes nl1a_echoFrom nl1a_echoTo nl1a_homes nl1a_talls nl1a_known nv0f_deeds nv0a_kinds nv0a_firsts nv0a_seconds nv1f_deeds nv1a_kinds nv1a_firsts nv1a_seconds ns0f_facts ns0a_heard ns0a_huts ns0a_minutes ns1f_facts ns1a_heard ns1a_huts ns1a_minutes nc0f_voices nc0f_step nc0a_parts nc0a_heights nc1f_voices nc1f_step nc1a_parts nc1a_heights, tG na_tape nf_length nf_fault nf_place na_counts nl0f_huts nl0f_singers nl0f_villages nl0f_dams nl0f_echoes nl0f_deep nl0f_slide nl0a_heights nl0a_ladders nl0a_minutes nl0a_echoFrom nl0a_echoTo nl0a_homes nl0a_talls nl0a_known nl1f_huts nl1f_singers nl1f_villages nl1f_dams nl1f_echoes nl1f_deep nl1f_slide nl1a_heights nl1a_ladders nl1a_minutes nl1a_echoFrom nl1a_echoTo nl1a_homes nl1a_talls nl1a_known nv0f_deeds nv0a_kinds nv0a_firsts nv0a_seconds nv1f_deeds nv1a_kinds nv1a_firsts nv1a_seconds ns0f_facts ns0a_heard ns0a_huts ns0a_minutes ns1f_facts ns1a_heard ns1a_huts ns1a_minutes nc0f_voices nc0f_step nc0a_parts nc0a_heights nc1f_voices nc1f_step nc1a_parts nc1a_heights ∧ wxiW E qx qi na_tape nf_length nf_fault nf_place na_counts nl0f_huts nl0f_singers nl0f_villages nl0f_dams nl0f_echoes nl0f_deep nl0f_slide nl0a_heights nl0a_ladders nl0a_minutes nl0a_echoFrom nl0a_echoTo nl0a_homes nl0a_talls nl0a_known nl1f_huts nl1f_singers nl1f_villages nl1f_dams nl1f_echoes nl1f_deep nl1f_slide nl1a_heights nl1a_ladders nl1a_minutes nl1a_echoFrom nl1a_echoTo nl1a_homes nl1a_talls nl1a_known nv0f_deeds nv0a_kinds nv0a_firsts nv0a_seconds nv1f_deeds nv1a_kinds nv1a_firsts nv1a_seconds ns0f_facts ns0a_heard ns0a_huts ns0a_minutes ns1f_facts ns1a_heard ns1a_huts ns1a_minutes nc0f_voices nc0f_step nc0a_parts nc0a_heights nc1f_voices nc1f_step nc1a_parts nc1a_heights m_images rlf_huts rlf_singers rlf_villages rlf_dams rlf_echoes rlf_deep rlf_slide rla_heights rla_ladders rla_minutes rla_echoFrom rla_echoTo rla_homes rla_talls rla_known rvf_deeds rva_kinds rva_firsts rva_seconds rsf_facts rsa_heard rsa_huts rsa_minutes rcf_voices rcf_step rca_parts rca_heights rf_fault rf_faultPlace ra_numbers ra_tape rf_length rf_behind rf_kind rf_first rf_value rf_hutsToldOf rf_singersToldOf nf_minute nf_avalanches nf_begun nf_climbed nf_seed na_huts na_known na_levels na_snow na_open pa_heard pa_walked pa_total pa_longest pa_next pa_cover pa_now pa_then ko_stands ka_gaps ka_behind ba_less ba_full ia_tape if_length if_fault if_place ia_counts il0f_huts il0f_singers il0f_villages il0f_dams il0f_echoes il0f_deep il0f_slide il0a_heights il0a_ladders il0a_minutes il0a_echoFrom il0a_echoTo il0a_homes il0a_talls il0a_known il1f_huts il1f_singers il1f_villages il1f_dams il1f_echoes il1f_deep il1f_slide il1a_heights il1a_ladders il1a_minutes il1a_echoFrom il1a_echoTo il1a_homes il1a_talls il1a_known iv0f_deeds iv0a_kinds iv0a_firsts iv0a_seconds iv1f_deeds iv1a_kinds iv1a_firsts iv1a_seconds is0f_facts is0a_heard is0a_huts is0a_minutes is1f_facts is1a_heard is1a_huts is1a_minutes ic0f_voices ic0f_step ic0a_parts ic0a_heights ic1f_voices ic1f_step ic1a_parts ic1a_heights H) (wttA (qx + 1) qi)) 0 0 (wttA (qx + 1) qi) := by
  refine Met.ofW (cc := cX10_again) (maxL := 2) (ret := (some .boolean)) (by decide) rfl ?_
  intro p e s m args below meth c s₁ B hml hv
  obtain ⟨rfl, hM, hK⟩ := hv
  have zc := zc_of B hml
  have hx := zc.1
  have hb := zc.2.1
  have hl := lv_entry ([.ref qx, .int x1]) (n := 2) (Nat.le_of_ble_eq_true rfl)
  rw [lg_entry_eq]
  generalize (lg_sl ([.ref qx, .int x1]) ++ List.replicate (2 - (lg_sl ([.ref qx, .int x1])).length) Slot.unset).toArray = ls at hl ⊢
  have hl : lv_has ls 2 [(0, .ref qx), (1, .int x1)] := hl
  have hMx := xi_x hM
  have hS : va_S (wttA (qx + 1) qi) s.heap s.heap [] := va_S.rf
  have hsub : ∀ q, wttA (qx + 1) qi q → wttA (qx + 1) qi q := fun _ h => h
  have hin : vp_in x1 3 := iv_in (iv_lta (l := 0) (h := 2) (r_lt hr.2) (iv_leb (l := 0) (h := 2147483647) (r_nlt hr.1) (iv_lit (x := 0) (l := 0) (h := 0) (by decide)) (iv_top x1) (by decide)) (iv_lit (x := 3) (l := 3) (h := 3) (by decide)) (by decide)) (by decide)
  refine lv_iload_n hx hb dX10_again_0 rfl (lv_at hl 1 rfl) ?_
  refine lv_if_lt (tgt := 18) hx hb dX10_again_1 (by decide) (fun hc => absurd hc hr.1) (fun hc => ?_)
  refine lv_iload_n hx hb dX10_again_4 rfl (lv_at hl 1 rfl) ?_
  refine lv_iconst (v := (3 : Int32)) hx hb dX10_again_5 (by decide) ?_
  refine lv_icmp_ge (tgt := 18) hx hb dX10_again_6 (by decide) (fun hd => absurd hr.2 (Int32.not_lt.mpr hd)) (fun hd => ?_)
  refine lv_aload_n hx hb dX10_again_9 rfl (lv_at hl 0 rfl) ?_
  refine va_get (D := E.1) (ci := 10) (v := .ref (qx + 48)) (C := RX10) (T := TX10) (N := 7) hx hb zc.2.2.2.2.1 uw10 zc.2.2.2.1 hK.1 hMx 0 rfl rfl 1 (by decide) (zc.2.2.2.2.1 _ kf_10_16) (fun _ h9 => h9) rfl dX10_again_10 ?_
  refine lv_iload_n hx hb dX10_again_13 rfl (lv_at hl 1 rfl) ?_
  refine va_aldq hx hb hK.1 hMx 48 8 rfl rfl hin dX10_again_14 ?_
  rw [hm]
  refine W.eq (g2 := F0 m 15 ls (.ref qi :: [])) rfl ?_
  refine lv_ifnonnull (tgt := 20) hx hb dX10_again_15 (by decide) ?_
  refine lv_aload_n hx hb dX10_again_20 rfl (lv_at hl 0 rfl) ?_
  refine va_get (D := E.1) (ci := 10) (v := .ref (qx + 1)) (C := RX10) (T := TX10) (N := 7) hx hb zc.2.2.2.2.1 uw10 zc.2.2.2.1 hK.1 hMx 0 rfl rfl 0 (by decide) (zc.2.2.2.2.1 _ kf_10_10) (fun _ h9 => h9) rfl dX10_again_21 ?_
  refine lv_aload_n hx hb dX10_again_24 rfl (lv_at hl 0 rfl) ?_
  refine va_get (D := E.1) (ci := 10) (v := .ref (qx + 48)) (C := RX10) (T := TX10) (N := 7) hx hb zc.2.2.2.2.1 uw10 zc.2.2.2.1 hK.1 hMx 0 rfl rfl 1 (by decide) (zc.2.2.2.2.1 _ kf_10_16) (fun _ h9 => h9) rfl dX10_again_25 ?_
  refine lv_iload_n hx hb dX10_again_28 rfl (lv_at hl 1 rfl) ?_
  refine va_aldq hx hb hK.1 hMx 48 8 rfl rfl hin dX10_again_29 ?_
  rw [hm]
  refine W.eq (g2 := F0 m 30 ls (.ref qi :: .ref (qx + 1) :: [])) rfl ?_
  refine zVa_v [.ref qi] [] zc ky_X9_copyFrom kz_X9_copyFrom km_10_323 (c_wtt_X9_copyFrom_47 l (post := fun na_tape nf_length nf_fault nf_place na_counts nl0f_huts nl0f_singers nl0f_villages nl0f_dams nl0f_echoes nl0f_deep nl0f_slide nl0a_heights nl0a_ladders nl0a_minutes nl0a_echoFrom nl0a_echoTo nl0a_homes nl0a_talls nl0a_known nl1f_huts nl1f_singers nl1f_villages nl1f_dams nl1f_echoes nl1f_deep nl1f_slide nl1a_heights nl1a_ladders nl1a_minutes nl1a_echoFrom nl1a_echoTo nl1a_homes nl1a_talls nl1a_known nv0f_deeds nv0a_kinds nv0a_firsts nv0a_seconds nv1f_deeds nv1a_kinds nv1a_firsts nv1a_seconds ns0f_facts ns0a_heard ns0a_huts ns0a_minutes ns1f_facts ns1a_heard ns1a_huts ns1a_minutes nc0f_voices nc0f_step nc0a_parts nc0a_heights nc1f_voices nc1f_step nc1a_parts nc1a_heights => tG na_tape nf_length nf_fault nf_place na_counts nl0f_huts nl0f_singers nl0f_villages nl0f_dams nl0f_echoes nl0f_deep nl0f_slide nl0a_heights nl0a_ladders nl0a_minutes nl0a_echoFrom nl0a_echoTo nl0a_homes nl0a_talls nl0a_known nl1f_huts nl1f_singers nl1f_villages nl1f_dams nl1f_echoes nl1f_deep nl1f_slide nl1a_heights nl1a_ladders nl1a_minutes nl1a_echoFrom nl1a_echoTo nl1a_homes nl1a_talls nl1a_known nv0f_deeds nv0a_kinds nv0a_firsts nv0a_seconds nv1f_deeds nv1a_kinds nv1a_firsts nv1a_seconds ns0f_facts ns0a_heard ns0a_huts ns0a_minutes ns1f_facts ns1a_heard ns1a_huts ns1a_minutes nc0f_voices nc0f_step nc0a_parts nc0a_heights nc1f_voices nc1f_step nc1a_parts nc1a_heights) (tG_copy hT hI (fun _ _ _ _ _ _ _ _ _ _ _ _ _ _ _ _ _ _ _ _ _ _ _ _ _ _ _ _ _ _ _ _ _ _ _ _ _ _ _ _ _ _ _ _ _ _ _ _ _ _ _ _ _ _ _ _ _ _ _ h => h))) (wttPreV0 hK (pj_wxi_wtt_1_93 hM)) hS hsub rfl rfl hl.1 (Nat.le_of_ble_eq_true rfl) ⟨rfl, rfl⟩ ⟨(Nat.le_of_ble_eq_true rfl), (Nat.le_of_ble_eq_true rfl)⟩ ⟨Nat.le_refl _, Nat.le_refl _⟩ dX10_again_30 (fun u H4 locs hw hB hsz hk hS => ?_)
  have hM := jn_wxi_wtt_1_93 hM hB hk
  refine lv_iconst (v := (1 : Int32)) hx hb dX10_again_33 (by decide) ?_
  exact zret_zw () zc hS rfl rfl ⟨_, _, _, _, _, _, _, _, _, _, _, _, _, _, _, _, _, _, _, _, _, _, _, _, _, _, _, _, _, _, _, _, _, _, _, _, _, _, _, _, _, _, _, _, _, _, _, _, _, _, _, _, _, _, _, _, _, _, _, hw, hM⟩ dX10_again_34
end
section
/-- the first take that wins, as a table of verses and steps -/
def tk_f (less : Nat → Int32) (s : Nat) : Nat → Nat → Int32
  | 0, _ => -1
  | n + 1, k => if k ≤ s ∧ less (s - k) = -1 then 10 + nI k else tk_f less s n (k + 1)
def tk_b (C v : Nat) (less : Nat → Int32) (s : Nat) : Int32 := if v = 0 then -1 else tk_f less s C 1
def tk_row (C v : Nat) (less : Nat → Int32) : Nat → Int32
  | 0 => tk_b C v less 0
  | 1 => tk_b C v less 1
  | s + 2 => if tk_row C v less s = -1 then 2 else tk_b C v less (s + 2)
def tk (C : Nat) : Nat → Nat → Int32
  | 0 => tk_row C 0 (fun _ => 0)
  | v + 1 => tk_row C (v + 1) (tk C v)
def tk_p (C : Nat) : Nat → Nat → Int32
  | 0 => fun _ => 0
  | v + 1 => tk C v
theorem tk_out (less : Nat → Int32) (s : Nat) : ∀ (n k : Nat), s < k → tk_f less s n k = -1
  | 0, _, _ => rfl
  | n + 1, k, h => by
    unfold tk_f
    rw [if_neg (fun h2 => by omega)]
    exact tk_out less s n (k + 1) (by omega)
theorem tk_row_eq (C v : Nat) (less : Nat → Int32) (s : Nat) : tk_row C v less s = if 2 ≤ s ∧ tk_row C v less (s - 2) = -1 then 2 else tk_b C v less s := by
  match s with
  | 0 => rw [if_neg (fun h => by omega)]; rfl
  | 1 => rw [if_neg (fun h => by omega)]; rfl
  | s + 2 =>
    show (if tk_row C v less s = -1 then 2 else tk_b C v less (s + 2)) = _
    have e : s + 2 - 2 = s := by omega
    rw [e]
    by_cases h : tk_row C v less s = -1
    · rw [if_pos h, if_pos ⟨by omega, h⟩]
    · rw [if_neg h, if_neg (fun h2 => h h2.2)]
theorem tk_is (C v s : Nat) : tk C v s = tk_row C v (tk_p C v) s := by
  cases v <;> rfl
theorem tk_two {C v s : Nat} (h : 2 ≤ s) (h2 : tk C v (s - 2) = -1) : tk C v s = 2 := by
  rw [tk_is, tk_row_eq, ← tk_is, if_pos ⟨h, h2⟩]
theorem tk_one {C v s : Nat} (h : ¬ (2 ≤ s ∧ tk C v (s - 2) = -1)) : tk C v s = tk_b C v (tk_p C v) s := by
  rw [tk_is, tk_row_eq, ← tk_is, if_neg h]
theorem tk_zero {C s : Nat} (h : ¬ (2 ≤ s ∧ tk C 0 (s - 2) = -1)) : tk C 0 s = -1 := by
  rw [tk_one h]; rfl
theorem tk_succ {C v s : Nat} (h : ¬ (2 ≤ s ∧ tk C (v + 1) (s - 2) = -1)) : tk C (v + 1) s = tk_f (tk C v) s C 1 := by
  rw [tk_one h]
  show (if v + 1 = 0 then -1 else tk_f (tk C v) s C 1) = _
  rw [if_neg (by omega)]
/-- the class's own search -/
theorem sp_xloop {C w s : Nat} {less full : Nat → Int32} {post : Int32 → Prop} (hC : C ≤ 9) (hv : w + 1 ≤ 60) (hs : s ≤ 60) (hl : ∀ j, j < s → less j = tk C w j) (h : post (tk_f (tk C w) s C 1)) : q_wb_X8_firstTake_22 less full (nI (w + 1)) (nI s) (nI C) 1 post := by
  intro P hP
  have loop : ∀ (n k : Nat), n + k = C + 1 → 1 ≤ k → post (tk_f (tk C w) s n k) → P (nI k) := by
    intro n
    induction n with
    | zero =>
      intro k hk h1 hp
      apply hP
      refine ⟨fun h => absurd h (nI_nle (by omega) (by omega)), fun _ => ⟨fun _ => hp, fun h => absurd (nI_lt (by omega) (by omega)) h⟩⟩
    | succ n ih =>
      intro k hk h1 hp
      apply hP
      refine ⟨fun h => absurd h (nI_nle (by omega) (by omega)), fun _ => ⟨fun h => absurd h (nI_nlt (by omega) (by omega)), fun _ => ?_⟩⟩
      by_cases hks : s < k
      · rw [tk_out _ _ _ _ hks] at hp
        exact ⟨fun _ => hp, fun h => absurd (nI_lt hks (by omega)) h⟩
      · refine ⟨fun h => absurd h (nI_nlt (by omega) (by omega)), fun _ => ?_⟩
        rw [pk_sub (by omega)]
        refine ⟨vp_in_nI (by omega) (by omega), ?_⟩
        rw [nI_clamp (by omega), hl (s - k) (by omega)]
        unfold tk_f at hp
        refine ⟨fun hne v1 e1 => ?_, fun heq => ?_⟩
        · rw [if_neg (fun h2 => hne h2.2)] at hp
          rw [e1, nI_1]
          exact ih (k + 1) (by omega) (by omega) hp
        · rw [if_pos ⟨by omega, heq⟩] at hp
          exact hp
  exact loop C 1 (by omega) (by omega) h
theorem sp_xft {C v s : Nat} {less full : Nat → Int32} {post : Int32 → Prop} (hC : C ≤ 9) (hv : v ≤ 60) (hs : s ≤ 60) (hf : ∀ j, j < s → full j = tk C v j) (hl : ∀ w, v = w + 1 → ∀ j, j < s → less j = tk C w j) (h : post (tk C v s)) : q_wb_X8_firstTake_0 less full (nI v) (nI s) (nI C) post := by
  have key : ¬ (2 ≤ s ∧ tk C v (s - 2) = -1) → q_wb_X8_firstTake_19 less full (nI v) (nI s) (nI C) post := by
    intro hn
    cases v with
    | zero =>
      intro P hP
      apply hP
      rw [tk_zero hn] at h
      exact ⟨fun _ => h, fun h2 => absurd (by decide) h2⟩
    | succ w =>
      rw [tk_succ hn] at h
      exact sp_xloop hC hv hs (hl w rfl) h
  have e2 : (2 : Int32) = nI 2 := rfl
  refine ⟨fun h2 => key (fun h3 => absurd h2 ?_), fun h2 => ?_⟩
  · rw [e2]; exact nI_nlt (by omega) (by omega)
  · have h3 : 2 ≤ s := by
      refine Nat.le_of_not_lt (fun h4 => h2 ?_)
      rw [e2]; exact nI_lt h4 (by omega)
    rw [e2, pk_sub h3]
    refine ⟨vp_in_nI (by omega) (by omega), ?_⟩
    rw [nI_clamp (by omega), hf (s - 2) (by omega)]
    refine ⟨fun h4 => key (fun h5 => h4 h5.2), fun h4 => ?_⟩
    rw [tk_two h3 h4] at h
    exact h
/-- the class's table -/
theorem sp_xlay {C A B : Nat} {less full : Nat → Int32} {post : (Nat → Int32) → (Nat → Int32) → Prop} (hC : C ≤ 9) (hA : A ≤ 60) (hB : B ≤ 60) (h : ∀ less full, (∀ j, j ≤ B → full j = tk C A j) → (∀ w, A = w + 1 → ∀ j, j ≤ B → less j = tk C w j) → post less full) : q_wb_X8_lay_0 less full (nI A) (nI B) (nI C) post := by
  intro P hP
  have loop : ∀ (n v : Nat) (less full : Nat → Int32), n + v = A + 1 → (∀ u, v = u + 1 → (∀ j, j ≤ B → full j = tk C u j) ∧ ∀ w, u = w + 1 → ∀ j, j ≤ B → less j = tk C w j) → P (nI v) less full := by
    intro n
    induction n with
    | zero =>
      intro v less full hn hi
      apply hP
      have h1 := hi A (by omega)
      exact ⟨fun _ => h less full h1.1 h1.2, fun h2 => absurd (nI_lt (by omega) (by omega)) h2⟩
    | succ n ih =>
      intro v less full hn hi
      apply hP
      refine ⟨fun h2 => absurd h2 (nI_nlt (by omega) (by omega)), fun _ => ?_⟩
      rw [nI_1, nI_clamp (by omega)]
      refine ⟨nI_pos (by omega), by show 0 + (B + 1) ≤ 61; omega, by show 0 + (B + 1) ≤ 61; omega, ?_⟩
      intro less1 e1 P2 hP2
      have hl1 : ∀ w, v = w + 1 → ∀ j, j ≤ B → less1 j = tk C w j := by
        intro w hw j hj
        rw [e1]
        show (if 0 ≤ j ∧ j < 0 + (B + 1) then full (0 + (j - 0)) else less j) = _
        rw [if_pos ⟨by omega, by omega⟩]
        have e : 0 + (j - 0) = j := by omega
        rw [e]
        exact (hi w hw).1 j hj
      have loop2 : ∀ (n s : Nat) (full : Nat → Int32), n + s = B + 1 → (∀ j, j < s → full j = tk C v j) → P2 (nI s) full := by
        intro n
        induction n with
        | zero =>
          intro s full hs hf
          apply hP2
          refine ⟨fun _ v1 ev => ?_, fun h2 => absurd (nI_lt (by omega) (by omega)) h2⟩
          rw [ev, nI_1]
          refine ih (v + 1) less1 full (by omega) (fun u hu => ⟨fun j hj => ?_, fun w hw j hj => hl1 w (by omega) j hj⟩)
          have : u = v := by omega
          subst this
          exact hf j (by omega)
        | succ n ih2 =>
          intro s full hs hf
          apply hP2
          refine ⟨fun h2 => absurd h2 (nI_nlt (by omega) (by omega)), fun _ => ?_⟩
          refine sp_xft hC (by omega) (by omega) hf (fun w hw j hj => hl1 w hw j (by omega)) ?_
          refine ⟨vp_in_nI (by omega) (by omega), ?_⟩
          intro full1 ef v2 ev
          rw [ev, nI_1]
          refine ih2 (s + 1) full1 (by omega) (fun j hj => ?_)
          rw [ef, nI_clamp (by omega)]
          unfold upd
          by_cases hjs : j = s
          · rw [if_pos hjs, hjs]
          · rw [if_neg hjs]
            exact hf j (by omega)
      exact loop2 (B + 1) 0 full (by omega) (fun j hj => absurd hj (by omega))
  exact loop (A + 1) 0 less full (by omega) (fun u hu => absurd hu (by omega))
/-- the reference's search -/
theorem sp_won {x y : Nat} {w : Nat → Int32} {post : Int32 → Prop} (hx : x ≤ 60) (hy : y ≤ 60) (h0 : w (61 * x + y) = 0 → post 0) (h1 : ¬ w (61 * x + y) = 0 → post 1) : q_m_won_0 w (nI x) (nI y) post := by
  refine ⟨fun h => absurd h (nI_pos (by omega)), fun _ => ⟨fun h => absurd h (nI_pos (by omega)), fun _ => ?_⟩⟩
  have e : (61 : Int32) = nI 61 := rfl
  rw [e, pk_mul, nI_add]
  refine ⟨vp_in_nI (by omega) (by omega), ?_⟩
  rw [nI_clamp (by omega)]
  exact ⟨h0, h1⟩
theorem sp_good {x y vs st : Nat} {w : Nat → Int32} {post : Int32 → Prop} (hx : x ≤ 60) (hy : y ≤ 60) (hv : vs ≤ 9) (hs : st ≤ 60) (h1 : vs ≤ x → st ≤ y → w (61 * (x - vs) + (y - st)) = 0 → post 1) (h0 : ¬ (vs ≤ x ∧ st ≤ y ∧ w (61 * (x - vs) + (y - st)) = 0) → post 0) : q_m_isGood_0 w (nI x) (nI y) (nI vs) (nI st) post := by
  refine ⟨fun h => h0 (fun h2 => absurd h (nI_nlt h2.1 (by omega))), fun h => ⟨fun h2 => h0 (fun h3 => absurd h2 (nI_nlt h3.2.1 (by omega))), fun h2 => ?_⟩⟩
  have a1 : vs ≤ x := Nat.le_of_not_lt (fun h3 => h (nI_lt h3 (by omega)))
  have a2 : st ≤ y := Nat.le_of_not_lt (fun h3 => h2 (nI_lt h3 (by omega)))
  rw [pk_sub a1, pk_sub a2]
  exact sp_won (by omega) (by omega) (fun e => zi (h1 a1 a2 e)) (fun e => io (h0 (fun h3 => e h3.2.2)))
theorem sp_mloop {C v s : Nat} {w : Nat → Int32} {post : Int32 → Prop} (hC : C ≤ 9) (hv : v ≤ 60) (hs : s ≤ 60) (h2 : ∀ u, v = u + 1 → ∀ j, j < s → w (61 * u + j) = if tk C u j = -1 then 0 else 1) (h : post (tk_b C v (tk_p C v) s)) : q_m_firstTake_16 w (nI v) (nI s) (nI C) 1 post := by
  intro P hP
  have e1 : (1 : Int32) = nI 1 := rfl
  have bad : ∀ (n k : Nat), n + k = C + 1 → 1 ≤ k → post (if v = 0 then -1 else tk_f (tk_p C v) s n k) → P (nI k) := by
    intro n
    induction n with
    | zero =>
      intro k hk h1 hp
      apply hP
      refine ⟨fun _ => ?_, fun h3 => absurd (nI_lt (by omega) (by omega)) h3⟩
      by_cases hv0 : v = 0
      · rw [if_pos hv0] at hp; exact hp
      · rw [if_neg hv0] at hp; exact hp
    | succ n ih =>
      intro k hk h1 hp
      apply hP
      refine ⟨fun h3 => absurd h3 (nI_nlt (by omega) (by omega)), fun _ => ?_⟩
      rw [e1]
      refine sp_good hv hs (by omega) (by omega) (fun a1 a2 a3 => oi ?_) (fun hn => iz (fun v1 ev => ?_))
      · obtain ⟨u, rfl⟩ : ∃ u, v = u + 1 := ⟨v - 1, by omega⟩
        rw [if_neg (by omega)] at hp
        have e3 : u + 1 - 1 = u := by omega
        rw [e3, h2 u rfl (s - k) (by omega)] at a3
        have a4 : tk C u (s - k) = -1 := by
          by_cases h5 : tk C u (s - k) = -1
          · exact h5
          · rw [if_neg h5] at a3; exact absurd a3 (by decide)
        unfold tk_f at hp
        have a5 : k ≤ s ∧ tk_p C (u + 1) (s - k) = -1 := ⟨a2, a4⟩
        rw [if_pos a5] at hp
        exact hp
      · rw [ev]
        show P (nI k + 1)
        rw [nI_1]
        refine ih (k + 1) (by omega) (by omega) ?_
        by_cases hv0 : v = 0
        · rw [if_pos hv0] at hp ⊢; exact hp
        · rw [if_neg hv0] at hp ⊢
          unfold tk_f at hp
          rw [if_neg] at hp
          · exact hp
          · intro h5
            obtain ⟨u, rfl⟩ : ∃ u, v = u + 1 := ⟨v - 1, by omega⟩
            refine hn ⟨by omega, h5.1, ?_⟩
            have e3 : u + 1 - 1 = u := by omega
            rw [e3, h2 u rfl (s - k) (by omega)]
            have h6 : tk C u (s - k) = -1 := h5.2
            rw [if_pos h6]
  exact bad C 1 (by omega) (by omega) h
theorem sp_mft {C v s : Nat} {w : Nat → Int32} {post : Int32 → Prop} (hC : C ≤ 9) (hv : v ≤ 60) (hs : s ≤ 60) (h1 : ∀ j, j < s → w (61 * v + j) = if tk C v j = -1 then 0 else 1) (h2 : ∀ u, v = u + 1 → ∀ j, j < s → w (61 * u + j) = if tk C u j = -1 then 0 else 1) (h : post (tk C v s)) : q_m_firstTake_0 w (nI v) (nI s) (nI C) post := by
  refine sp_good (vs := 0) (st := 2) hv hs (by omega) (by omega) (fun _ a2 a3 => oi ?_) (fun hn => iz ?_)
  · rw [Nat.sub_zero, h1 (s - 2) (by omega)] at a3
    have a4 : tk C v (s - 2) = -1 := by
      by_cases h5 : tk C v (s - 2) = -1
      · exact h5
      · rw [if_neg h5] at a3; exact absurd a3 (by decide)
    rw [tk_two a2 a4] at h
    exact h
  · refine sp_mloop hC hv hs h2 ?_
    rw [tk_one] at h
    · exact h
    · intro h5
      refine hn ⟨by omega, h5.1, ?_⟩
      rw [Nat.sub_zero, h1 (s - 2) (by omega), if_pos h5.2]
/-- the reference's table, and its answer -/
theorem sp_mtrade2 {C A B : Nat} {p4 : Int32} {w : Nat → Int32} {post : Int32 → Int32 → (Nat → Int32) → Prop} (hC : C ≤ 9) (hA : A ≤ 60) (hB : B ≤ 60) (h0 : p4 = 0 → ∀ w, post (if tk C A B = -1 then 0 else 1) 0 w) (h1 : ¬ p4 = 0 → ∀ w, post (tk C A B) 0 w) : q_m_trade_41 0 w (nI A) (nI B) (nI C) p4 0 post := by
  intro P hP
  have e61 : (61 : Int32) = nI 61 := rfl
  have nb0 : vp_nar .boolean 0 = 0 := rfl
  have nb1 : vp_nar .boolean 1 = 1 := rfl
  have loop : ∀ (n v : Nat) (w : Nat → Int32), n + v = A + 1 → (∀ x y, x < v → y ≤ B → w (61 * x + y) = if tk C x y = -1 then 0 else 1) → P (nI v) w := by
    intro n
    induction n with
    | zero =>
      intro v w hn hi
      apply hP
      refine ⟨fun _ => ⟨fun hp => ?_, fun hp => ?_⟩, fun h2 => absurd (nI_lt (by omega) (by omega)) h2⟩
      · rw [e61, pk_mul, nI_add]
        refine ⟨vp_in_nI (by omega) (by omega), ?_⟩
        rw [nI_clamp (by omega), hi A B (by omega) (by omega)]
        have h3 := h0 hp
        by_cases ht : tk C A B = -1
        · rw [if_pos ht] at h3 ⊢
          exact iz (h3 _)
        · rw [if_neg ht] at h3 ⊢
          exact oi (h3 _)
      · exact sp_mft hC hA hB (fun j hj => hi A j (by omega) (by omega)) (fun u hu j hj => hi u j (by omega) (by omega)) (h1 hp _)
    | succ n ih =>
      intro v w hn hi
      apply hP
      refine ⟨fun h2 => absurd h2 (nI_nlt (by omega) (by omega)), fun _ => ?_⟩
      intro P2 hP2
      have loop2 : ∀ (n s : Nat) (w : Nat → Int32), n + s = B + 1 → (∀ x y, x < v ∧ y ≤ B ∨ x = v ∧ y < s → w (61 * x + y) = if tk C x y = -1 then 0 else 1) → P2 (nI s) w := by
        intro n
        induction n with
        | zero =>
          intro s w hs hi
          apply hP2
          refine ⟨fun _ v1 ev => ?_, fun h2 => absurd (nI_lt (by omega) (by omega)) h2⟩
          rw [ev, nI_1]
          exact ih (v + 1) w (by omega) (fun x y hx hy => hi x y (by omega))
        | succ n ih2 =>
          intro s w hs hi
          apply hP2
          refine ⟨fun h2 => absurd h2 (nI_nlt (by omega) (by omega)), fun _ => ?_⟩
          refine sp_mft hC (by omega) (by omega) (fun j hj => hi v j (by omega)) (fun u hu j hj => hi u j (by omega)) ?_
          rw [e61, pk_mul, nI_add]
          have go : ∀ b : Int32, vp_nar .boolean b = (if tk C v s = -1 then 0 else 1) → q_m_trade_86 P P2 0 w (nI A) (nI B) (nI C) p4 (nI v) (nI s) (nI (61 * v + s)) b post := by
            intro b hb
            refine ⟨vp_in_nI (by omega) (by omega), ?_⟩
            intro w1 ew v1 ev
            rw [ev, nI_1]
            refine ih2 (s + 1) w1 (by omega) (fun x y hxy => ?_)
            rw [ew, nI_clamp (by omega)]
            unfold upd
            by_cases he : 61 * x + y = 61 * v + s
            · rw [if_pos he, hb]
              have ex : x = v := by omega
              have ey : y = s := by omega
              rw [ex, ey]
            · rw [if_neg he]
              exact hi x y (by omega)
          exact ⟨fun ht => go 0 (by rw [if_pos ht]; exact nb0), fun ht => go 1 (by rw [if_neg ht]; exact nb1)⟩
      exact loop2 (B + 1) 0 w (by omega) (fun x y hxy => hi x y (by omega) (by omega))
  exact loop (A + 1) 0 w (by omega) (fun x y hx hy => absurd hx (by omega))
theorem sp_mbad {p1 p2 p3 p4 : Int32} {w : Nat → Int32} {post : Int32 → Int32 → (Nat → Int32) → Prop} (h : post (-2) 0 w) (hb : ¬ ((0 ≤ p1 ∧ p1 ≤ 60) ∧ (0 ≤ p2 ∧ p2 ≤ 60) ∧ 1 ≤ p3 ∧ p3 ≤ 9)) : q_m_trade_0 0 w p1 p2 p3 p4 post :=
  sp_in (fun _ => iz h) (fun a1 a2 => oi (sp_in (fun _ => iz h) (fun b1 b2 => oi (sp_in (fun _ => zi h) (fun c1 c2 => absurd ⟨⟨a1, a2⟩, ⟨b1, b2⟩, c1, c2⟩ hb)))))
def tT (p1 p2 p3 p4 : Int32) : Int32 := if (0 ≤ p1 ∧ p1 ≤ 60) ∧ (0 ≤ p2 ∧ p2 ≤ 60) ∧ 1 ≤ p3 ∧ p3 ≤ 9 then (if p4 = 0 then (if tk p3.toNatClampNeg p1.toNatClampNeg p2.toNatClampNeg = -1 then 0 else 1) else tk p3.toNatClampNeg p1.toNatClampNeg p2.toNatClampNeg) else -2
theorem tT_bad {p1 p2 p3 p4 : Int32} (h : ¬ ((0 ≤ p1 ∧ p1 ≤ 60) ∧ (0 ≤ p2 ∧ p2 ≤ 60) ∧ 1 ≤ p3 ∧ p3 ≤ 9)) : tT p1 p2 p3 p4 = -2 := if_neg h
theorem tT_good {A B C : Nat} {p4 : Int32} (hA : A ≤ 60) (hB : B ≤ 60) (hC : C ≤ 9) (h : (0 ≤ nI A ∧ nI A ≤ 60) ∧ (0 ≤ nI B ∧ nI B ≤ 60) ∧ 1 ≤ nI C ∧ nI C ≤ 9) : tT (nI A) (nI B) (nI C) p4 = if p4 = 0 then (if tk C A B = -1 then 0 else 1) else tk C A B := by
  unfold tT
  rw [if_pos h, nI_clamp (by omega), nI_clamp (by omega), nI_clamp (by omega)]
theorem tX {less full : Nat → Int32} {p1 p2 p3 p4 : Int32} {post : Int32 → (Nat → Int32) → (Nat → Int32) → Prop} (hp : ∀ less full, post (tT p1 p2 p3 p4) less full) : q_wx_X10_trade_0 less full p1 p2 p3 p4 post := by
  have bad : ¬ ((0 ≤ p1 ∧ p1 ≤ 60) ∧ (0 ≤ p2 ∧ p2 ≤ 60) ∧ 1 ≤ p3 ∧ p3 ≤ 9) → post (-2) less full := fun hb => by
    have := hp less full
    rw [tT_bad hb] at this
    exact this
  refine ⟨fun h => bad (fun h2 => absurd h (Int32.not_lt.mpr h2.1.1)), fun h1 => ⟨fun h => bad (fun h2 => absurd h (Int32.not_lt.mpr h2.1.2)), fun h2 => ⟨fun h => bad (fun h2 => absurd h (Int32.not_lt.mpr h2.2.1.1)), fun h3 => ⟨fun h => bad (fun h2 => absurd h (Int32.not_lt.mpr h2.2.1.2)), fun h4 => ⟨fun h => bad (fun h2 => absurd h (Int32.not_lt.mpr h2.2.2.1)), fun h5 => ⟨fun h6 => ?_, fun h => bad (fun h2 => absurd h2.2.2.2 h)⟩⟩⟩⟩⟩⟩
  have h7 : ¬ p3 < 0 := fun h => h5 (by
    rw [Int32.lt_iff_toInt_lt] at h ⊢
    have a0 : (0 : Int32).toInt = 0 := rfl
    have a1 : (1 : Int32).toInt = 1 := rfl
    omega)
  have good : (0 ≤ p1 ∧ p1 ≤ 60) ∧ (0 ≤ p2 ∧ p2 ≤ 60) ∧ 1 ≤ p3 ∧ p3 ≤ 9 := ⟨⟨Int32.not_lt.mp h1, Int32.not_lt.mp h2⟩, ⟨Int32.not_lt.mp h3, Int32.not_lt.mp h4⟩, Int32.not_lt.mp h5, h6⟩
  obtain ⟨A, hA, rfl⟩ := nI_of2 (M := 60) (n := 60) (by decide) h1 (Int32.not_lt.mp h2)
  obtain ⟨B, hB, rfl⟩ := nI_of2 (M := 60) (n := 60) (by decide) h3 (Int32.not_lt.mp h4)
  obtain ⟨C, hC, rfl⟩ := nI_of2 (M := 9) (n := 9) (by decide) h7 h6
  have e := tT_good (p4 := p4) hA hB hC good
  refine sp_xlay hC hA hB (fun less full hf hl => ?_)
  refine sp_xft hC hA hB (fun j hj => hf j (by omega)) (fun w hw j hj => hl w hw j (by omega)) ?_
  have hp2 := hp less full
  rw [e] at hp2
  refine ⟨fun h0 => ?_, fun h0 => ?_⟩
  · rw [if_pos h0] at hp2
    exact ⟨fun ht => by rw [if_neg ht] at hp2; exact hp2, fun ht => by rw [if_pos ht] at hp2; exact hp2⟩
  · rw [if_neg h0] at hp2; exact hp2
theorem tM {c0 : Int32} {w : Nat → Int32} {p1 p2 p3 p4 : Int32} {post : Int32 → Int32 → (Nat → Int32) → Prop} (hp : ∀ c w, iv 0 0 c → post (tT p1 p2 p3 p4) c w) : q_m_trade_0 c0 w p1 p2 p3 p4 post := by
  show q_m_trade_0 0 w p1 p2 p3 p4 post
  have hp : ∀ w, post (tT p1 p2 p3 p4) 0 w := fun w => hp 0 w (iv_lit (by decide))
  by_cases good : (0 ≤ p1 ∧ p1 ≤ 60) ∧ (0 ≤ p2 ∧ p2 ≤ 60) ∧ 1 ≤ p3 ∧ p3 ≤ 9
  rotate_left
  · exact sp_mbad (by have := hp w; rw [tT_bad good] at this; exact this) good
  have h1 : ¬ p1 < 0 := Int32.not_lt.mpr good.1.1
  have h3 : ¬ p2 < 0 := Int32.not_lt.mpr good.2.1.1
  have h7 : ¬ p3 < 0 := fun h => (Int32.not_lt.mpr good.2.2.1) (by
    rw [Int32.lt_iff_toInt_lt] at h ⊢
    have a0 : (0 : Int32).toInt = 0 := rfl
    have a1 : (1 : Int32).toInt = 1 := rfl
    omega)
  obtain ⟨A, hA, rfl⟩ := nI_of2 (M := 60) (n := 60) (by decide) h1 good.1.2
  obtain ⟨B, hB, rfl⟩ := nI_of2 (M := 60) (n := 60) (by decide) h3 good.2.1.2
  obtain ⟨C, hC, rfl⟩ := nI_of2 (M := 9) (n := 9) (by decide) h7 good.2.2.2
  have e := tT_good (p4 := p4) hA hB hC good
  rw [e] at hp
  refine sp_in (fun h => absurd good.1 h) (fun _ _ => oi ?_)
  refine sp_in (fun h => absurd good.2.1 h) (fun _ _ => oi ?_)
  refine sp_in (fun h => absurd good.2.2 h) (fun _ _ => io ?_)
  exact sp_mtrade2 hC hA hB (fun h w => by have := hp w; rw [if_pos h] at this; exact this) (fun h w => by have := hp w; rw [if_neg h] at this; exact this)
end
section
theorem e_put {t : Nat → Int32} {n : Nat} {v : Int32} {post : (Nat → Int32) → Int32 → Prop} (hn : n + 4 ≤ 600) (ht : ∀ j, iv (-128) 127 (t j)) (h : ∀ t', (∀ j, iv (-128) 127 (t' j)) → post t' (nI (n + 4))) : q_wx_X9_put_0 t (nI n) v post := by
  intro P hP
  have st : ∀ (x y : Int32) (t : Nat → Int32) (m : Nat), ¬ x < 0 → y = x + -8 → m + 1 ≤ 600 → (∀ j, iv (-128) 127 (t j)) → (∀ t', (∀ j, iv (-128) 127 (t' j)) → P y t' (nI (m + 1))) → P x t (nI m) := by
    intro x y t m h1 h2 h3 h4 h5
    apply hP
    refine ⟨fun h => absurd h h1, fun _ => ⟨fun h => absurd h (nI_ge (b := 600) (by omega) (by omega)), fun _ v1 e1 => ⟨vp_in_nI (by omega) (by omega), fun t1 e2 v2 e3 v3 e5 => ?_⟩⟩⟩
    rw [e3, nI_1, e5, ← h2]
    exact h5 t1 (iv_updB e2 h4)
  refine st 24 16 _ n (by decide) (by decide) (by omega) ht fun t1 d1 => ?_
  refine st 16 8 _ (n + 1) (by decide) (by decide) (by omega) d1 fun t2 d2 => ?_
  refine st 8 0 _ (n + 2) (by decide) (by decide) (by omega) d2 fun t3 d3 => ?_
  refine st 0 (-8) _ (n + 3) (by decide) (by decide) (by omega) d3 fun t4 d4 => ?_
  apply hP
  exact ⟨fun _ => h t4 d4, fun h => absurd (by decide) h⟩
theorem e_len {n : Nat} (hn : n ≤ 600) : (nI n + (20 : Int32) ≤ (600 : Int32)) ↔ n + 20 ≤ 600 := by
  rw [show (20 : Int32) = nI 20 from rfl, show (600 : Int32) = nI 600 from rfl, nI_add]
  exact nI_leI (by omega) (by omega)
/-- what feed answers, and the length behind it -/
def feR (n : Int32) : Int32 := if n + 20 ≤ 600 then n + 20 else -1
def feL (n : Int32) : Int32 := if n + 20 ≤ 600 then n + 20 else n
def enR (n x : Int32) : Int32 := if 0 ≤ x ∧ x ≤ n then x else -1
def enL (n x : Int32) : Int32 := if 0 ≤ x ∧ x ≤ n then x else n
theorem e_x_feed {ta_tape : Nat → Int32} {tf_length x1 x2 x3 x4 x5 : Int32} {post : Int32 → (Nat → Int32) → Int32 → Prop} (k_ta_tape : ∀ j, iv (-128) 127 (ta_tape j)) (k_tf_length : iv 0 600 tf_length) (hpost : ∀ (t : Nat → Int32), (∀ j, iv (-128) 127 (t j)) → iv 0 600 (feL tf_length) → post (feR tf_length) t (feL tf_length)) : q_wx_X10_feed_0 ta_tape tf_length x1 x2 x3 x4 x5 post := by
  obtain ⟨n, rfl, -, hn6, hn2⟩ := iv_nI k_tf_length (by omega)
  have hn : n ≤ 600 := by omega
  unfold feR feL at hpost
  refine ⟨fun hc => ?_, fun hc => ?_⟩
  · have hle := (e_len hn).mp hc
    rw [if_pos hc, if_pos hc] at hpost
    have e20 : nI n + (20 : Int32) = nI (n + 20) := nI_add n 20
    rw [e20] at hpost
    refine e_put (by omega) k_ta_tape fun t1 d1 => ?_
    refine e_put (n := n + 4) (by omega) d1 fun t2 d2 => ?_
    refine e_put (n := n + 4 + 4) (by omega) d2 fun t3 d3 => ?_
    refine e_put (n := n + 4 + 4 + 4) (by omega) d3 fun t4 d4 => ?_
    refine e_put (n := n + 4 + 4 + 4 + 4) (by omega) d4 fun t5 d5 => ?_
    exact hpost t5 d5 (iv_ofN (by omega) (by omega) (by omega))
  · rw [if_neg hc, if_neg hc] at hpost
    exact hpost ta_tape k_ta_tape k_tf_length
theorem e_x_end {tf_length x1 : Int32} {post : Int32 → Int32 → Prop} (k_tf_length : iv 0 600 tf_length) (hpost : iv 0 600 (enL tf_length x1) → post (enR tf_length x1) (enL tf_length x1)) : q_wx_X10_end_0 tf_length x1 post := by
  unfold enL enR at hpost
  refine ⟨fun h => ?_, fun h => ⟨fun h2 => ?_, fun h2 => ?_⟩⟩
  · have hn : ¬ (0 ≤ x1 ∧ x1 ≤ tf_length) := fun h9 => absurd h (Int32.not_lt.mpr h9.1)
    rw [if_neg hn, if_neg hn] at hpost
    exact hpost k_tf_length
  · have hn : 0 ≤ x1 ∧ x1 ≤ tf_length := ⟨Int32.not_lt.mp h, h2⟩
    rw [if_pos hn, if_pos hn] at hpost
    refine hpost ⟨?_, Int.le_trans (Int32.le_iff_toInt_le.mp h2) k_tf_length.2⟩
    exact Int32.le_iff_toInt_le.mp hn.1
  · have hn : ¬ (0 ≤ x1 ∧ x1 ≤ tf_length) := fun h9 => h2 h9.2
    rw [if_neg hn, if_neg hn] at hpost
    exact hpost k_tf_length
theorem e_four {t z : Nat → Int32} {s : Nat} {v : Int32} {post : (Nat → Int32) → (Nat → Int32) → Prop} (hs : z 0 = nI s) (h4 : s + 4 ≤ 600) (hz : ∀ j, iv 0 600 (z j)) (ht : ∀ j, iv (-128) 127 (t j)) (h : ∀ t' z', z' 0 = nI (s + 4) → (∀ j, ¬ j = 0 → z' j = z j) → (∀ j, iv 0 600 (z' j)) → (∀ j, iv (-128) 127 (t' j)) → post t' z') : q_m_four_0 t z v post := by
  intro P hP
  have st : ∀ (x y : Int32) (t z : Nat → Int32) (m : Nat), ¬ x < 0 → y = x + -8 → z 0 = nI m → m + 1 ≤ 600 → (∀ j, iv 0 600 (z j)) → (∀ j, iv (-128) 127 (t j)) → (∀ t' z', z' 0 = nI (m + 1) → (∀ j, ¬ j = 0 → z' j = z j) → (∀ j, iv 0 600 (z' j)) → (∀ j, iv (-128) 127 (t' j)) → P y t' z') → P x t z := by
    intro x y t z m h1 h2 h3 h4 h5 h6 h7
    apply hP
    refine ⟨fun h => absurd h h1, fun _ v1 e1 => ?_⟩
    rw [c_0, h3]
    refine ⟨vp_in_nI (by omega) (by omega), fun t1 e2 v2 e3 z1 e4 v3 e5 => ?_⟩
    rw [nI_1] at e3
    rw [e5, ← h2]
    refine h7 t1 z1 ?_ ?_ (iv_upd e4 h5 (by rw [e3]; exact iv_ofN (by omega) (by omega) (by omega))) (iv_updB e2 h6)
    · rw [e4, e3]; exact up_s
    · intro j hj
      rw [e4]
      exact up_n hj
  refine st 24 16 _ _ s (by decide) (by decide) hs (by omega) hz ht fun t1 z1 a1 n1 b1 d1 => ?_
  refine st 16 8 _ _ (s + 1) (by decide) (by decide) a1 (by omega) b1 d1 fun t2 z2 a2 n2 b2 d2 => ?_
  refine st 8 0 _ _ (s + 2) (by decide) (by decide) a2 (by omega) b2 d2 fun t3 z3 a3 n3 b3 d3 => ?_
  refine st 0 (-8) _ _ (s + 3) (by decide) (by decide) a3 (by omega) b3 d3 fun t4 z4 a4 n4 b4 d4 => ?_
  apply hP
  exact ⟨fun _ => h t4 z4 a4 (fun j hj => by rw [n4 j hj, n3 j hj, n2 j hj, n1 j hj]) b4 d4, fun h => absurd (by decide) h⟩
theorem e_m_feed {f_code : Int32} {a_tape a_size : Nat → Int32} {x1 x2 x3 x4 x5 : Int32} {post : Int32 → Int32 → (Nat → Int32) → (Nat → Int32) → Prop} (k_a_tape : ∀ j, iv (-128) 127 (a_tape j)) (k_a_size : ∀ j, iv 0 600 (a_size j)) (hpost : ∀ (t z : Nat → Int32), (∀ j, iv (-128) 127 (t j)) → (∀ j, iv 0 600 (z j)) → z 0 = feL (a_size 0) → (∀ j, ¬ j = 0 → z j = a_size j) → post (feR (a_size 0)) 0 t z) : q_m_feed_0 f_code a_tape a_size x1 x2 x3 x4 x5 post := by
  unfold feR feL at hpost
  refine ⟨fun hc => ?_, fun hc => ?_⟩
  · rw [c_0] at hc
    obtain ⟨s, hs, -, hs6, hs2⟩ := iv_nI (k_a_size 0) (by omega)
    rw [if_pos hc, if_pos hc] at hpost
    rw [hs] at hc hpost
    have hle : s + 20 ≤ 600 := (e_len (by omega)).mp hc
    have e20 : nI s + (20 : Int32) = nI (s + 20) := nI_add s 20
    rw [e20] at hpost
    refine e_four hs (by omega) k_a_size k_a_tape fun t1 z1 a1 n1 b1 d1 => ?_
    refine e_four a1 (by omega) b1 d1 fun t2 z2 a2 n2 b2 d2 => ?_
    refine e_four a2 (by omega) b2 d2 fun t3 z3 a3 n3 b3 d3 => ?_
    refine e_four a3 (by omega) b3 d3 fun t4 z4 a4 n4 b4 d4 => ?_
    refine e_four a4 (by omega) b4 d4 fun t5 z5 a5 n5 b5 d5 => ?_
    have h9 := hpost t5 z5 d5 b5 a5 (fun j hj => by rw [n5 j hj, n4 j hj, n3 j hj, n2 j hj, n1 j hj])
    rw [c_0, a5]
    exact h9
  · rw [c_0] at hc
    rw [if_neg hc, if_neg hc] at hpost
    exact hpost a_tape a_size k_a_tape k_a_size rfl (fun _ _ => rfl)
theorem e_m_end {f_code : Int32} {a_size : Nat → Int32} {x1 : Int32} {post : Int32 → Int32 → (Nat → Int32) → Prop} (k_a_size : ∀ j, iv 0 600 (a_size j)) (hpost : ∀ (z : Nat → Int32), (∀ j, iv 0 600 (z j)) → z 0 = enL (a_size 0) x1 → (∀ j, ¬ j = 0 → z j = a_size j) → post (enR (a_size 0) x1) 0 z) : q_m_end_0 f_code a_size x1 post := by
  unfold enR enL at hpost
  refine sp_in (fun h => zi ?_) (fun h1 h2 => io (fun z e => ?_))
  · rw [c_0] at h
    rw [if_neg h, if_neg h] at hpost
    exact hpost a_size k_a_size rfl (fun _ _ => rfl)
  · rw [c_0] at h2 e
    rw [if_pos ⟨h1, h2⟩, if_pos ⟨h1, h2⟩] at hpost
    refine hpost z (iv_upd e k_a_size ⟨Int32.le_iff_toInt_le.mp h1, Int.le_trans (Int32.le_iff_toInt_le.mp h2) (k_a_size 0).2⟩) (by rw [e]; exact up_s) (fun j hj => by rw [e]; exact up_n hj)
theorem e_m_text {f_code : Int32} {a_tape : Nat → Int32} {a_size a0 : Nat → Int32} {a_fault : Nat → Int32} {a_faultPlace : Nat → Int32} {a_many : Nat → Int32} {a_lands : Nat → Int32} {a_evenings : Nat → Int32} {a_sights : Nat → Int32} {a_choirs : Nat → Int32} {f_reached : Int32} {f_length : Int32} {f_begins : Int32} {f_sort : Int32} {f_value : Int32} {f_word : Int64} {f_wrongAt : Int32} {f_laterFault : Int32} {f_laterPlace : Int32} {a_told : Nat → Int32} {a_read : Nat → Int32} {f_farHut : Int32} {f_farSinger : Int32} {f_good : Int32} {x1 : Int32} {x2 : Int32} {post : Int32 → (Int32) → (Nat → Int32) → (Nat → Int32) → (Nat → Int32) → (Nat → Int32) → (Nat → Int32) → (Nat → Int32) → (Nat → Int32) → (Nat → Int32) → (Int32) → (Int32) → (Int32) → (Int32) → (Int32) → (Int64) → (Int32) → (Int32) → (Int32) → (Nat → Int32) → (Nat → Int32) → (Int32) → (Int32) → (Int32) → Prop} (ha0 : a_size = a0) (k_f_code : iv 0 0 f_code) (k_a_tape : ∀ j, iv (-128) 127 (a_tape j)) (k_a_size : ∀ j, iv 0 600 (a_size j)) (k_a_many : ∀ j, iv 0 2 (a_many j)) (k_a_lands : mLand a_lands) (k_a_evenings : mEve a_evenings) (k_a_sights : mSig a_sights) (k_a_choirs : mCho a_choirs) (hpost : ∀ (r : Int32) (f_code : Int32) (a_size : Nat → Int32) (a_fault : Nat → Int32) (a_faultPlace : Nat → Int32) (a_many : Nat → Int32) (a_lands : Nat → Int32) (a_evenings : Nat → Int32) (a_sights : Nat → Int32) (a_choirs : Nat → Int32) (f_reached : Int32) (f_length : Int32) (f_begins : Int32) (f_sort : Int32) (f_value : Int32) (f_word : Int64) (f_wrongAt : Int32) (f_laterFault : Int32) (f_laterPlace : Int32) (a_told : Nat → Int32) (a_read : Nat → Int32) (f_farHut : Int32) (f_farSinger : Int32) (f_good : Int32), (a_size 0 = 0) → (∀ j, ¬ j = 0 → a_size j = a0 j) → (iv 0 0 f_code) → (∀ j, iv 0 600 (a_size j)) → (∀ j, iv 0 2 (a_many j)) → (mLand a_lands) → (mEve a_evenings) → (mSig a_sights) → (mCho a_choirs) → post r f_code a_size a_fault a_faultPlace a_many a_lands a_evenings a_sights a_choirs f_reached f_length f_begins f_sort f_value f_word f_wrongAt f_laterFault f_laterPlace a_told a_read f_farHut f_farSinger f_good) : q_m_text_0 f_code a_tape a_size a_fault a_faultPlace a_many a_lands a_evenings a_sights a_choirs f_reached f_length f_begins f_sort f_value f_word f_wrongAt f_laterFault f_laterPlace a_told a_read f_farHut f_farSinger f_good x1 x2 post := by
  subst ha0
  intro vl el z ez fa ef fp ep
  have y1 : z 0 = 0 := by rw [ez, c_0]; exact up_s
  have y2 : ∀ j, ¬ j = 0 → z j = a_size j := fun j hj => by rw [ez, c_0]; exact up_n hj
  have hz : ∀ j, iv 0 600 (z j) := iv_upd ez k_a_size (iv_lit (by decide))
  have hvl : iv 0 600 vl := iv_eq el (k_a_size _)
  obtain ⟨n, rfl, -, hn, hn2⟩ := iv_nI hvl (by omega)
  refine sp_in (fun _ => iz (hpost _ _ _ _ _ _ _ _ _ _ _ _ _ _ _ _ _ _ _ _ _ _ _ _ y1 y2 (iv_lit (by decide)) hz k_a_many k_a_lands k_a_evenings k_a_sights k_a_choirs)) (fun a1 a2 => oi ?_)
  obtain ⟨o, rfl, -, ho, ho2⟩ := iv_nI (iv_of (l := 0) (h := 3) rfl rfl a1 a2) (by omega)
  have hx : vp_in (nI o) 16 := vp_in_nI (by omega) (by omega)
  rw [nI_clamp (by omega)]
  have hmo := k_a_many o
  have k75 : (x2 = -1 → ¬ a_many o = 2) → (¬ x2 = -1 → ∃ K, K ≤ 1 ∧ x2 = nI K) → q_m_text_75 0 a_tape z fa fp a_many a_lands a_evenings a_sights a_choirs f_reached (nI n) f_begins f_sort f_value f_word f_wrongAt f_laterFault f_laterPlace a_told a_read f_farHut f_farSinger f_good (nI o) x2 post := by
    intro q1 q2
    refine sp_readTextT (by omega) (by omega) (fun _ _ _ _ _ _ _ _ _ _ _ _ _ _ _ => zi (hpost _ _ _ _ _ _ _ _ _ _ _ _ _ _ _ _ _ _ _ _ _ _ _ _ y1 y2 (iv_lit (by decide)) hz k_a_many k_a_lands k_a_evenings k_a_sights k_a_choirs)) (fun fa fp re be so va wd wr lf lp told rd fh fs gd hok => io ?_)
    have k118 : ∀ (k : Nat) (y : Int32), k ≤ 1 → iv 0 2 (a_many o + y) → q_m_text_118 0 a_tape z fa fp a_many a_lands a_evenings a_sights a_choirs re (nI n) be so va wd wr lf lp told rd fh fs gd (nI o) (nI k) (nI o) (a_many o) y post := by
      intro k y hk hy v1 e1
      refine ⟨hx, fun m1 em => ?_⟩
      refine sp_storeAllT (by omega) hk k_a_lands k_a_evenings k_a_sights k_a_choirs hok (fun l e s c h1 h2 h3 h4 => hpost _ _ _ _ _ _ _ _ _ _ _ _ _ _ _ _ _ _ _ _ _ _ _ _ y1 y2 (iv_lit (by decide)) hz (iv_upd em k_a_many (iv_eq e1 hy)) h1 h2 h3 h4)
    have y0 : iv 0 2 (a_many o + 0) := iv_add hmo (iv_lit (l := 0) (h := 0) (by decide)) (by decide)
    refine ⟨fun h => ?_, fun h => ⟨hx, ?_⟩⟩
    · obtain ⟨K, hK, rfl⟩ := q2 h
      refine ⟨hx, fun _ => ?_, fun h9 => absurd h9 h⟩
      rw [nI_clamp (by omega)]
      exact k118 K 0 hK y0
    · have hm1 : iv 0 1 (a_many o) := iv_ne (q1 h) hmo (iv_lit (l := 2) (h := 2) (by decide)) (by decide)
      obtain ⟨K, hKe, -, hK, hK2⟩ := iv_nI hm1 (by omega)
      refine ⟨hx, fun h9 => absurd h h9, fun _ => ?_⟩
      rw [nI_clamp (by omega)]
      have h9 := k118 K 1 (by omega) (iv_add hm1 (iv_lit (l := 1) (h := 1) (by decide)) (by decide))
      rw [← hKe] at h9
      exact h9
  refine ⟨fun hne => ?_, fun hm => ⟨hx, fun h2 => k75 (fun _ => h2) (fun h => absurd hm h), fun _ => hpost _ _ _ _ _ _ _ _ _ _ _ _ _ _ _ _ _ _ _ _ _ _ _ _ y1 y2 (iv_lit (by decide)) hz k_a_many k_a_lands k_a_evenings k_a_sights k_a_choirs⟩⟩
  refine ⟨hx, ?_⟩
  rw [nI_clamp (by omega)]
  refine sp_in (fun _ => ⟨rfl, zi (hpost _ _ _ _ _ _ _ _ _ _ _ _ _ _ _ _ _ _ _ _ _ _ _ _ y1 y2 (iv_lit (by decide)) hz k_a_many k_a_lands k_a_evenings k_a_sights k_a_choirs)⟩) (fun g1 g2 => ⟨rfl, io (k75 (fun h => absurd h hne) (fun _ => ?_))⟩)
  have hxx : iv 0 1 x2 := iv_lea (r_le g2) (iv_leb (l := 0) (h := 2147483647) (r_le g1) (iv_lit (l := 0) (h := 0) (by decide)) (iv_top x2) (by decide)) (iv_sub (l := -1) (h := 1) hmo (iv_lit (l := 1) (h := 1) (by decide)) (by decide)) (by decide)
  obtain ⟨K, hKe, -, hK, hK2⟩ := iv_nI hxx (by omega)
  exact ⟨K, by omega, hKe⟩

theorem cp_at {a a' : Nat → Int32} {f g : Nat} (h : ∀ i, i < 1 → a' (1 * g + i) = a (1 * f + i)) : a' g = a f := by
  have := h 0 (by omega)
  rw [Nat.one_mul, Nat.one_mul, Nat.add_zero, Nat.add_zero] at this
  exact this
theorem cp_ne {a a' : Nat → Int32} {g : Nat} (h : ∀ j, j < 1 * g ∨ 1 * g + 1 ≤ j → a' j = a j) : ∀ j, ¬ j = g → a' j = a j := fun j hj => h j (by omega)
theorem e_copyAll {t z fa fp mn l e s c : Nat → Int32} {f g : Nat} {post : (Nat → Int32) → (Nat → Int32) → (Nat → Int32) → (Nat → Int32) → (Nat → Int32) → (Nat → Int32) → (Nat → Int32) → (Nat → Int32) → (Nat → Int32) → Prop} (hf : f ≤ 3) (hg : g ≤ 3) (hne : ¬ f = g) (ht : ∀ j, iv (-128) 127 (t j)) (hz : ∀ j, iv 0 600 (z j)) (hm : ∀ j, iv 0 2 (mn j)) (hl : mLand l) (he : mEve e) (hs : mSig s) (hc : mCho c)
    (h : ∀ t z1 fa fp mn l e s c, z1 g = z f → (∀ j, ¬ j = g → z1 j = z j) → (∀ j, iv (-128) 127 (t j)) → (∀ j, iv 0 600 (z1 j)) → (∀ j, iv 0 2 (mn j)) → mLand l → mEve e → mSig s → mCho c → post t z1 fa fp mn l e s c) : q_m_copyAll_0 t z fa fp mn l e s c (nI f) (nI g) post := by
  intro P hP
  have ef : (600 : Int32) * nI f = nI (600 * f) := pk_mul 600 f
  have eg : (600 : Int32) * nI g = nI (600 * g) := pk_mul 600 g
  have loop : ∀ (n i : Nat) (t : Nat → Int32), n + i = 600 → (∀ j, iv (-128) 127 (t j)) → P (nI i) t := by
    intro n
    induction n with
    | zero =>
      intro i t hi ht
      apply hP
      refine ⟨fun _ => ?_, fun h2 => absurd (nI_le (a := 600) (by omega) (by omega)) h2⟩
      exact sp_row2E hf hg hne fun z' z1 z2 => sp_row3E hf hg hne fun _ _ _ => sp_row4E hf hg hne fun _ _ _ => sp_row5E hf hg hne fun m' m1 m2 => sp_row6E hf hg hne fun l' l1 l2 => sp_row7E hf hg hne fun e' e1 e2 => sp_row8E hf hg hne fun s' s1 s2 => sp_row9E hf hg hne fun c' c1 c2 => h _ _ _ _ _ _ _ _ _ (cp_at z1) (cp_ne z2) ht (cp_any hz z1 z2) (cp_any hm m1 m2) (cp_L hf hg hl l1 l2) (cp_E hf hg he e1 e2) (cp_S hf hg hs s1 s2) (cp_C hf hg hc c1 c2)
    | succ n ih =>
      intro i t hi ht
      apply hP
      refine ⟨fun h2 => absurd h2 (nI_ge (b := 600) (by omega) (by omega)), fun _ => ?_⟩
      rw [ef, eg, nI_add, nI_add]
      refine ⟨vp_in_nI (by omega) (by omega), fun v1 _ => ⟨vp_in_nI (by omega) (by omega), fun t1 e1 v2 e2 => ?_⟩⟩
      rw [e2, nI_1]
      exact ih (i + 1) t1 (by omega) (iv_updB e1 ht)
  exact loop 600 0 t rfl ht

/-- which image is meant: none, or a place below 3 -/
def imJ (x : Int32) : Prop := 0 ≤ x ∧ x ≤ 2
theorem e_m_image {f_code : Int32} {a_tape a_size a_fault a_faultPlace a_many a_lands a_evenings a_sights a_choirs a_kept : Nat → Int32} {x1 : Int32} {post : Int32 → Int32 → (Nat → Int32) → (Nat → Int32) → (Nat → Int32) → (Nat → Int32) → (Nat → Int32) → (Nat → Int32) → (Nat → Int32) → (Nat → Int32) → (Nat → Int32) → (Nat → Int32) → Prop} (k_a_tape : ∀ j, iv (-128) 127 (a_tape j)) (k_a_size : ∀ j, iv 0 600 (a_size j)) (k_a_many : ∀ j, iv 0 2 (a_many j)) (k_a_lands : mLand a_lands) (k_a_evenings : mEve a_evenings) (k_a_sights : mSig a_sights) (k_a_choirs : mCho a_choirs) (k_a_kept : ∀ j, iv 0 1 (a_kept j)) (h0 : ¬ imJ x1 → post 0 0 a_tape a_size a_fault a_faultPlace a_many a_lands a_evenings a_sights a_choirs a_kept) (h1 : ∀ k, k < 3 → x1 = nI k → ∀ t z fa fp mn l e s c kp, z (k + 1) = a_size 0 → (∀ j, ¬ j = k + 1 → z j = a_size j) → kp k = 1 → (∀ j, ¬ j = k → kp j = a_kept j) → (∀ j, iv (-128) 127 (t j)) → (∀ j, iv 0 600 (z j)) → (∀ j, iv 0 2 (mn j)) → mLand l → mEve e → mSig s → mCho c → (∀ j, iv 0 1 (kp j)) → post 1 0 t z fa fp mn l e s c kp) : q_m_image_0 f_code a_tape a_size a_fault a_faultPlace a_many a_lands a_evenings a_sights a_choirs a_kept x1 post := by
  refine sp_in (fun h => zi (h0 h)) (fun a1 a2 => io ?_)
  obtain ⟨j, rfl, -, hj, hj2⟩ := iv_nI (iv_of (l := 0) (h := 2) rfl rfl a1 a2) (by omega)
  rw [nI_1]
  refine e_copyAll (f := 0) (by omega) (by omega) (by omega) k_a_tape k_a_size k_a_many k_a_lands k_a_evenings k_a_sights k_a_choirs (fun t z fa fp mn l e s c y1 y2 h1' h2 h3 h4 h5 h6 h7 => ⟨vp_in_nI (by omega) (by omega), fun kp ek => ?_⟩)
  rw [nI_clamp (by omega)] at ek
  exact h1 j (by omega) rfl t z fa fp mn l e s c kp y1 y2 (by rw [ek]; exact up_s) (fun q hq => by rw [ek]; exact up_n hq) h1' h2 h3 h4 h5 h6 h7 (iv_updZ ek k_a_kept)
theorem e_m_again {f_code : Int32} {a_tape a_size a_fault a_faultPlace a_many a_lands a_evenings a_sights a_choirs a_kept : Nat → Int32} {x1 : Int32} {post : Int32 → Int32 → (Nat → Int32) → (Nat → Int32) → (Nat → Int32) → (Nat → Int32) → (Nat → Int32) → (Nat → Int32) → (Nat → Int32) → (Nat → Int32) → (Nat → Int32) → Prop} (k_a_tape : ∀ j, iv (-128) 127 (a_tape j)) (k_a_size : ∀ j, iv 0 600 (a_size j)) (k_a_many : ∀ j, iv 0 2 (a_many j)) (k_a_lands : mLand a_lands) (k_a_evenings : mEve a_evenings) (k_a_sights : mSig a_sights) (k_a_choirs : mCho a_choirs) (h0 : ¬ (∃ k, k < 3 ∧ x1 = nI k ∧ ¬ a_kept k = 0) → post 0 0 a_tape a_size a_fault a_faultPlace a_many a_lands a_evenings a_sights a_choirs) (h1 : ∀ k, k < 3 → x1 = nI k → ¬ a_kept k = 0 → ∀ t z fa fp mn l e s c, z 0 = a_size (k + 1) → (∀ j, ¬ j = 0 → z j = a_size j) → (∀ j, iv (-128) 127 (t j)) → (∀ j, iv 0 600 (z j)) → (∀ j, iv 0 2 (mn j)) → mLand l → mEve e → mSig s → mCho c → post 1 0 t z fa fp mn l e s c) : q_m_again_0 f_code a_tape a_size a_fault a_faultPlace a_many a_lands a_evenings a_sights a_choirs a_kept x1 post := by
  refine sp_in (fun h => ⟨fun _ => h0 (fun ⟨k, hk, e, _⟩ => h (by rw [e]; exact ⟨nI_pos' (by omega), nI_le (b := 2) (by omega) (by omega)⟩)), fun h9 => absurd rfl h9⟩) (fun a1 a2 => ⟨fun h9 => absurd h9 (by decide), fun _ => ?_⟩)
  obtain ⟨j, rfl, -, hj, hj2⟩ := iv_nI (iv_of (l := 0) (h := 2) rfl rfl a1 a2) (by omega)
  refine ⟨vp_in_nI (by omega) (by omega), ?_⟩
  rw [nI_clamp (by omega)]
  refine ⟨fun hk => ?_, fun hk => h0 (fun ⟨k, hk3, e, h9⟩ => h9 (by rw [(nI_eq (by omega) (by omega)).mp e] at hk; exact hk))⟩
  rw [nI_1]
  exact e_copyAll (g := 0) (by omega) (by omega) (by omega) k_a_tape k_a_size k_a_many k_a_lands k_a_evenings k_a_sights k_a_choirs (fun t z fa fp mn l e s c y1 y2 g1 g2 g3 g4 g5 g6 g7 => h1 j (by omega) rfl hk t z fa fp mn l e s c y1 y2 g1 g2 g3 g4 g5 g6 g7)
set_option maxRecDepth 20000 in
theorem e_copy_57 {a_tape : Nat → Int32} {f_length : Int32} {f_fault : Int32} {f_place : Int32} {a_counts : Nat → Int32} {l0f_huts : Int32} {l0f_singers : Int32} {l0f_villages : Int32} {l0f_dams : Int32} {l0f_echoes : Int32} {l0f_deep : Int32} {l0f_slide : Int32} {l0a_heights : Nat → Int32} {l0a_ladders : Nat → Int32} {l0a_minutes : Nat → Int32} {l0a_echoFrom : Nat → Int32} {l0a_echoTo : Nat → Int32} {l0a_homes : Nat → Int32} {l0a_talls : Nat → Int32} {l0a_known : Nat → Int32} {l1f_huts : Int32} {l1f_singers : Int32} {l1f_villages : Int32} {l1f_dams : Int32} {l1f_echoes : Int32} {l1f_deep : Int32} {l1f_slide : Int32} {l1a_heights : Nat → Int32} {l1a_ladders : Nat → Int32} {l1a_minutes : Nat → Int32} {l1a_echoFrom : Nat → Int32} {l1a_echoTo : Nat → Int32} {l1a_homes : Nat → Int32} {l1a_talls : Nat → Int32} {l1a_known : Nat → Int32} {v0f_deeds : Int32} {v0a_kinds : Nat → Int32} {v0a_firsts : Nat → Int32} {v0a_seconds : Nat → Int32} {v1f_deeds : Int32} {v1a_kinds : Nat → Int32} {v1a_firsts : Nat → Int32} {v1a_seconds : Nat → Int32} {s0f_facts : Int32} {s0a_heard : Nat → Int32} {s0a_huts : Nat → Int32} {s0a_minutes : Nat → Int32} {s1f_facts : Int32} {s1a_heard : Nat → Int32} {s1a_huts : Nat → Int32} {s1a_minutes : Nat → Int32} {c0f_voices : Int32} {c0f_step : Int32} {c0a_parts : Nat → Int32} {c0a_heights : Nat → Int32} {c1f_voices : Int32} {c1f_step : Int32} {c1a_parts : Nat → Int32} {c1a_heights : Nat → Int32} {oa_tape : Nat → Int32} {of_length : Int32} {of_fault : Int32} {of_place : Int32} {oa_counts : Nat → Int32} {ol0f_huts : Int32} {ol0f_singers : Int32} {ol0f_villages : Int32} {ol0f_dams : Int32} {ol0f_echoes : Int32} {ol0f_deep : Int32} {ol0f_slide : Int32} {ol0a_heights : Nat → Int32} {ol0a_ladders : Nat → Int32} {ol0a_minutes : Nat → Int32} {ol0a_echoFrom : Nat → Int32} {ol0a_echoTo : Nat → Int32} {ol0a_homes : Nat → Int32} {ol0a_talls : Nat → Int32} {ol0a_known : Nat → Int32} {ol1f_huts : Int32} {ol1f_singers : Int32} {ol1f_villages : Int32} {ol1f_dams : Int32} {ol1f_echoes : Int32} {ol1f_deep : Int32} {ol1f_slide : Int32} {ol1a_heights : Nat → Int32} {ol1a_ladders : Nat → Int32} {ol1a_minutes : Nat → Int32} {ol1a_echoFrom : Nat → Int32} {ol1a_echoTo : Nat → Int32} {ol1a_homes : Nat → Int32} {ol1a_talls : Nat → Int32} {ol1a_known : Nat → Int32} {ov0f_deeds : Int32} {ov0a_kinds : Nat → Int32} {ov0a_firsts : Nat → Int32} {ov0a_seconds : Nat → Int32} {ov1f_deeds : Int32} {ov1a_kinds : Nat → Int32} {ov1a_firsts : Nat → Int32} {ov1a_seconds : Nat → Int32} {os0f_facts : Int32} {os0a_heard : Nat → Int32} {os0a_huts : Nat → Int32} {os0a_minutes : Nat → Int32} {os1f_facts : Int32} {os1a_heard : Nat → Int32} {os1a_huts : Nat → Int32} {os1a_minutes : Nat → Int32} {oc0f_voices : Int32} {oc0f_step : Int32} {oc0a_parts : Nat → Int32} {oc0a_heights : Nat → Int32} {oc1f_voices : Int32} {oc1f_step : Int32} {oc1a_parts : Nat → Int32} {oc1a_heights : Nat → Int32} {x2 : Int32} {post : (Nat → Int32) → (Int32) → (Int32) → (Int32) → (Nat → Int32) → (Int32) → (Int32) → (Int32) → (Int32) → (Int32) → (Int32) → (Int32) → (Nat → Int32) → (Nat → Int32) → (Nat → Int32) → (Nat → Int32) → (Nat → Int32) → (Nat → Int32) → (Nat → Int32) → (Nat → Int32) → (Int32) → (Int32) → (Int32) → (Int32) → (Int32) → (Int32) → (Int32) → (Nat → Int32) → (Nat → Int32) → (Nat → Int32) → (Nat → Int32) → (Nat → Int32) → (Nat → Int32) → (Nat → Int32) → (Nat → Int32) → (Int32) → (Nat → Int32) → (Nat → Int32) → (Nat → Int32) → (Int32) → (Nat → Int32) → (Nat → Int32) → (Nat → Int32) → (Int32) → (Nat → Int32) → (Nat → Int32) → (Nat → Int32) → (Int32) → (Nat → Int32) → (Nat → Int32) → (Nat → Int32) → (Int32) → (Int32) → (Nat → Int32) → (Nat → Int32) → (Int32) → (Int32) → (Nat → Int32) → (Nat → Int32) → Prop} {f0 : Int32} (hlen : f_length = f0) (k_a_tape : ∀ j, iv (-128) 127 (a_tape j)) (k_f_length : iv 0 600 f_length) (k_f_fault : iv 0 4 f_fault) (k_f_place : iv (-1) 600 f_place) (k_a_counts : ∀ j, iv 0 2 (a_counts j)) (k_l0f_huts : iv 0 9 l0f_huts) (k_l0f_singers : iv 0 6 l0f_singers) (k_l0f_villages : iv 0 511 l0f_villages) (k_l0f_dams : iv 0 511 l0f_dams) (k_l0f_echoes : iv 0 4 l0f_echoes) (k_l0f_deep : iv 1 9 l0f_deep) (k_l0f_slide : iv 0 10 l0f_slide) (k_l0a_heights : ∀ j, iv 0 99 (l0a_heights j)) (k_l0a_ladders : ∀ j, iv 0 9 (l0a_ladders j)) (k_l0a_minutes : ∀ j, iv 0 9 (l0a_minutes j)) (k_l0a_echoFrom : ∀ j, iv 0 8 (l0a_echoFrom j)) (k_l0a_echoTo : ∀ j, iv 0 8 (l0a_echoTo j)) (k_l0a_homes : ∀ j, iv 0 8 (l0a_homes j)) (k_l0a_talls : ∀ j, iv 0 9 (l0a_talls j)) (k_l0a_known : ∀ j, iv 0 31 (l0a_known j)) (k_l1f_huts : iv 0 9 l1f_huts) (k_l1f_singers : iv 0 6 l1f_singers) (k_l1f_villages : iv 0 511 l1f_villages) (k_l1f_dams : iv 0 511 l1f_dams) (k_l1f_echoes : iv 0 4 l1f_echoes) (k_l1f_deep : iv 1 9 l1f_deep) (k_l1f_slide : iv 0 10 l1f_slide) (k_l1a_heights : ∀ j, iv 0 99 (l1a_heights j)) (k_l1a_ladders : ∀ j, iv 0 9 (l1a_ladders j)) (k_l1a_minutes : ∀ j, iv 0 9 (l1a_minutes j)) (k_l1a_echoFrom : ∀ j, iv 0 8 (l1a_echoFrom j)) (k_l1a_echoTo : ∀ j, iv 0 8 (l1a_echoTo j)) (k_l1a_homes : ∀ j, iv 0 8 (l1a_homes j)) (k_l1a_talls : ∀ j, iv 0 9 (l1a_talls j)) (k_l1a_known : ∀ j, iv 0 31 (l1a_known j)) (k_v0f_deeds : iv 0 40 v0f_deeds) (k_v0a_kinds : ∀ j, iv 0 5 (v0a_kinds j)) (k_v0a_firsts : ∀ j, iv 0 5 (v0a_firsts j)) (k_v0a_seconds : ∀ j, iv (-1) 8 (v0a_seconds j)) (k_v1f_deeds : iv 0 40 v1f_deeds) (k_v1a_kinds : ∀ j, iv 0 5 (v1a_kinds j)) (k_v1a_firsts : ∀ j, iv 0 5 (v1a_firsts j)) (k_v1a_seconds : ∀ j, iv (-1) 8 (v1a_seconds j)) (k_s0f_facts : iv 0 10 s0f_facts) (k_s0a_heard : ∀ j, iv 0 1 (s0a_heard j)) (k_s0a_huts : ∀ j, iv 0 8 (s0a_huts j)) (k_s0a_minutes : ∀ j, iv 0 60 (s0a_minutes j)) (k_s1f_facts : iv 0 10 s1f_facts) (k_s1a_heard : ∀ j, iv 0 1 (s1a_heard j)) (k_s1a_huts : ∀ j, iv 0 8 (s1a_huts j)) (k_s1a_minutes : ∀ j, iv 0 60 (s1a_minutes j)) (k_c0f_voices : iv 0 9 c0f_voices) (k_c0f_step : iv 0 9 c0f_step) (k_c0a_parts : ∀ j, iv 0 3 (c0a_parts j)) (k_c0a_heights : ∀ j, iv 0 9 (c0a_heights j)) (k_c1f_voices : iv 0 9 c1f_voices) (k_c1f_step : iv 0 9 c1f_step) (k_c1a_parts : ∀ j, iv 0 3 (c1a_parts j)) (k_c1a_heights : ∀ j, iv 0 9 (c1a_heights j)) (k_oa_tape : ∀ j, iv (-128) 127 (oa_tape j)) (k_of_length : iv 0 600 of_length) (k_of_fault : iv 0 4 of_fault) (k_of_place : iv (-1) 600 of_place) (k_oa_counts : ∀ j, iv 0 2 (oa_counts j)) (k_ol0f_huts : iv 0 9 ol0f_huts) (k_ol0f_singers : iv 0 6 ol0f_singers) (k_ol0f_villages : iv 0 511 ol0f_villages) (k_ol0f_dams : iv 0 511 ol0f_dams) (k_ol0f_echoes : iv 0 4 ol0f_echoes) (k_ol0f_deep : iv 1 9 ol0f_deep) (k_ol0f_slide : iv 0 10 ol0f_slide) (k_ol0a_heights : ∀ j, iv 0 99 (ol0a_heights j)) (k_ol0a_ladders : ∀ j, iv 0 9 (ol0a_ladders j)) (k_ol0a_minutes : ∀ j, iv 0 9 (ol0a_minutes j)) (k_ol0a_echoFrom : ∀ j, iv 0 8 (ol0a_echoFrom j)) (k_ol0a_echoTo : ∀ j, iv 0 8 (ol0a_echoTo j)) (k_ol0a_homes : ∀ j, iv 0 8 (ol0a_homes j)) (k_ol0a_talls : ∀ j, iv 0 9 (ol0a_talls j)) (k_ol0a_known : ∀ j, iv 0 31 (ol0a_known j)) (k_ol1f_huts : iv 0 9 ol1f_huts) (k_ol1f_singers : iv 0 6 ol1f_singers) (k_ol1f_villages : iv 0 511 ol1f_villages) (k_ol1f_dams : iv 0 511 ol1f_dams) (k_ol1f_echoes : iv 0 4 ol1f_echoes) (k_ol1f_deep : iv 1 9 ol1f_deep) (k_ol1f_slide : iv 0 10 ol1f_slide) (k_ol1a_heights : ∀ j, iv 0 99 (ol1a_heights j)) (k_ol1a_ladders : ∀ j, iv 0 9 (ol1a_ladders j)) (k_ol1a_minutes : ∀ j, iv 0 9 (ol1a_minutes j)) (k_ol1a_echoFrom : ∀ j, iv 0 8 (ol1a_echoFrom j)) (k_ol1a_echoTo : ∀ j, iv 0 8 (ol1a_echoTo j)) (k_ol1a_homes : ∀ j, iv 0 8 (ol1a_homes j)) (k_ol1a_talls : ∀ j, iv 0 9 (ol1a_talls j)) (k_ol1a_known : ∀ j, iv 0 31 (ol1a_known j)) (k_ov0f_deeds : iv 0 40 ov0f_deeds) (k_ov0a_kinds : ∀ j, iv 0 5 (ov0a_kinds j)) (k_ov0a_firsts : ∀ j, iv 0 5 (ov0a_firsts j)) (k_ov0a_seconds : ∀ j, iv (-1) 8 (ov0a_seconds j)) (k_ov1f_deeds : iv 0 40 ov1f_deeds) (k_ov1a_kinds : ∀ j, iv 0 5 (ov1a_kinds j)) (k_ov1a_firsts : ∀ j, iv 0 5 (ov1a_firsts j)) (k_ov1a_seconds : ∀ j, iv (-1) 8 (ov1a_seconds j)) (k_os0f_facts : iv 0 10 os0f_facts) (k_os0a_heard : ∀ j, iv 0 1 (os0a_heard j)) (k_os0a_huts : ∀ j, iv 0 8 (os0a_huts j)) (k_os0a_minutes : ∀ j, iv 0 60 (os0a_minutes j)) (k_os1f_facts : iv 0 10 os1f_facts) (k_os1a_heard : ∀ j, iv 0 1 (os1a_heard j)) (k_os1a_huts : ∀ j, iv 0 8 (os1a_huts j)) (k_os1a_minutes : ∀ j, iv 0 60 (os1a_minutes j)) (k_oc0f_voices : iv 0 9 oc0f_voices) (k_oc0f_step : iv 0 9 oc0f_step) (k_oc0a_parts : ∀ j, iv 0 3 (oc0a_parts j)) (k_oc0a_heights : ∀ j, iv 0 9 (oc0a_heights j)) (k_oc1f_voices : iv 0 9 oc1f_voices) (k_oc1f_step : iv 0 9 oc1f_step) (k_oc1a_parts : ∀ j, iv 0 3 (oc1a_parts j)) (k_oc1a_heights : ∀ j, iv 0 9 (oc1a_heights j)) (hx2 : iv 0 2 x2) (hpost : ∀ (a_tape : Nat → Int32) (f_length : Int32) (f_fault : Int32) (f_place : Int32) (a_counts : Nat → Int32) (l0f_huts : Int32) (l0f_singers : Int32) (l0f_villages : Int32) (l0f_dams : Int32) (l0f_echoes : Int32) (l0f_deep : Int32) (l0f_slide : Int32) (l0a_heights : Nat → Int32) (l0a_ladders : Nat → Int32) (l0a_minutes : Nat → Int32) (l0a_echoFrom : Nat → Int32) (l0a_echoTo : Nat → Int32) (l0a_homes : Nat → Int32) (l0a_talls : Nat → Int32) (l0a_known : Nat → Int32) (l1f_huts : Int32) (l1f_singers : Int32) (l1f_villages : Int32) (l1f_dams : Int32) (l1f_echoes : Int32) (l1f_deep : Int32) (l1f_slide : Int32) (l1a_heights : Nat → Int32) (l1a_ladders : Nat → Int32) (l1a_minutes : Nat → Int32) (l1a_echoFrom : Nat → Int32) (l1a_echoTo : Nat → Int32) (l1a_homes : Nat → Int32) (l1a_talls : Nat → Int32) (l1a_known : Nat → Int32) (v0f_deeds : Int32) (v0a_kinds : Nat → Int32) (v0a_firsts : Nat → Int32) (v0a_seconds : Nat → Int32) (v1f_deeds : Int32) (v1a_kinds : Nat → Int32) (v1a_firsts : Nat → Int32) (v1a_seconds : Nat → Int32) (s0f_facts : Int32) (s0a_heard : Nat → Int32) (s0a_huts : Nat → Int32) (s0a_minutes : Nat → Int32) (s1f_facts : Int32) (s1a_heard : Nat → Int32) (s1a_huts : Nat → Int32) (s1a_minutes : Nat → Int32) (c0f_voices : Int32) (c0f_step : Int32) (c0a_parts : Nat → Int32) (c0a_heights : Nat → Int32) (c1f_voices : Int32) (c1f_step : Int32) (c1a_parts : Nat → Int32) (c1a_heights : Nat → Int32), f_length = f0 → (∀ j, iv (-128) 127 (a_tape j)) → (iv 0 600 f_length) → (iv 0 4 f_fault) → (iv (-1) 600 f_place) → (∀ j, iv 0 2 (a_counts j)) → (iv 0 9 l0f_huts) → (iv 0 6 l0f_singers) → (iv 0 511 l0f_villages) → (iv 0 511 l0f_dams) → (iv 0 4 l0f_echoes) → (iv 1 9 l0f_deep) → (iv 0 10 l0f_slide) → (∀ j, iv 0 99 (l0a_heights j)) → (∀ j, iv 0 9 (l0a_ladders j)) → (∀ j, iv 0 9 (l0a_minutes j)) → (∀ j, iv 0 8 (l0a_echoFrom j)) → (∀ j, iv 0 8 (l0a_echoTo j)) → (∀ j, iv 0 8 (l0a_homes j)) → (∀ j, iv 0 9 (l0a_talls j)) → (∀ j, iv 0 31 (l0a_known j)) → (iv 0 9 l1f_huts) → (iv 0 6 l1f_singers) → (iv 0 511 l1f_villages) → (iv 0 511 l1f_dams) → (iv 0 4 l1f_echoes) → (iv 1 9 l1f_deep) → (iv 0 10 l1f_slide) → (∀ j, iv 0 99 (l1a_heights j)) → (∀ j, iv 0 9 (l1a_ladders j)) → (∀ j, iv 0 9 (l1a_minutes j)) → (∀ j, iv 0 8 (l1a_echoFrom j)) → (∀ j, iv 0 8 (l1a_echoTo j)) → (∀ j, iv 0 8 (l1a_homes j)) → (∀ j, iv 0 9 (l1a_talls j)) → (∀ j, iv 0 31 (l1a_known j)) → (iv 0 40 v0f_deeds) → (∀ j, iv 0 5 (v0a_kinds j)) → (∀ j, iv 0 5 (v0a_firsts j)) → (∀ j, iv (-1) 8 (v0a_seconds j)) → (iv 0 40 v1f_deeds) → (∀ j, iv 0 5 (v1a_kinds j)) → (∀ j, iv 0 5 (v1a_firsts j)) → (∀ j, iv (-1) 8 (v1a_seconds j)) → (iv 0 10 s0f_facts) → (∀ j, iv 0 1 (s0a_heard j)) → (∀ j, iv 0 8 (s0a_huts j)) → (∀ j, iv 0 60 (s0a_minutes j)) → (iv 0 10 s1f_facts) → (∀ j, iv 0 1 (s1a_heard j)) → (∀ j, iv 0 8 (s1a_huts j)) → (∀ j, iv 0 60 (s1a_minutes j)) → (iv 0 9 c0f_voices) → (iv 0 9 c0f_step) → (∀ j, iv 0 3 (c0a_parts j)) → (∀ j, iv 0 9 (c0a_heights j)) → (iv 0 9 c1f_voices) → (iv 0 9 c1f_step) → (∀ j, iv 0 3 (c1a_parts j)) → (∀ j, iv 0 9 (c1a_heights j)) → post a_tape f_length f_fault f_place a_counts l0f_huts l0f_singers l0f_villages l0f_dams l0f_echoes l0f_deep l0f_slide l0a_heights l0a_ladders l0a_minutes l0a_echoFrom l0a_echoTo l0a_homes l0a_talls l0a_known l1f_huts l1f_singers l1f_villages l1f_dams l1f_echoes l1f_deep l1f_slide l1a_heights l1a_ladders l1a_minutes l1a_echoFrom l1a_echoTo l1a_homes l1a_talls l1a_known v0f_deeds v0a_kinds v0a_firsts v0a_seconds v1f_deeds v1a_kinds v1a_firsts v1a_seconds s0f_facts s0a_heard s0a_huts s0a_minutes s1f_facts s1a_heard s1a_huts s1a_minutes c0f_voices c0f_step c0a_parts c0a_heights c1f_voices c1f_step c1a_parts c1a_heights) : q_wtt_X9_copyFrom_47_57 a_tape f_length f_fault f_place a_counts l0f_huts l0f_singers l0f_villages l0f_dams l0f_echoes l0f_deep l0f_slide l0a_heights l0a_ladders l0a_minutes l0a_echoFrom l0a_echoTo l0a_homes l0a_talls l0a_known l1f_huts l1f_singers l1f_villages l1f_dams l1f_echoes l1f_deep l1f_slide l1a_heights l1a_ladders l1a_minutes l1a_echoFrom l1a_echoTo l1a_homes l1a_talls l1a_known v0f_deeds v0a_kinds v0a_firsts v0a_seconds v1f_deeds v1a_kinds v1a_firsts v1a_seconds s0f_facts s0a_heard s0a_huts s0a_minutes s1f_facts s1a_heard s1a_huts s1a_minutes c0f_voices c0f_step c0a_parts c0a_heights c1f_voices c1f_step c1a_parts c1a_heights oa_tape of_length of_fault of_place oa_counts ol0f_huts ol0f_singers ol0f_villages ol0f_dams ol0f_echoes ol0f_deep ol0f_slide ol0a_heights ol0a_ladders ol0a_minutes ol0a_echoFrom ol0a_echoTo ol0a_homes ol0a_talls ol0a_known ol1f_huts ol1f_singers ol1f_villages ol1f_dams ol1f_echoes ol1f_deep ol1f_slide ol1a_heights ol1a_ladders ol1a_minutes ol1a_echoFrom ol1a_echoTo ol1a_homes ol1a_talls ol1a_known ov0f_deeds ov0a_kinds ov0a_firsts ov0a_seconds ov1f_deeds ov1a_kinds ov1a_firsts ov1a_seconds os0f_facts os0a_heard os0a_huts os0a_minutes os1f_facts os1a_heard os1a_huts os1a_minutes oc0f_voices oc0f_step oc0a_parts oc0a_heights oc1f_voices oc1f_step oc1a_parts oc1a_heights x2 post := by
  intro P hP
  have loop : ∀ (n : Nat) (x2 : Int32) (l0f_huts : Int32) (l0f_singers : Int32) (l0f_villages : Int32) (l0f_dams : Int32) (l0f_echoes : Int32) (l0f_deep : Int32) (l0f_slide : Int32) (l0a_heights : Nat → Int32) (l0a_ladders : Nat → Int32) (l0a_minutes : Nat → Int32) (l0a_echoFrom : Nat → Int32) (l0a_echoTo : Nat → Int32) (l0a_homes : Nat → Int32) (l0a_talls : Nat → Int32) (l0a_known : Nat → Int32) (l1f_huts : Int32) (l1f_singers : Int32) (l1f_villages : Int32) (l1f_dams : Int32) (l1f_echoes : Int32) (l1f_deep : Int32) (l1f_slide : Int32) (l1a_heights : Nat → Int32) (l1a_ladders : Nat → Int32) (l1a_minutes : Nat → Int32) (l1a_echoFrom : Nat → Int32) (l1a_echoTo : Nat → Int32) (l1a_homes : Nat → Int32) (l1a_talls : Nat → Int32) (l1a_known : Nat → Int32) (v0f_deeds : Int32) (v0a_kinds : Nat → Int32) (v0a_firsts : Nat → Int32) (v0a_seconds : Nat → Int32) (v1f_deeds : Int32) (v1a_kinds : Nat → Int32) (v1a_firsts : Nat → Int32) (v1a_seconds : Nat → Int32) (s0f_facts : Int32) (s0a_heard : Nat → Int32) (s0a_huts : Nat → Int32) (s0a_minutes : Nat → Int32) (s1f_facts : Int32) (s1a_heard : Nat → Int32) (s1a_huts : Nat → Int32) (s1a_minutes : Nat → Int32) (c0f_voices : Int32) (c0f_step : Int32) (c0a_parts : Nat → Int32) (c0a_heights : Nat → Int32) (c1f_voices : Int32) (c1f_step : Int32) (c1a_parts : Nat → Int32) (c1a_heights : Nat → Int32), (2 - x2.toInt < (n : Int)) → (iv 0 2 x2) → (iv 0 9 l0f_huts) → (iv 0 6 l0f_singers) → (iv 0 511 l0f_villages) → (iv 0 511 l0f_dams) → (iv 0 4 l0f_echoes) → (iv 1 9 l0f_deep) → (iv 0 10 l0f_slide) → (∀ j, iv 0 99 (l0a_heights j)) → (∀ j, iv 0 9 (l0a_ladders j)) → (∀ j, iv 0 9 (l0a_minutes j)) → (∀ j, iv 0 8 (l0a_echoFrom j)) → (∀ j, iv 0 8 (l0a_echoTo j)) → (∀ j, iv 0 8 (l0a_homes j)) → (∀ j, iv 0 9 (l0a_talls j)) → (∀ j, iv 0 31 (l0a_known j)) → (iv 0 9 l1f_huts) → (iv 0 6 l1f_singers) → (iv 0 511 l1f_villages) → (iv 0 511 l1f_dams) → (iv 0 4 l1f_echoes) → (iv 1 9 l1f_deep) → (iv 0 10 l1f_slide) → (∀ j, iv 0 99 (l1a_heights j)) → (∀ j, iv 0 9 (l1a_ladders j)) → (∀ j, iv 0 9 (l1a_minutes j)) → (∀ j, iv 0 8 (l1a_echoFrom j)) → (∀ j, iv 0 8 (l1a_echoTo j)) → (∀ j, iv 0 8 (l1a_homes j)) → (∀ j, iv 0 9 (l1a_talls j)) → (∀ j, iv 0 31 (l1a_known j)) → (iv 0 40 v0f_deeds) → (∀ j, iv 0 5 (v0a_kinds j)) → (∀ j, iv 0 5 (v0a_firsts j)) → (∀ j, iv (-1) 8 (v0a_seconds j)) → (iv 0 40 v1f_deeds) → (∀ j, iv 0 5 (v1a_kinds j)) → (∀ j, iv 0 5 (v1a_firsts j)) → (∀ j, iv (-1) 8 (v1a_seconds j)) → (iv 0 10 s0f_facts) → (∀ j, iv 0 1 (s0a_heard j)) → (∀ j, iv 0 8 (s0a_huts j)) → (∀ j, iv 0 60 (s0a_minutes j)) → (iv 0 10 s1f_facts) → (∀ j, iv 0 1 (s1a_heard j)) → (∀ j, iv 0 8 (s1a_huts j)) → (∀ j, iv 0 60 (s1a_minutes j)) → (iv 0 9 c0f_voices) → (iv 0 9 c0f_step) → (∀ j, iv 0 3 (c0a_parts j)) → (∀ j, iv 0 9 (c0a_heights j)) → (iv 0 9 c1f_voices) → (iv 0 9 c1f_step) → (∀ j, iv 0 3 (c1a_parts j)) → (∀ j, iv 0 9 (c1a_heights j)) → P x2 l0f_huts l0f_singers l0f_villages l0f_dams l0f_echoes l0f_deep l0f_slide l0a_heights l0a_ladders l0a_minutes l0a_echoFrom l0a_echoTo l0a_homes l0a_talls l0a_known l1f_huts l1f_singers l1f_villages l1f_dams l1f_echoes l1f_deep l1f_slide l1a_heights l1a_ladders l1a_minutes l1a_echoFrom l1a_echoTo l1a_homes l1a_talls l1a_known v0f_deeds v0a_kinds v0a_firsts v0a_seconds v1f_deeds v1a_kinds v1a_firsts v1a_seconds s0f_facts s0a_heard s0a_huts s0a_minutes s1f_facts s1a_heard s1a_huts s1a_minutes c0f_voices c0f_step c0a_parts c0a_heights c1f_voices c1f_step c1a_parts c1a_heights := by
    intro n
    induction n with
    | zero => intro x2 l0f_huts l0f_singers l0f_villages l0f_dams l0f_echoes l0f_deep l0f_slide l0a_heights l0a_ladders l0a_minutes l0a_echoFrom l0a_echoTo l0a_homes l0a_talls l0a_known l1f_huts l1f_singers l1f_villages l1f_dams l1f_echoes l1f_deep l1f_slide l1a_heights l1a_ladders l1a_minutes l1a_echoFrom l1a_echoTo l1a_homes l1a_talls l1a_known v0f_deeds v0a_kinds v0a_firsts v0a_seconds v1f_deeds v1a_kinds v1a_firsts v1a_seconds s0f_facts s0a_heard s0a_huts s0a_minutes s1f_facts s1a_heard s1a_huts s1a_minutes c0f_voices c0f_step c0a_parts c0a_heights c1f_voices c1f_step c1a_parts c1a_heights hm hx2 k_l0f_huts k_l0f_singers k_l0f_villages k_l0f_dams k_l0f_echoes k_l0f_deep k_l0f_slide k_l0a_heights k_l0a_ladders k_l0a_minutes k_l0a_echoFrom k_l0a_echoTo k_l0a_homes k_l0a_talls k_l0a_known k_l1f_huts k_l1f_singers k_l1f_villages k_l1f_dams k_l1f_echoes k_l1f_deep k_l1f_slide k_l1a_heights k_l1a_ladders k_l1a_minutes k_l1a_echoFrom k_l1a_echoTo k_l1a_homes k_l1a_talls k_l1a_known k_v0f_deeds k_v0a_kinds k_v0a_firsts k_v0a_seconds k_v1f_deeds k_v1a_kinds k_v1a_firsts k_v1a_seconds k_s0f_facts k_s0a_heard k_s0a_huts k_s0a_minutes k_s1f_facts k_s1a_heard k_s1a_huts k_s1a_minutes k_c0f_voices k_c0f_step k_c0a_parts k_c0a_heights k_c1f_voices k_c1f_step k_c1a_parts k_c1a_heights; exact (ms0_up hm hx2).elim
    | succ n ih =>
      intro x2 l0f_huts l0f_singers l0f_villages l0f_dams l0f_echoes l0f_deep l0f_slide l0a_heights l0a_ladders l0a_minutes l0a_echoFrom l0a_echoTo l0a_homes l0a_talls l0a_known l1f_huts l1f_singers l1f_villages l1f_dams l1f_echoes l1f_deep l1f_slide l1a_heights l1a_ladders l1a_minutes l1a_echoFrom l1a_echoTo l1a_homes l1a_talls l1a_known v0f_deeds v0a_kinds v0a_firsts v0a_seconds v1f_deeds v1a_kinds v1a_firsts v1a_seconds s0f_facts s0a_heard s0a_huts s0a_minutes s1f_facts s1a_heard s1a_huts s1a_minutes c0f_voices c0f_step c0a_parts c0a_heights c1f_voices c1f_step c1a_parts c1a_heights hm hx2 k_l0f_huts k_l0f_singers k_l0f_villages k_l0f_dams k_l0f_echoes k_l0f_deep k_l0f_slide k_l0a_heights k_l0a_ladders k_l0a_minutes k_l0a_echoFrom k_l0a_echoTo k_l0a_homes k_l0a_talls k_l0a_known k_l1f_huts k_l1f_singers k_l1f_villages k_l1f_dams k_l1f_echoes k_l1f_deep k_l1f_slide k_l1a_heights k_l1a_ladders k_l1a_minutes k_l1a_echoFrom k_l1a_echoTo k_l1a_homes k_l1a_talls k_l1a_known k_v0f_deeds k_v0a_kinds k_v0a_firsts k_v0a_seconds k_v1f_deeds k_v1a_kinds k_v1a_firsts k_v1a_seconds k_s0f_facts k_s0a_heard k_s0a_huts k_s0a_minutes k_s1f_facts k_s1a_heard k_s1a_huts k_s1a_minutes k_c0f_voices k_c0f_step k_c0a_parts k_c0a_heights k_c1f_voices k_c1f_step k_c1a_parts k_c1a_heights
      apply hP
      refine ⟨fun c1 => ?_, fun c1 => ?_⟩
      · skip
        exact hpost _ _ _ _ _ _ _ _ _ _ _ _ _ _ _ _ _ _ _ _ _ _ _ _ _ _ _ _ _ _ _ _ _ _ _ _ _ _ _ _ _ _ _ _ _ _ _ _ _ _ _ _ _ _ _ _ _ _ _ hlen k_a_tape k_f_length k_f_fault k_f_place k_a_counts k_l0f_huts k_l0f_singers k_l0f_villages k_l0f_dams k_l0f_echoes k_l0f_deep k_l0f_slide k_l0a_heights k_l0a_ladders k_l0a_minutes k_l0a_echoFrom k_l0a_echoTo k_l0a_homes k_l0a_talls k_l0a_known k_l1f_huts k_l1f_singers k_l1f_villages k_l1f_dams k_l1f_echoes k_l1f_deep k_l1f_slide k_l1a_heights k_l1a_ladders k_l1a_minutes k_l1a_echoFrom k_l1a_echoTo k_l1a_homes k_l1a_talls k_l1a_known k_v0f_deeds k_v0a_kinds k_v0a_firsts k_v0a_seconds k_v1f_deeds k_v1a_kinds k_v1a_firsts k_v1a_seconds k_s0f_facts k_s0a_heard k_s0a_huts k_s0a_minutes k_s1f_facts k_s1a_heard k_s1a_huts k_s1a_minutes k_c0f_voices k_c0f_step k_c0a_parts k_c0a_heights k_c1f_voices k_c1f_step k_c1a_parts k_c1a_heights
      · skip
        refine ⟨iv_in (iv_lta (l := 0) (h := 1) (r_nle c1) hx2 (iv_lit (l := 2) (h := 2) (by decide)) (by decide)) (by decide), fun hc => ?_, fun hc => ?_⟩
        · skip
          refine s_wll_X2_copyFrom_9_0 k_l0f_huts k_l0f_singers k_l0f_villages k_l0f_dams k_l0f_echoes k_l0f_deep k_l0f_slide k_l0a_heights k_l0a_ladders k_l0a_minutes k_l0a_echoFrom k_l0a_echoTo k_l0a_homes k_l0a_talls k_l0a_known k_ol0f_huts k_ol0f_singers k_ol0f_villages k_ol0f_dams k_ol0f_echoes k_ol0f_deep k_ol0f_slide k_ol0a_heights k_ol0a_ladders k_ol0a_minutes k_ol0a_echoFrom k_ol0a_echoTo k_ol0a_homes k_ol0a_talls k_ol0a_known (fun o2 o3 o4 o5 o6 o7 o8 o9 o10 o11 o12 o13 o14 o15 o16 k_o2 k_o3 k_o4 k_o5 k_o6 k_o7 k_o8 k_o9 k_o10 k_o11 k_o12 k_o13 k_o14 k_o15 k_o16 => ?_)
          refine s_wvv_X1_copyFrom_4_0 k_v0f_deeds k_v0a_kinds k_v0a_firsts k_v0a_seconds k_ov0f_deeds k_ov0a_kinds k_ov0a_firsts k_ov0a_seconds (fun o17 o18 o19 o20 k_o17 k_o18 k_o19 k_o20 => ?_)
          refine s_wss_X6_copyFrom_4_0 k_s0f_facts k_s0a_heard k_s0a_huts k_s0a_minutes k_os0f_facts k_os0a_heard k_os0a_huts k_os0a_minutes (fun o21 o22 o23 o24 k_o21 k_o22 k_o23 k_o24 => ?_)
          refine ⟨iv_nn k_oc0f_voices (by decide), ?_⟩
          refine ⟨iv_len (iv_lit (l := 0) (h := 0) (by decide)) k_oc0f_voices (by decide), ?_⟩
          refine ⟨iv_len (iv_lit (l := 0) (h := 0) (by decide)) k_oc0f_voices (by decide), ?_⟩
          intro a25 ea25
          have k_a25 := iv_cpy ea25 k_oc0a_parts k_c0a_parts
          refine ⟨iv_nn k_oc0f_voices (by decide), ?_⟩
          refine ⟨iv_len (iv_lit (l := 0) (h := 0) (by decide)) k_oc0f_voices (by decide), ?_⟩
          refine ⟨iv_len (iv_lit (l := 0) (h := 0) (by decide)) k_oc0f_voices (by decide), ?_⟩
          intro a26 ea26
          have k_a26 := iv_cpy ea26 k_oc0a_heights k_c0a_heights
          intro w27 ew27
          have hw27 := iv_eq ew27 (iv_add (l := 1) (h := 1) (iv_lit (l := 0) (h := 0) (by decide)) (iv_lit (l := 1) (h := 1) (by decide)) (by decide))
          exact ih _ _ _ _ _ _ _ _ _ _ _ _ _ _ _ _ _ _ _ _ _ _ _ _ _ _ _ _ _ _ _ _ _ _ _ _ _ _ _ _ _ _ _ _ _ _ _ _ _ _ _ _ _ _ _ (ms_up hm (inc_ltc hc ew27 (by decide))) (iv_w hw27 (by decide)) k_o2 k_o3 k_o4 k_o5 k_o6 k_o7 k_o8 k_o9 k_o10 k_o11 k_o12 k_o13 k_o14 k_o15 k_o16 k_l1f_huts k_l1f_singers k_l1f_villages k_l1f_dams k_l1f_echoes k_l1f_deep k_l1f_slide k_l1a_heights k_l1a_ladders k_l1a_minutes k_l1a_echoFrom k_l1a_echoTo k_l1a_homes k_l1a_talls k_l1a_known k_o17 k_o18 k_o19 k_o20 k_v1f_deeds k_v1a_kinds k_v1a_firsts k_v1a_seconds k_o21 k_o22 k_o23 k_o24 k_s1f_facts k_s1a_heard k_s1a_huts k_s1a_minutes k_oc0f_voices k_oc0f_step k_a25 k_a26 k_c1f_voices k_c1f_step k_c1a_parts k_c1a_heights
        · skip
          refine s_wll_X2_copyFrom_9_0 k_l1f_huts k_l1f_singers k_l1f_villages k_l1f_dams k_l1f_echoes k_l1f_deep k_l1f_slide k_l1a_heights k_l1a_ladders k_l1a_minutes k_l1a_echoFrom k_l1a_echoTo k_l1a_homes k_l1a_talls k_l1a_known k_ol1f_huts k_ol1f_singers k_ol1f_villages k_ol1f_dams k_ol1f_echoes k_ol1f_deep k_ol1f_slide k_ol1a_heights k_ol1a_ladders k_ol1a_minutes k_ol1a_echoFrom k_ol1a_echoTo k_ol1a_homes k_ol1a_talls k_ol1a_known (fun o28 o29 o30 o31 o32 o33 o34 o35 o36 o37 o38 o39 o40 o41 o42 k_o28 k_o29 k_o30 k_o31 k_o32 k_o33 k_o34 k_o35 k_o36 k_o37 k_o38 k_o39 k_o40 k_o41 k_o42 => ?_)
          refine s_wvv_X1_copyFrom_4_0 k_v1f_deeds k_v1a_kinds k_v1a_firsts k_v1a_seconds k_ov1f_deeds k_ov1a_kinds k_ov1a_firsts k_ov1a_seconds (fun o43 o44 o45 o46 k_o43 k_o44 k_o45 k_o46 => ?_)
          refine s_wss_X6_copyFrom_4_0 k_s1f_facts k_s1a_heard k_s1a_huts k_s1a_minutes k_os1f_facts k_os1a_heard k_os1a_huts k_os1a_minutes (fun o47 o48 o49 o50 k_o47 k_o48 k_o49 k_o50 => ?_)
          refine ⟨iv_nn k_oc1f_voices (by decide), ?_⟩
          refine ⟨iv_len (iv_lit (l := 0) (h := 0) (by decide)) k_oc1f_voices (by decide), ?_⟩
          refine ⟨iv_len (iv_lit (l := 0) (h := 0) (by decide)) k_oc1f_voices (by decide), ?_⟩
          intro a51 ea51
          have k_a51 := iv_cpy ea51 k_oc1a_parts k_c1a_parts
          refine ⟨iv_nn k_oc1f_voices (by decide), ?_⟩
          refine ⟨iv_len (iv_lit (l := 0) (h := 0) (by decide)) k_oc1f_voices (by decide), ?_⟩
          refine ⟨iv_len (iv_lit (l := 0) (h := 0) (by decide)) k_oc1f_voices (by decide), ?_⟩
          intro a52 ea52
          have k_a52 := iv_cpy ea52 k_oc1a_heights k_c1a_heights
          intro w53 ew53
          have hw53 := iv_eq ew53 (iv_add (l := 2) (h := 2) (iv_lit (l := 1) (h := 1) (by decide)) (iv_lit (l := 1) (h := 1) (by decide)) (by decide))
          exact ih _ _ _ _ _ _ _ _ _ _ _ _ _ _ _ _ _ _ _ _ _ _ _ _ _ _ _ _ _ _ _ _ _ _ _ _ _ _ _ _ _ _ _ _ _ _ _ _ _ _ _ _ _ _ _ (ms_up hm (inc_ltc (iv_is1 (iv_lta (l := 0) (h := 1) (r_nle c1) hx2 (iv_lit (l := 2) (h := 2) (by decide)) (by decide)) hc) ew53 (by decide))) (iv_w hw53 (by decide)) k_l0f_huts k_l0f_singers k_l0f_villages k_l0f_dams k_l0f_echoes k_l0f_deep k_l0f_slide k_l0a_heights k_l0a_ladders k_l0a_minutes k_l0a_echoFrom k_l0a_echoTo k_l0a_homes k_l0a_talls k_l0a_known k_o28 k_o29 k_o30 k_o31 k_o32 k_o33 k_o34 k_o35 k_o36 k_o37 k_o38 k_o39 k_o40 k_o41 k_o42 k_v0f_deeds k_v0a_kinds k_v0a_firsts k_v0a_seconds k_o43 k_o44 k_o45 k_o46 k_s0f_facts k_s0a_heard k_s0a_huts k_s0a_minutes k_o47 k_o48 k_o49 k_o50 k_c0f_voices k_c0f_step k_c0a_parts k_c0a_heights k_oc1f_voices k_oc1f_step k_a51 k_a52
  exact loop _ _ _ _ _ _ _ _ _ _ _ _ _ _ _ _ _ _ _ _ _ _ _ _ _ _ _ _ _ _ _ _ _ _ _ _ _ _ _ _ _ _ _ _ _ _ _ _ _ _ _ _ _ _ _ _ (ms_init_up _ _) hx2 k_l0f_huts k_l0f_singers k_l0f_villages k_l0f_dams k_l0f_echoes k_l0f_deep k_l0f_slide k_l0a_heights k_l0a_ladders k_l0a_minutes k_l0a_echoFrom k_l0a_echoTo k_l0a_homes k_l0a_talls k_l0a_known k_l1f_huts k_l1f_singers k_l1f_villages k_l1f_dams k_l1f_echoes k_l1f_deep k_l1f_slide k_l1a_heights k_l1a_ladders k_l1a_minutes k_l1a_echoFrom k_l1a_echoTo k_l1a_homes k_l1a_talls k_l1a_known k_v0f_deeds k_v0a_kinds k_v0a_firsts k_v0a_seconds k_v1f_deeds k_v1a_kinds k_v1a_firsts k_v1a_seconds k_s0f_facts k_s0a_heard k_s0a_huts k_s0a_minutes k_s1f_facts k_s1a_heard k_s1a_huts k_s1a_minutes k_c0f_voices k_c0f_step k_c0a_parts k_c0a_heights k_c1f_voices k_c1f_step k_c1a_parts k_c1a_heights

set_option maxRecDepth 20000 in
theorem e_copy_0 {a_tape : Nat → Int32} {f_length : Int32} {f_fault : Int32} {f_place : Int32} {a_counts : Nat → Int32} {l0f_huts : Int32} {l0f_singers : Int32} {l0f_villages : Int32} {l0f_dams : Int32} {l0f_echoes : Int32} {l0f_deep : Int32} {l0f_slide : Int32} {l0a_heights : Nat → Int32} {l0a_ladders : Nat → Int32} {l0a_minutes : Nat → Int32} {l0a_echoFrom : Nat → Int32} {l0a_echoTo : Nat → Int32} {l0a_homes : Nat → Int32} {l0a_talls : Nat → Int32} {l0a_known : Nat → Int32} {l1f_huts : Int32} {l1f_singers : Int32} {l1f_villages : Int32} {l1f_dams : Int32} {l1f_echoes : Int32} {l1f_deep : Int32} {l1f_slide : Int32} {l1a_heights : Nat → Int32} {l1a_ladders : Nat → Int32} {l1a_minutes : Nat → Int32} {l1a_echoFrom : Nat → Int32} {l1a_echoTo : Nat → Int32} {l1a_homes : Nat → Int32} {l1a_talls : Nat → Int32} {l1a_known : Nat → Int32} {v0f_deeds : Int32} {v0a_kinds : Nat → Int32} {v0a_firsts : Nat → Int32} {v0a_seconds : Nat → Int32} {v1f_deeds : Int32} {v1a_kinds : Nat → Int32} {v1a_firsts : Nat → Int32} {v1a_seconds : Nat → Int32} {s0f_facts : Int32} {s0a_heard : Nat → Int32} {s0a_huts : Nat → Int32} {s0a_minutes : Nat → Int32} {s1f_facts : Int32} {s1a_heard : Nat → Int32} {s1a_huts : Nat → Int32} {s1a_minutes : Nat → Int32} {c0f_voices : Int32} {c0f_step : Int32} {c0a_parts : Nat → Int32} {c0a_heights : Nat → Int32} {c1f_voices : Int32} {c1f_step : Int32} {c1a_parts : Nat → Int32} {c1a_heights : Nat → Int32} {oa_tape : Nat → Int32} {of_length : Int32} {of_fault : Int32} {of_place : Int32} {oa_counts : Nat → Int32} {ol0f_huts : Int32} {ol0f_singers : Int32} {ol0f_villages : Int32} {ol0f_dams : Int32} {ol0f_echoes : Int32} {ol0f_deep : Int32} {ol0f_slide : Int32} {ol0a_heights : Nat → Int32} {ol0a_ladders : Nat → Int32} {ol0a_minutes : Nat → Int32} {ol0a_echoFrom : Nat → Int32} {ol0a_echoTo : Nat → Int32} {ol0a_homes : Nat → Int32} {ol0a_talls : Nat → Int32} {ol0a_known : Nat → Int32} {ol1f_huts : Int32} {ol1f_singers : Int32} {ol1f_villages : Int32} {ol1f_dams : Int32} {ol1f_echoes : Int32} {ol1f_deep : Int32} {ol1f_slide : Int32} {ol1a_heights : Nat → Int32} {ol1a_ladders : Nat → Int32} {ol1a_minutes : Nat → Int32} {ol1a_echoFrom : Nat → Int32} {ol1a_echoTo : Nat → Int32} {ol1a_homes : Nat → Int32} {ol1a_talls : Nat → Int32} {ol1a_known : Nat → Int32} {ov0f_deeds : Int32} {ov0a_kinds : Nat → Int32} {ov0a_firsts : Nat → Int32} {ov0a_seconds : Nat → Int32} {ov1f_deeds : Int32} {ov1a_kinds : Nat → Int32} {ov1a_firsts : Nat → Int32} {ov1a_seconds : Nat → Int32} {os0f_facts : Int32} {os0a_heard : Nat → Int32} {os0a_huts : Nat → Int32} {os0a_minutes : Nat → Int32} {os1f_facts : Int32} {os1a_heard : Nat → Int32} {os1a_huts : Nat → Int32} {os1a_minutes : Nat → Int32} {oc0f_voices : Int32} {oc0f_step : Int32} {oc0a_parts : Nat → Int32} {oc0a_heights : Nat → Int32} {oc1f_voices : Int32} {oc1f_step : Int32} {oc1a_parts : Nat → Int32} {oc1a_heights : Nat → Int32} {post : (Nat → Int32) → (Int32) → (Int32) → (Int32) → (Nat → Int32) → (Int32) → (Int32) → (Int32) → (Int32) → (Int32) → (Int32) → (Int32) → (Nat → Int32) → (Nat → Int32) → (Nat → Int32) → (Nat → Int32) → (Nat → Int32) → (Nat → Int32) → (Nat → Int32) → (Nat → Int32) → (Int32) → (Int32) → (Int32) → (Int32) → (Int32) → (Int32) → (Int32) → (Nat → Int32) → (Nat → Int32) → (Nat → Int32) → (Nat → Int32) → (Nat → Int32) → (Nat → Int32) → (Nat → Int32) → (Nat → Int32) → (Int32) → (Nat → Int32) → (Nat → Int32) → (Nat → Int32) → (Int32) → (Nat → Int32) → (Nat → Int32) → (Nat → Int32) → (Int32) → (Nat → Int32) → (Nat → Int32) → (Nat → Int32) → (Int32) → (Nat → Int32) → (Nat → Int32) → (Nat → Int32) → (Int32) → (Int32) → (Nat → Int32) → (Nat → Int32) → (Int32) → (Int32) → (Nat → Int32) → (Nat → Int32) → Prop} (k_a_tape : ∀ j, iv (-128) 127 (a_tape j)) (k_f_length : iv 0 600 f_length) (k_f_fault : iv 0 4 f_fault) (k_f_place : iv (-1) 600 f_place) (k_a_counts : ∀ j, iv 0 2 (a_counts j)) (k_l0f_huts : iv 0 9 l0f_huts) (k_l0f_singers : iv 0 6 l0f_singers) (k_l0f_villages : iv 0 511 l0f_villages) (k_l0f_dams : iv 0 511 l0f_dams) (k_l0f_echoes : iv 0 4 l0f_echoes) (k_l0f_deep : iv 1 9 l0f_deep) (k_l0f_slide : iv 0 10 l0f_slide) (k_l0a_heights : ∀ j, iv 0 99 (l0a_heights j)) (k_l0a_ladders : ∀ j, iv 0 9 (l0a_ladders j)) (k_l0a_minutes : ∀ j, iv 0 9 (l0a_minutes j)) (k_l0a_echoFrom : ∀ j, iv 0 8 (l0a_echoFrom j)) (k_l0a_echoTo : ∀ j, iv 0 8 (l0a_echoTo j)) (k_l0a_homes : ∀ j, iv 0 8 (l0a_homes j)) (k_l0a_talls : ∀ j, iv 0 9 (l0a_talls j)) (k_l0a_known : ∀ j, iv 0 31 (l0a_known j)) (k_l1f_huts : iv 0 9 l1f_huts) (k_l1f_singers : iv 0 6 l1f_singers) (k_l1f_villages : iv 0 511 l1f_villages) (k_l1f_dams : iv 0 511 l1f_dams) (k_l1f_echoes : iv 0 4 l1f_echoes) (k_l1f_deep : iv 1 9 l1f_deep) (k_l1f_slide : iv 0 10 l1f_slide) (k_l1a_heights : ∀ j, iv 0 99 (l1a_heights j)) (k_l1a_ladders : ∀ j, iv 0 9 (l1a_ladders j)) (k_l1a_minutes : ∀ j, iv 0 9 (l1a_minutes j)) (k_l1a_echoFrom : ∀ j, iv 0 8 (l1a_echoFrom j)) (k_l1a_echoTo : ∀ j, iv 0 8 (l1a_echoTo j)) (k_l1a_homes : ∀ j, iv 0 8 (l1a_homes j)) (k_l1a_talls : ∀ j, iv 0 9 (l1a_talls j)) (k_l1a_known : ∀ j, iv 0 31 (l1a_known j)) (k_v0f_deeds : iv 0 40 v0f_deeds) (k_v0a_kinds : ∀ j, iv 0 5 (v0a_kinds j)) (k_v0a_firsts : ∀ j, iv 0 5 (v0a_firsts j)) (k_v0a_seconds : ∀ j, iv (-1) 8 (v0a_seconds j)) (k_v1f_deeds : iv 0 40 v1f_deeds) (k_v1a_kinds : ∀ j, iv 0 5 (v1a_kinds j)) (k_v1a_firsts : ∀ j, iv 0 5 (v1a_firsts j)) (k_v1a_seconds : ∀ j, iv (-1) 8 (v1a_seconds j)) (k_s0f_facts : iv 0 10 s0f_facts) (k_s0a_heard : ∀ j, iv 0 1 (s0a_heard j)) (k_s0a_huts : ∀ j, iv 0 8 (s0a_huts j)) (k_s0a_minutes : ∀ j, iv 0 60 (s0a_minutes j)) (k_s1f_facts : iv 0 10 s1f_facts) (k_s1a_heard : ∀ j, iv 0 1 (s1a_heard j)) (k_s1a_huts : ∀ j, iv 0 8 (s1a_huts j)) (k_s1a_minutes : ∀ j, iv 0 60 (s1a_minutes j)) (k_c0f_voices : iv 0 9 c0f_voices) (k_c0f_step : iv 0 9 c0f_step) (k_c0a_parts : ∀ j, iv 0 3 (c0a_parts j)) (k_c0a_heights : ∀ j, iv 0 9 (c0a_heights j)) (k_c1f_voices : iv 0 9 c1f_voices) (k_c1f_step : iv 0 9 c1f_step) (k_c1a_parts : ∀ j, iv 0 3 (c1a_parts j)) (k_c1a_heights : ∀ j, iv 0 9 (c1a_heights j)) (k_oa_tape : ∀ j, iv (-128) 127 (oa_tape j)) (k_of_length : iv 0 600 of_length) (k_of_fault : iv 0 4 of_fault) (k_of_place : iv (-1) 600 of_place) (k_oa_counts : ∀ j, iv 0 2 (oa_counts j)) (k_ol0f_huts : iv 0 9 ol0f_huts) (k_ol0f_singers : iv 0 6 ol0f_singers) (k_ol0f_villages : iv 0 511 ol0f_villages) (k_ol0f_dams : iv 0 511 ol0f_dams) (k_ol0f_echoes : iv 0 4 ol0f_echoes) (k_ol0f_deep : iv 1 9 ol0f_deep) (k_ol0f_slide : iv 0 10 ol0f_slide) (k_ol0a_heights : ∀ j, iv 0 99 (ol0a_heights j)) (k_ol0a_ladders : ∀ j, iv 0 9 (ol0a_ladders j)) (k_ol0a_minutes : ∀ j, iv 0 9 (ol0a_minutes j)) (k_ol0a_echoFrom : ∀ j, iv 0 8 (ol0a_echoFrom j)) (k_ol0a_echoTo : ∀ j, iv 0 8 (ol0a_echoTo j)) (k_ol0a_homes : ∀ j, iv 0 8 (ol0a_homes j)) (k_ol0a_talls : ∀ j, iv 0 9 (ol0a_talls j)) (k_ol0a_known : ∀ j, iv 0 31 (ol0a_known j)) (k_ol1f_huts : iv 0 9 ol1f_huts) (k_ol1f_singers : iv 0 6 ol1f_singers) (k_ol1f_villages : iv 0 511 ol1f_villages) (k_ol1f_dams : iv 0 511 ol1f_dams) (k_ol1f_echoes : iv 0 4 ol1f_echoes) (k_ol1f_deep : iv 1 9 ol1f_deep) (k_ol1f_slide : iv 0 10 ol1f_slide) (k_ol1a_heights : ∀ j, iv 0 99 (ol1a_heights j)) (k_ol1a_ladders : ∀ j, iv 0 9 (ol1a_ladders j)) (k_ol1a_minutes : ∀ j, iv 0 9 (ol1a_minutes j)) (k_ol1a_echoFrom : ∀ j, iv 0 8 (ol1a_echoFrom j)) (k_ol1a_echoTo : ∀ j, iv 0 8 (ol1a_echoTo j)) (k_ol1a_homes : ∀ j, iv 0 8 (ol1a_homes j)) (k_ol1a_talls : ∀ j, iv 0 9 (ol1a_talls j)) (k_ol1a_known : ∀ j, iv 0 31 (ol1a_known j)) (k_ov0f_deeds : iv 0 40 ov0f_deeds) (k_ov0a_kinds : ∀ j, iv 0 5 (ov0a_kinds j)) (k_ov0a_firsts : ∀ j, iv 0 5 (ov0a_firsts j)) (k_ov0a_seconds : ∀ j, iv (-1) 8 (ov0a_seconds j)) (k_ov1f_deeds : iv 0 40 ov1f_deeds) (k_ov1a_kinds : ∀ j, iv 0 5 (ov1a_kinds j)) (k_ov1a_firsts : ∀ j, iv 0 5 (ov1a_firsts j)) (k_ov1a_seconds : ∀ j, iv (-1) 8 (ov1a_seconds j)) (k_os0f_facts : iv 0 10 os0f_facts) (k_os0a_heard : ∀ j, iv 0 1 (os0a_heard j)) (k_os0a_huts : ∀ j, iv 0 8 (os0a_huts j)) (k_os0a_minutes : ∀ j, iv 0 60 (os0a_minutes j)) (k_os1f_facts : iv 0 10 os1f_facts) (k_os1a_heard : ∀ j, iv 0 1 (os1a_heard j)) (k_os1a_huts : ∀ j, iv 0 8 (os1a_huts j)) (k_os1a_minutes : ∀ j, iv 0 60 (os1a_minutes j)) (k_oc0f_voices : iv 0 9 oc0f_voices) (k_oc0f_step : iv 0 9 oc0f_step) (k_oc0a_parts : ∀ j, iv 0 3 (oc0a_parts j)) (k_oc0a_heights : ∀ j, iv 0 9 (oc0a_heights j)) (k_oc1f_voices : iv 0 9 oc1f_voices) (k_oc1f_step : iv 0 9 oc1f_step) (k_oc1a_parts : ∀ j, iv 0 3 (oc1a_parts j)) (k_oc1a_heights : ∀ j, iv 0 9 (oc1a_heights j)) (hpost : ∀ (a_tape : Nat → Int32) (f_length : Int32) (f_fault : Int32) (f_place : Int32) (a_counts : Nat → Int32) (l0f_huts : Int32) (l0f_singers : Int32) (l0f_villages : Int32) (l0f_dams : Int32) (l0f_echoes : Int32) (l0f_deep : Int32) (l0f_slide : Int32) (l0a_heights : Nat → Int32) (l0a_ladders : Nat → Int32) (l0a_minutes : Nat → Int32) (l0a_echoFrom : Nat → Int32) (l0a_echoTo : Nat → Int32) (l0a_homes : Nat → Int32) (l0a_talls : Nat → Int32) (l0a_known : Nat → Int32) (l1f_huts : Int32) (l1f_singers : Int32) (l1f_villages : Int32) (l1f_dams : Int32) (l1f_echoes : Int32) (l1f_deep : Int32) (l1f_slide : Int32) (l1a_heights : Nat → Int32) (l1a_ladders : Nat → Int32) (l1a_minutes : Nat → Int32) (l1a_echoFrom : Nat → Int32) (l1a_echoTo : Nat → Int32) (l1a_homes : Nat → Int32) (l1a_talls : Nat → Int32) (l1a_known : Nat → Int32) (v0f_deeds : Int32) (v0a_kinds : Nat → Int32) (v0a_firsts : Nat → Int32) (v0a_seconds : Nat → Int32) (v1f_deeds : Int32) (v1a_kinds : Nat → Int32) (v1a_firsts : Nat → Int32) (v1a_seconds : Nat → Int32) (s0f_facts : Int32) (s0a_heard : Nat → Int32) (s0a_huts : Nat → Int32) (s0a_minutes : Nat → Int32) (s1f_facts : Int32) (s1a_heard : Nat → Int32) (s1a_huts : Nat → Int32) (s1a_minutes : Nat → Int32) (c0f_voices : Int32) (c0f_step : Int32) (c0a_parts : Nat → Int32) (c0a_heights : Nat → Int32) (c1f_voices : Int32) (c1f_step : Int32) (c1a_parts : Nat → Int32) (c1a_heights : Nat → Int32), f_length = of_length → (∀ j, iv (-128) 127 (a_tape j)) → (iv 0 600 f_length) → (iv 0 4 f_fault) → (iv (-1) 600 f_place) → (∀ j, iv 0 2 (a_counts j)) → (iv 0 9 l0f_huts) → (iv 0 6 l0f_singers) → (iv 0 511 l0f_villages) → (iv 0 511 l0f_dams) → (iv 0 4 l0f_echoes) → (iv 1 9 l0f_deep) → (iv 0 10 l0f_slide) → (∀ j, iv 0 99 (l0a_heights j)) → (∀ j, iv 0 9 (l0a_ladders j)) → (∀ j, iv 0 9 (l0a_minutes j)) → (∀ j, iv 0 8 (l0a_echoFrom j)) → (∀ j, iv 0 8 (l0a_echoTo j)) → (∀ j, iv 0 8 (l0a_homes j)) → (∀ j, iv 0 9 (l0a_talls j)) → (∀ j, iv 0 31 (l0a_known j)) → (iv 0 9 l1f_huts) → (iv 0 6 l1f_singers) → (iv 0 511 l1f_villages) → (iv 0 511 l1f_dams) → (iv 0 4 l1f_echoes) → (iv 1 9 l1f_deep) → (iv 0 10 l1f_slide) → (∀ j, iv 0 99 (l1a_heights j)) → (∀ j, iv 0 9 (l1a_ladders j)) → (∀ j, iv 0 9 (l1a_minutes j)) → (∀ j, iv 0 8 (l1a_echoFrom j)) → (∀ j, iv 0 8 (l1a_echoTo j)) → (∀ j, iv 0 8 (l1a_homes j)) → (∀ j, iv 0 9 (l1a_talls j)) → (∀ j, iv 0 31 (l1a_known j)) → (iv 0 40 v0f_deeds) → (∀ j, iv 0 5 (v0a_kinds j)) → (∀ j, iv 0 5 (v0a_firsts j)) → (∀ j, iv (-1) 8 (v0a_seconds j)) → (iv 0 40 v1f_deeds) → (∀ j, iv 0 5 (v1a_kinds j)) → (∀ j, iv 0 5 (v1a_firsts j)) → (∀ j, iv (-1) 8 (v1a_seconds j)) → (iv 0 10 s0f_facts) → (∀ j, iv 0 1 (s0a_heard j)) → (∀ j, iv 0 8 (s0a_huts j)) → (∀ j, iv 0 60 (s0a_minutes j)) → (iv 0 10 s1f_facts) → (∀ j, iv 0 1 (s1a_heard j)) → (∀ j, iv 0 8 (s1a_huts j)) → (∀ j, iv 0 60 (s1a_minutes j)) → (iv 0 9 c0f_voices) → (iv 0 9 c0f_step) → (∀ j, iv 0 3 (c0a_parts j)) → (∀ j, iv 0 9 (c0a_heights j)) → (iv 0 9 c1f_voices) → (iv 0 9 c1f_step) → (∀ j, iv 0 3 (c1a_parts j)) → (∀ j, iv 0 9 (c1a_heights j)) → post a_tape f_length f_fault f_place a_counts l0f_huts l0f_singers l0f_villages l0f_dams l0f_echoes l0f_deep l0f_slide l0a_heights l0a_ladders l0a_minutes l0a_echoFrom l0a_echoTo l0a_homes l0a_talls l0a_known l1f_huts l1f_singers l1f_villages l1f_dams l1f_echoes l1f_deep l1f_slide l1a_heights l1a_ladders l1a_minutes l1a_echoFrom l1a_echoTo l1a_homes l1a_talls l1a_known v0f_deeds v0a_kinds v0a_firsts v0a_seconds v1f_deeds v1a_kinds v1a_firsts v1a_seconds s0f_facts s0a_heard s0a_huts s0a_minutes s1f_facts s1a_heard s1a_huts s1a_minutes c0f_voices c0f_step c0a_parts c0a_heights c1f_voices c1f_step c1a_parts c1a_heights) : q_wtt_X9_copyFrom_47_0 a_tape f_length f_fault f_place a_counts l0f_huts l0f_singers l0f_villages l0f_dams l0f_echoes l0f_deep l0f_slide l0a_heights l0a_ladders l0a_minutes l0a_echoFrom l0a_echoTo l0a_homes l0a_talls l0a_known l1f_huts l1f_singers l1f_villages l1f_dams l1f_echoes l1f_deep l1f_slide l1a_heights l1a_ladders l1a_minutes l1a_echoFrom l1a_echoTo l1a_homes l1a_talls l1a_known v0f_deeds v0a_kinds v0a_firsts v0a_seconds v1f_deeds v1a_kinds v1a_firsts v1a_seconds s0f_facts s0a_heard s0a_huts s0a_minutes s1f_facts s1a_heard s1a_huts s1a_minutes c0f_voices c0f_step c0a_parts c0a_heights c1f_voices c1f_step c1a_parts c1a_heights oa_tape of_length of_fault of_place oa_counts ol0f_huts ol0f_singers ol0f_villages ol0f_dams ol0f_echoes ol0f_deep ol0f_slide ol0a_heights ol0a_ladders ol0a_minutes ol0a_echoFrom ol0a_echoTo ol0a_homes ol0a_talls ol0a_known ol1f_huts ol1f_singers ol1f_villages ol1f_dams ol1f_echoes ol1f_deep ol1f_slide ol1a_heights ol1a_ladders ol1a_minutes ol1a_echoFrom ol1a_echoTo ol1a_homes ol1a_talls ol1a_known ov0f_deeds ov0a_kinds ov0a_firsts ov0a_seconds ov1f_deeds ov1a_kinds ov1a_firsts ov1a_seconds os0f_facts os0a_heard os0a_huts os0a_minutes os1f_facts os1a_heard os1a_huts os1a_minutes oc0f_voices oc0f_step oc0a_parts oc0a_heights oc1f_voices oc1f_step oc1a_parts oc1a_heights post := by
  refine ⟨iv_nn k_of_length (by decide), ?_⟩
  refine ⟨iv_len (iv_lit (l := 0) (h := 0) (by decide)) k_of_length (by decide), ?_⟩
  refine ⟨iv_len (iv_lit (l := 0) (h := 0) (by decide)) k_of_length (by decide), ?_⟩
  refine ⟨fun i _ => iv_fitB (k_oa_tape _), ?_⟩
  intro a1 ea1
  have k_a1 := iv_cpy ea1 k_oa_tape k_a_tape
  intro a2 ea2
  have k_a2 := iv_cpy ea2 k_oa_counts k_a_counts
  exact e_copy_57 rfl k_a1 k_of_length k_of_fault k_of_place k_a2 k_l0f_huts k_l0f_singers k_l0f_villages k_l0f_dams k_l0f_echoes k_l0f_deep k_l0f_slide k_l0a_heights k_l0a_ladders k_l0a_minutes k_l0a_echoFrom k_l0a_echoTo k_l0a_homes k_l0a_talls k_l0a_known k_l1f_huts k_l1f_singers k_l1f_villages k_l1f_dams k_l1f_echoes k_l1f_deep k_l1f_slide k_l1a_heights k_l1a_ladders k_l1a_minutes k_l1a_echoFrom k_l1a_echoTo k_l1a_homes k_l1a_talls k_l1a_known k_v0f_deeds k_v0a_kinds k_v0a_firsts k_v0a_seconds k_v1f_deeds k_v1a_kinds k_v1a_firsts k_v1a_seconds k_s0f_facts k_s0a_heard k_s0a_huts k_s0a_minutes k_s1f_facts k_s1a_heard k_s1a_huts k_s1a_minutes k_c0f_voices k_c0f_step k_c0a_parts k_c0a_heights k_c1f_voices k_c1f_step k_c1a_parts k_c1a_heights k_oa_tape k_of_length k_of_fault k_of_place k_oa_counts k_ol0f_huts k_ol0f_singers k_ol0f_villages k_ol0f_dams k_ol0f_echoes k_ol0f_deep k_ol0f_slide k_ol0a_heights k_ol0a_ladders k_ol0a_minutes k_ol0a_echoFrom k_ol0a_echoTo k_ol0a_homes k_ol0a_talls k_ol0a_known k_ol1f_huts k_ol1f_singers k_ol1f_villages k_ol1f_dams k_ol1f_echoes k_ol1f_deep k_ol1f_slide k_ol1a_heights k_ol1a_ladders k_ol1a_minutes k_ol1a_echoFrom k_ol1a_echoTo k_ol1a_homes k_ol1a_talls k_ol1a_known k_ov0f_deeds k_ov0a_kinds k_ov0a_firsts k_ov0a_seconds k_ov1f_deeds k_ov1a_kinds k_ov1a_firsts k_ov1a_seconds k_os0f_facts k_os0a_heard k_os0a_huts k_os0a_minutes k_os1f_facts k_os1a_heard k_os1a_huts k_os1a_minutes k_oc0f_voices k_oc0f_step k_oc0a_parts k_oc0a_heights k_oc1f_voices k_oc1f_step k_oc1a_parts k_oc1a_heights (iv_w (iv_lit (l := 0) (h := 0) (by decide)) (by decide)) hpost
end
section
def tsl : Nat → Int := fun k => match k with | 0 => 0 | 1 => 0 | 2 => (-1) | 3 => 0 | 4 => 0 | 5 => 0 | 6 => 0 | 7 => 0 | 8 => 1 | 9 => 0 | 10 => 0 | 11 => 0 | 12 => 0 | 13 => 0 | 14 => 0 | 15 => 1 | 16 => 0 | 17 => 0 | 18 => 0 | 19 => 0 | 20 => 0 | 21 => 0 | 22 => 0 | 23 => 0 | 24 => 0 | _ => (-2147483648)
def tsh : Nat → Int := fun k => match k with | 0 => 600 | 1 => 4 | 2 => 600 | 3 => 9 | 4 => 6 | 5 => 511 | 6 => 511 | 7 => 4 | 8 => 9 | 9 => 10 | 10 => 9 | 11 => 6 | 12 => 511 | 13 => 511 | 14 => 4 | 15 => 9 | 16 => 10 | 17 => 40 | 18 => 40 | 19 => 10 | 20 => 10 | 21 => 9 | 22 => 9 | 23 => 9 | 24 => 9 | _ => 2147483647
def tal : Nat → Int := fun k => match k with | 0 => (-128) | 1 => 0 | 2 => 0 | 3 => 0 | 4 => 0 | 5 => 0 | 6 => 0 | 7 => 0 | 8 => 0 | 9 => 0 | 10 => 0 | 11 => 0 | 12 => 0 | 13 => 0 | 14 => 0 | 15 => 0 | 16 => 0 | 17 => 0 | 18 => 0 | 19 => 0 | 20 => (-1) | 21 => 0 | 22 => 0 | 23 => (-1) | 24 => 0 | 25 => 0 | 26 => 0 | 27 => 0 | 28 => 0 | 29 => 0 | 30 => 0 | 31 => 0 | 32 => 0 | 33 => 0 | _ => (-2147483648)
def tah : Nat → Int := fun k => match k with | 0 => 127 | 1 => 2 | 2 => 99 | 3 => 9 | 4 => 9 | 5 => 8 | 6 => 8 | 7 => 8 | 8 => 9 | 9 => 31 | 10 => 99 | 11 => 9 | 12 => 9 | 13 => 8 | 14 => 8 | 15 => 8 | 16 => 9 | 17 => 31 | 18 => 5 | 19 => 5 | 20 => 8 | 21 => 5 | 22 => 5 | 23 => 8 | 24 => 1 | 25 => 8 | 26 => 60 | 27 => 1 | 28 => 8 | 29 => 60 | 30 => 3 | 31 => 9 | 32 => 3 | 33 => 9 | _ => 2147483647
def tI (S : Nat → Int32) (V : Nat → Nat → Int32) : Prop := (∀ k, iv (tsl k) (tsh k) (S k)) ∧ (∀ k j, iv (tal k) (tah k) (V k j))
abbrev TT : Type := (Nat → Int32) × (Nat → Nat → Int32)
def tJ (T : TT) : Prop := tI T.1 T.2
def tmk (a_tape : Nat → Int32) (f_length : Int32) (f_fault : Int32) (f_place : Int32) (a_counts : Nat → Int32) (l0f_huts : Int32) (l0f_singers : Int32) (l0f_villages : Int32) (l0f_dams : Int32) (l0f_echoes : Int32) (l0f_deep : Int32) (l0f_slide : Int32) (l0a_heights : Nat → Int32) (l0a_ladders : Nat → Int32) (l0a_minutes : Nat → Int32) (l0a_echoFrom : Nat → Int32) (l0a_echoTo : Nat → Int32) (l0a_homes : Nat → Int32) (l0a_talls : Nat → Int32) (l0a_known : Nat → Int32) (l1f_huts : Int32) (l1f_singers : Int32) (l1f_villages : Int32) (l1f_dams : Int32) (l1f_echoes : Int32) (l1f_deep : Int32) (l1f_slide : Int32) (l1a_heights : Nat → Int32) (l1a_ladders : Nat → Int32) (l1a_minutes : Nat → Int32) (l1a_echoFrom : Nat → Int32) (l1a_echoTo : Nat → Int32) (l1a_homes : Nat → Int32) (l1a_talls : Nat → Int32) (l1a_known : Nat → Int32) (v0f_deeds : Int32) (v0a_kinds : Nat → Int32) (v0a_firsts : Nat → Int32) (v0a_seconds : Nat → Int32) (v1f_deeds : Int32) (v1a_kinds : Nat → Int32) (v1a_firsts : Nat → Int32) (v1a_seconds : Nat → Int32) (s0f_facts : Int32) (s0a_heard : Nat → Int32) (s0a_huts : Nat → Int32) (s0a_minutes : Nat → Int32) (s1f_facts : Int32) (s1a_heard : Nat → Int32) (s1a_huts : Nat → Int32) (s1a_minutes : Nat → Int32) (c0f_voices : Int32) (c0f_step : Int32) (c0a_parts : Nat → Int32) (c0a_heights : Nat → Int32) (c1f_voices : Int32) (c1f_step : Int32) (c1a_parts : Nat → Int32) (c1a_heights : Nat → Int32) : TT := (fun k => match k with | 0 => f_length | 1 => f_fault | 2 => f_place | 3 => l0f_huts | 4 => l0f_singers | 5 => l0f_villages | 6 => l0f_dams | 7 => l0f_echoes | 8 => l0f_deep | 9 => l0f_slide | 10 => l1f_huts | 11 => l1f_singers | 12 => l1f_villages | 13 => l1f_dams | 14 => l1f_echoes | 15 => l1f_deep | 16 => l1f_slide | 17 => v0f_deeds | 18 => v1f_deeds | 19 => s0f_facts | 20 => s1f_facts | 21 => c0f_voices | 22 => c0f_step | 23 => c1f_voices | 24 => c1f_step | _ => 0, fun k => match k with | 0 => a_tape | 1 => a_counts | 2 => l0a_heights | 3 => l0a_ladders | 4 => l0a_minutes | 5 => l0a_echoFrom | 6 => l0a_echoTo | 7 => l0a_homes | 8 => l0a_talls | 9 => l0a_known | 10 => l1a_heights | 11 => l1a_ladders | 12 => l1a_minutes | 13 => l1a_echoFrom | 14 => l1a_echoTo | 15 => l1a_homes | 16 => l1a_talls | 17 => l1a_known | 18 => v0a_kinds | 19 => v0a_firsts | 20 => v0a_seconds | 21 => v1a_kinds | 22 => v1a_firsts | 23 => v1a_seconds | 24 => s0a_heard | 25 => s0a_huts | 26 => s0a_minutes | 27 => s1a_heard | 28 => s1a_huts | 29 => s1a_minutes | 30 => c0a_parts | 31 => c0a_heights | 32 => c1a_parts | 33 => c1a_heights | _ => fun _ => 0)
def mmk (a_tape : Nat → Int32) (a_size : Nat → Int32) (a_fault : Nat → Int32) (a_faultPlace : Nat → Int32) (a_many : Nat → Int32) (a_lands : Nat → Int32) (a_evenings : Nat → Int32) (a_sights : Nat → Int32) (a_choirs : Nat → Int32) (a_kept : Nat → Int32) : Nat → Nat → Int32 := fun k => match k with | 0 => a_tape | 1 => a_size | 2 => a_fault | 3 => a_faultPlace | 4 => a_many | 5 => a_lands | 6 => a_evenings | 7 => a_sights | 8 => a_choirs | 9 => a_kept | _ => fun _ => 0
theorem imJ_nI {a : Int32} : imJ a ↔ ∃ k, k < 3 ∧ a = nI k := by
  constructor
  · intro h
    obtain ⟨j, hj, e⟩ := nI_of2 (M := 2) (n := 2) (by decide) (Int32.not_lt.mpr h.1) h.2
    exact ⟨j, by omega, e⟩
  · rintro ⟨k, hk, rfl⟩
    exact ⟨nI_pos' (by omega), nI_le (b := 2) (by omega) (by omega)⟩
end
section
/-- a row of bytes that go on -/
def scn (p : Nat → Bool) : Nat → Nat → Nat
  | 0, r => r
  | m + 1, r => if p r = true then scn p m (r + 1) else r
theorem scn_le (p : Nat → Bool) : ∀ (m r : Nat), r ≤ scn p m r ∧ scn p m r ≤ r + m
  | 0, r => ⟨Nat.le_refl _, Nat.le_refl _⟩
  | m + 1, r => by
    unfold scn
    have := scn_le p m (r + 1)
    by_cases h : p r = true
    · rw [if_pos h]; omega
    · rw [if_neg h]; omega
theorem scn_t {p : Nat → Bool} {m r : Nat} (h : p r = true) : scn p (m + 1) r = scn p m (r + 1) := by
  rw [scn, if_pos h]
theorem scn_f {p : Nat → Bool} {m r : Nat} (h : ¬ p r = true) : scn p m r = r := by
  cases m with
  | zero => rfl
  | succ m => rw [scn, if_neg h]
theorem scn_all (p : Nat → Bool) : ∀ (m r j : Nat), r ≤ j → j < scn p m r → p j = true
  | 0, r, j => fun h1 h2 => absurd h2 (by unfold scn; omega)
  | m + 1, r, j => fun h1 h2 => by
    unfold scn at h2
    by_cases h : p r = true
    · rw [if_pos h] at h2
      by_cases hj : j = r
      · rw [hj]; exact h
      · exact scn_all p m (r + 1) j (by omega) h2
    · rw [if_neg h] at h2; omega
def isB (B : Nat → Int32) (j : Nat) : Bool := decide (B j = 10 ∨ B j = 32)
def isL (B : Nat → Int32) (j : Nat) : Bool := decide (97 ≤ B j ∧ B j ≤ 122)
def isD (B : Nat → Int32) (j : Nat) : Bool := decide (48 ≤ B j ∧ B j ≤ 57)
/-- a token from r on: its first byte, what is behind it, its kind (0 end, 1 word, 2 number, 3 stroke, 4 none), its value -/
def tF (B : Nat → Int32) (n r : Nat) : Nat := scn (isB B) (n - r) r
def tN (B : Nat → Int32) (n r : Nat) : Nat := if tF B n r < n then (if isL B (tF B n r) = true then scn (isL B) (n - tF B n r) (tF B n r) else if isD B (tF B n r) = true then scn (isD B) (n - tF B n r) (tF B n r) else tF B n r + 1) else tF B n r
def tK (B : Nat → Int32) (n r : Nat) : Nat := if tF B n r < n then (if isL B (tF B n r) = true then 1 else if isD B (tF B n r) = true then (if tN B n r - tF B n r ≤ 2 then 2 else 4) else if B (tF B n r) = 59 then 3 else 4) else 0
def vD (B : Nat → Int32) (f : Nat) : Nat → Int32
  | 0 => 0
  | m + 1 => if m < 2 then vD B f m * 10 + B (f + m) - 48 else vD B f m
def tV (B : Nat → Int32) (n r : Nat) : Int32 := vD B (tF B n r) (tN B n r - tF B n r)
def pw (B : Nat → Int32) (f : Nat) : Nat → Int64
  | 0 => 0
  | m + 1 => (pw B f m <<< (Int32.toInt64 8 &&& 63)) ||| Int32.toInt64 (B (f + m) &&& 255)
def tW (B : Nat → Int32) (n r : Nat) : Int64 := if tN B n r - tF B n r ≤ 8 then pw B (tF B n r) (tN B n r - tF B n r) else 0
def sI (k : Nat) : Int32 := if k = 0 then 0 else if k = 1 then 2 else if k = 2 then 3 else if k = 3 then 4 else 1
theorem tF_le {B : Nat → Int32} {n r : Nat} (hr : r ≤ n) : r ≤ tF B n r ∧ tF B n r ≤ n := by
  have := scn_le (isB B) (n - r) r
  unfold tF
  omega
theorem tk_end {B : Nat → Int32} {n r : Nat} (h : ¬ tF B n r < n) : tK B n r = 0 ∧ tN B n r = tF B n r := ⟨if_neg h, if_neg h⟩
theorem tk_let {B : Nat → Int32} {n r f : Nat} (hf : tF B n r = f) (h : f < n) (hL : isL B f = true) : tK B n r = 1 ∧ tN B n r = scn (isL B) (n - f) f := by
  unfold tK tN
  rw [hf, if_pos h, if_pos hL, if_pos h, if_pos hL]
  exact ⟨rfl, rfl⟩
theorem tk_dig {B : Nat → Int32} {n r f : Nat} (hf : tF B n r = f) (h : f < n) (hL : ¬ isL B f = true) (hD : isD B f = true) : tN B n r = scn (isD B) (n - f) f ∧ tK B n r = if scn (isD B) (n - f) f - f ≤ 2 then 2 else 4 := by
  have e : tN B n r = scn (isD B) (n - f) f := by
    unfold tN
    rw [hf, if_pos h, if_neg hL, if_pos hD]
  refine ⟨e, ?_⟩
  unfold tK
  rw [e, hf, if_pos h, if_neg hL, if_pos hD]
theorem tk_sgn {B : Nat → Int32} {n r f : Nat} (hf : tF B n r = f) (h : f < n) (hL : ¬ isL B f = true) (hD : ¬ isD B f = true) : tN B n r = f + 1 ∧ tK B n r = if B f = 59 then 3 else 4 := by
  unfold tK tN
  rw [hf, if_pos h, if_neg hL, if_neg hD, if_pos h, if_neg hL, if_neg hD]
  exact ⟨rfl, rfl⟩
theorem tk_le {B : Nat → Int32} {n r : Nat} (hr : r ≤ n) : tF B n r ≤ tN B n r ∧ tN B n r ≤ n ∧ (¬ tK B n r = 0 → tF B n r < tN B n r) ∧ (tK B n r = 0 → tF B n r = n) ∧ tK B n r ≤ 4 := by
  have h1 := tF_le (B := B) hr
  by_cases h : tF B n r < n
  · by_cases hL : isL B (tF B n r) = true
    · obtain ⟨a, b⟩ := tk_let rfl h hL
      have c := scn_le (isL B) (n - tF B n r) (tF B n r)
      have d : scn (isL B) (n - tF B n r) (tF B n r) = scn (isL B) (n - tF B n r - 1) (tF B n r + 1) := by
        conv => lhs; rw [show n - tF B n r = (n - tF B n r - 1) + 1 by omega]
        exact scn_t hL
      have e := scn_le (isL B) (n - tF B n r - 1) (tF B n r + 1)
      rw [b, a]
      exact ⟨by omega, by omega, fun _ => by omega, fun h => by omega, by omega⟩
    · by_cases hD : isD B (tF B n r) = true
      · obtain ⟨b, a⟩ := tk_dig rfl h hL hD
        have c := scn_le (isD B) (n - tF B n r) (tF B n r)
        have d : scn (isD B) (n - tF B n r) (tF B n r) = scn (isD B) (n - tF B n r - 1) (tF B n r + 1) := by
          conv => lhs; rw [show n - tF B n r = (n - tF B n r - 1) + 1 by omega]
          exact scn_t hD
        have e := scn_le (isD B) (n - tF B n r - 1) (tF B n r + 1)
        have k : tK B n r = 2 ∨ tK B n r = 4 := by
          rw [a]
          by_cases hh : scn (isD B) (n - tF B n r) (tF B n r) - tF B n r ≤ 2
          · rw [if_pos hh]; exact Or.inl rfl
          · rw [if_neg hh]; exact Or.inr rfl
        rw [b]
        exact ⟨by omega, by omega, fun _ => by omega, fun h => by omega, by omega⟩
      · obtain ⟨b, a⟩ := tk_sgn rfl h hL hD
        have k : tK B n r = 3 ∨ tK B n r = 4 := by
          rw [a]
          by_cases hh : B (tF B n r) = 59
          · rw [if_pos hh]; exact Or.inl rfl
          · rw [if_neg hh]; exact Or.inr rfl
        rw [b]
        exact ⟨by omega, by omega, fun _ => by omega, fun h => by omega, by omega⟩
  · obtain ⟨a, b⟩ := tk_end h
    rw [a, b]
    exact ⟨by omega, by omega, fun h => absurd rfl h, fun _ => by omega, by omega⟩
theorem sp_isLet {x : Int32} {post : Int32 → Prop} (h1 : 97 ≤ x ∧ x ≤ 122 → post 1) (h0 : ¬ (97 ≤ x ∧ x ≤ 122) → post 0) : q_z_X4_isLetter_0 x post :=
  ⟨fun h => h0 (fun h2 => absurd h (Int32.not_lt.mpr h2.1)), fun h => ⟨fun g => h0 (fun h2 => absurd g (Int32.not_lt.mpr h2.2)), fun g => h1 ⟨Int32.not_lt.mp h, Int32.not_lt.mp g⟩⟩⟩
theorem sp_isDig {x : Int32} {post : Int32 → Prop} (h1 : 48 ≤ x ∧ x ≤ 57 → post 1) (h0 : ¬ (48 ≤ x ∧ x ≤ 57) → post 0) : q_z_X4_isDigit_0 x post :=
  ⟨fun h => h0 (fun h2 => absurd h (Int32.not_lt.mpr h2.1)), fun h => ⟨fun g => h0 (fun h2 => absurd g (Int32.not_lt.mpr h2.2)), fun g => h1 ⟨Int32.not_lt.mp h, Int32.not_lt.mp g⟩⟩⟩
/-- the class's next token -/
theorem e_adv {tp B : Nat → Int32} {n r : Nat} {ki fi va : Int32} {post : Int32 → Int32 → Int32 → Int32 → Prop} (hn : n ≤ 600) (hr : r ≤ n) (hB : ∀ j, j < n → tp j = B j) (h : ∀ v', (tK B n r = 2 → v' = tV B n r) → post (nI (tN B n r)) (nI (tK B n r)) (nI (tF B n r)) v') : q_wr_X4_advance_0 tp (nI n) (nI r) ki fi va post := by
  have hF := tF_le (B := B) hr
  have f41 : ∀ f, tF B n r = f → q_wr_X4_advance_41 tp (nI n) (nI r) ki fi va (nI f) post := by
    intro f hf
    have hfn : f ≤ n := by omega
    refine pk_lt f n (fun hlt => ?_) (fun hge => ?_)
    · have hin : vp_in (nI f) 600 := vp_in_nI (by omega) (by omega)
      refine ⟨hin, ?_⟩
      rw [nI_clamp (by omega), hB f hlt]
      refine sp_isLet (fun a => oi ?_) (fun hnl => iz ⟨hin, ?_⟩)
      · have hL : isL B f = true := decide_eq_true a
        obtain ⟨hK, hN⟩ := tk_let hf hlt hL
        have fin : ∀ j, j = tN B n r → q_wr_X4_advance_149 tp (nI n) (nI r) 1 (nI f) va (nI j) post := by
          intro j hj
          have h1 := h va (fun hk => absurd (hK.symm.trans hk) (by decide))
          rw [← hj, hK, hf] at h1
          exact h1
        intro P hP
        have loop : ∀ m j, m + j = n → scn (isL B) m j = tN B n r → P (nI j) := by
          intro m
          induction m with
          | zero =>
            intro j hj hs
            apply hP
            refine pk_le n j (fun _ => fin j hs) (fun hlt2 => absurd hlt2 (by omega))
          | succ m ih =>
            intro j hj hs
            apply hP
            refine pk_le n j (fun hlt2 => absurd hlt2 (by omega)) (fun _ => ⟨vp_in_nI (by omega) (by omega), ?_⟩)
            rw [nI_clamp (by omega), hB j (by omega)]
            refine sp_isLet (fun a => oi (fun v e => ?_)) (fun a => iz (fin j ?_))
            · rw [e, nI_1]
              refine ih (j + 1) (by omega) ?_
              rw [← hs]
              exact (scn_t (decide_eq_true a)).symm
            · rw [← hs]
              exact (scn_f (by unfold isL; rw [decide_eq_true_iff]; exact a)).symm
        exact loop (n - f) f (by omega) hN.symm
      · have hL : ¬ isL B f = true := by unfold isL; rw [decide_eq_true_iff]; exact hnl
        refine sp_isDig (fun a => oi ?_) (fun hnd => iz ⟨hin, ?_⟩)
        · have hD : isD B f = true := decide_eq_true a
          obtain ⟨hN, hK⟩ := tk_dig hf hlt hL hD
          have fin : ∀ j, j = tN B n r → f < j → j ≤ n → q_wr_X4_readNumber_68 tp (nI n) ki (vD B f (j - f)) (nI f) (nI j) (fun r_3 f_kind_1 f_value_1 => q_wr_X4_advance_149 tp (nI n) (nI r) f_kind_1 (nI f) f_value_1 r_3 post) := by
            intro j hj h1 h2
            have e : nI j - nI f = nI (j - f) := pk_sub (by omega)
            have hv : tV B n r = vD B f (j - f) := by unfold tV; rw [hf, hj]
            rw [← hN, ← hj] at hK
            have g := h (vD B f (j - f)) (fun _ => hv.symm)
            rw [← hj, hf] at g
            unfold q_wr_X4_readNumber_68
            rw [e]
            refine pk_lt 2 (j - f) (fun h3 => ?_) (fun h3 => ?_)
            · rw [if_neg (by omega)] at hK
              rw [hK] at g
              exact g
            · rw [if_pos (by omega)] at hK
              rw [hK] at g
              exact g
          intro P hP
          have loop : ∀ m j, m + j = n → f ≤ j → (f = j → 0 < m) → scn (isD B) m j = tN B n r → P (nI j) (vD B f (j - f)) := by
            intro m
            induction m with
            | zero =>
              intro j hj hfj h0 hs
              apply hP
              refine pk_le n j (fun _ => fin j hs (by omega) (by omega)) (fun hlt2 => absurd hlt2 (by omega))
            | succ m ih =>
              intro j hj hfj h0 hs
              apply hP
              have hin2 : vp_in (nI j) 600 := vp_in_nI (by omega) (by omega)
              refine pk_le n j (fun hlt2 => absurd hlt2 (by omega)) (fun _ => ⟨hin2, ?_⟩)
              rw [nI_clamp (by omega), hB j (by omega)]
              refine sp_isDig (fun a2 => oi ?_) (fun a2 => iz (fin j ?_ ?_ (by omega)))
              · have nx : ∀ y, y = vD B f (j + 1 - f) → q_wr_X4_readNumber_59 P tp (nI n) ki (vD B f (j - f)) (nI f) (nI j) y (fun r_3 f_kind_1 f_value_1 => q_wr_X4_advance_149 tp (nI n) (nI r) f_kind_1 (nI f) f_value_1 r_3 post) := by
                  intro y hy v e
                  rw [e, nI_1, hy]
                  refine ih (j + 1) (by omega) (by omega) (fun h9 => by omega) ?_
                  rw [← hs]
                  exact (scn_t (decide_eq_true a2)).symm
                have e2 : nI j - nI f = nI (j - f) := pk_sub (by omega)
                have e3 : j + 1 - f = (j - f) + 1 := by omega
                rw [e2]
                refine pk_le 2 (j - f) (fun h3 => nx _ ?_) (fun h3 => ⟨hin2, nx _ ?_⟩)
                · rw [e3, vD, if_neg (by omega)]
                · rw [e3, vD, if_pos h3, show f + (j - f) = j by omega]
              · rw [← hs]
                exact (scn_f (by unfold isD; rw [decide_eq_true_iff]; exact a2)).symm
              · refine Nat.lt_of_le_of_ne hfj (fun h9 => a2 ?_)
                rw [← h9]; exact a
          have h0 := loop (n - f) f (by omega) (Nat.le_refl f) (fun _ => by omega) hN.symm
          rw [Nat.sub_self] at h0
          exact h0
        · have hD : ¬ isD B f = true := by unfold isD; rw [decide_eq_true_iff]; exact hnd
          obtain ⟨hN, hK⟩ := tk_sgn hf hlt hL hD
          refine ⟨fun a v e => ?_, fun a v e => ?_⟩
          · rw [if_neg a] at hK
            have g := h va (fun hk => absurd (hK.symm.trans hk) (by decide))
            rw [hN, hK, hf] at g
            rw [e, nI_1]
            exact g
          · rw [if_pos a] at hK
            have g := h va (fun hk => absurd (hK.symm.trans hk) (by decide))
            rw [hN, hK, hf] at g
            rw [e, nI_1]
            exact g
    · obtain ⟨hK, hN⟩ := tk_end (B := B) (n := n) (r := r) (by omega)
      have g := h va (fun hk => absurd (hK.symm.trans hk) (by decide))
      rw [hN, hK, hf] at g
      exact g
  intro P hP
  have loop : ∀ m j, m + j = n → scn (isB B) m j = tF B n r → P (nI j) := by
    intro m
    induction m with
    | zero =>
      intro j hj hs
      apply hP
      refine pk_le n j (fun _ => f41 j hs.symm) (fun hlt2 => absurd hlt2 (by omega))
    | succ m ih =>
      intro j hj hs
      apply hP
      have hin2 : vp_in (nI j) 600 := vp_in_nI (by omega) (by omega)
      have nx : isB B j = true → q_wr_X4_advance_35 P tp (nI n) (nI r) ki fi va (nI j) post := by
        intro hb v e
        rw [e, nI_1]
        refine ih (j + 1) (by omega) ?_
        rw [← hs]
        exact (scn_t hb).symm
      refine pk_le n j (fun hlt2 => absurd hlt2 (by omega)) (fun _ => ⟨hin2, ?_⟩)
      rw [nI_clamp (by omega), hB j (by omega)]
      refine ⟨fun a => nx (decide_eq_true (Or.inl a)), fun a => ⟨hin2, fun a2 => f41 j ?_, fun a2 => nx (decide_eq_true (Or.inr a2))⟩⟩
      rw [← hs]
      exact scn_f (by unfold isB; rw [decide_eq_true_iff]; exact fun h9 => h9.elim a a2)
  exact loop (n - r) r (by omega) rfl
end
section
theorem u8_tab : ∀ k, k < 256 → (((nI k - 128) &&& 255 = 10) ↔ nI k - 128 = 10) ∧ (((nI k - 128) &&& 255 = 32) ↔ nI k - 128 = 32) ∧ (((nI k - 128) &&& 255 = 59) ↔ nI k - 128 = 59) ∧ ((97 ≤ (nI k - 128) &&& 255 ∧ (nI k - 128) &&& 255 ≤ 122) ↔ (97 ≤ nI k - 128 ∧ nI k - 128 ≤ 122)) ∧ ((48 ≤ (nI k - 128) &&& 255 ∧ (nI k - 128) &&& 255 ≤ 57) ↔ (48 ≤ nI k - 128 ∧ nI k - 128 ≤ 57)) ∧ (0 ≤ nI k - 128 → (nI k - 128) &&& 255 = nI k - 128) ∧ 0 ≤ (nI k - 128) &&& 255 := by decide +kernel
theorem u8 {x : Int32} (h : iv (-128) 127 x) : ((x &&& 255 = 10) ↔ x = 10) ∧ ((x &&& 255 = 32) ↔ x = 32) ∧ ((x &&& 255 = 59) ↔ x = 59) ∧ ((97 ≤ x &&& 255 ∧ x &&& 255 ≤ 122) ↔ (97 ≤ x ∧ x ≤ 122)) ∧ ((48 ≤ x &&& 255 ∧ x &&& 255 ≤ 57) ↔ (48 ≤ x ∧ x ≤ 57)) ∧ (0 ≤ x → x &&& 255 = x) ∧ 0 ≤ x &&& 255 := by
  have h2 : iv 0 255 (x + 128) := iv_add (l := 0) (h := 255) h (iv_lit (x := 128) (l := 128) (h := 128) (by decide)) (by decide)
  obtain ⟨k, hk, -, hk2, -⟩ := iv_nI h2 (by decide)
  have e : x = nI k - 128 := by rw [← hk]; simp
  rw [e]
  exact u8_tab k (by omega)
theorem sp_see1 {tp B : Nat → Int32} {j n : Nat} {post : Int32 → Prop} (hn : n ≤ 600) (hB : ∀ j, j < n → tp j = B j) (hj : j < n) (h : post (B j &&& 255)) : q_m_see_0 tp (nI j) (nI n) post :=
  sp_seeE (Nat.le_of_lt hj) hn (fun e => absurd e (by omega)) (fun _ => by rw [hB j hj]; exact h)
theorem sp_see0 {tp : Nat → Int32} {j n : Nat} {post : Int32 → Prop} (hn : n ≤ 600) (hj : j = n) (h : post (-1)) : q_m_see_0 tp (nI j) (nI n) post :=
  sp_seeE (Nat.le_of_eq hj) hn (fun _ => h) (fun e => absurd e (by omega))
theorem isL_n {B : Nat → Int32} {j : Nat} (h : ¬ (97 ≤ B j ∧ B j ≤ 122)) : ¬ isL B j = true := by unfold isL; rw [decide_eq_true_iff]; exact h
theorem isD_n {B : Nat → Int32} {j : Nat} (h : ¬ (48 ≤ B j ∧ B j ≤ 57)) : ¬ isD B j = true := by unfold isD; rw [decide_eq_true_iff]; exact h
theorem dig_0 {x : Int32} (h : 48 ≤ x ∧ x ≤ 57) : 0 ≤ x := Int32.le_iff_toInt_le.mpr (by have := r_le h.1; have e : (48 : Int32).toInt = 48 := rfl; have e0 : (0 : Int32).toInt = 0 := rfl; omega)
theorem let_0 {x : Int32} (h : 97 ≤ x ∧ x ≤ 122) : 0 ≤ x := Int32.le_iff_toInt_le.mpr (by have := r_le h.1; have e : (97 : Int32).toInt = 97 := rfl; have e0 : (0 : Int32).toInt = 0 := rfl; omega)
/-- the reference's next token -/
theorem e_tok {tp B : Nat → Int32} {n r : Nat} {be so va : Int32} {wd : Int64} {post : Int32 → Int32 → Int32 → Int32 → Int64 → Prop} (hn : n ≤ 600) (hr : r ≤ n) (hB : ∀ j, j < n → tp j = B j) (hb : ∀ j, iv (-128) 127 (B j)) (h : ∀ v' w', (tK B n r = 2 → v' = tV B n r) → (tK B n r = 1 → w' = tW B n r) → post (nI (tN B n r)) (nI (tF B n r)) (sI (tK B n r)) v' w') : q_m_token_0 tp (nI r) (nI n) be so va wd post := by
  have hF := tF_le (B := B) hr
  intro P hP
  have loop : ∀ m j, m + j = n → scn (isB B) m j = tF B n r → P (nI j) := by
    intro m
    induction m with
    | zero =>
      intro j hj hs
      have hj2 : j = n := by omega
      apply hP
      refine sp_see0 hn hj2 ⟨fun h9 => absurd h9 (by decide), fun _ => ?_⟩
      refine sp_see0 hn hj2 ⟨fun _ => ?_, fun h9 => absurd h9 (by decide)⟩
      refine sp_see0 hn hj2 ⟨fun h9 => absurd h9 (by decide), fun _ => ?_⟩
      have hf : tF B n r = j := hs.symm
      obtain ⟨hK, hN⟩ := tk_end (B := B) (n := n) (r := r) (by omega)
      have g := h va 0 (fun hk => absurd (hK.symm.trans hk) (by decide)) (fun hk => absurd (hK.symm.trans hk) (by decide))
      rw [hN, hK, hf] at g
      exact g
    | succ m ih =>
      intro j hj hs
      have hlt : j < n := by omega
      obtain ⟨u10, u32, u59, uL, uD, up, u0⟩ := u8 (hb j)
      apply hP
      have k18 : isB B j = true → q_m_token_18 P tp (nI j) (nI n) be so va wd post := by
        intro hb2 v e
        rw [e, nI_1]
        refine ih (j + 1) (by omega) ?_
        rw [← hs]
        exact (scn_t hb2).symm
      refine sp_see1 hn hB hlt ⟨fun a => k18 (decide_eq_true (Or.inl (u10.mp a))), fun a => ?_⟩
      refine sp_see1 hn hB hlt ⟨fun a2 => ?_, fun a2 => k18 (decide_eq_true (Or.inr (u32.mp a2)))⟩
      have hf : tF B n r = j := by
        rw [← hs]
        exact scn_f (by unfold isB; rw [decide_eq_true_iff]; exact fun h9 => h9.elim (fun e => a (u10.mpr e)) (fun e => a2 (u32.mpr e)))
      refine sp_see1 hn hB hlt ⟨fun _ => ?_, fun h9 => absurd u0 h9⟩
      refine sp_in (fun hnl => iz ?_) (fun l1 l2 => oi ?_)
      · have hL := isL_n (fun h9 => hnl (uL.mpr h9))
        refine sp_in (fun hnd => iz ?_) (fun d1 d2 => oi ?_)
        · have hD := isD_n (fun h9 => hnd (uD.mpr h9))
          obtain ⟨hN, hK⟩ := tk_sgn hf hlt hL hD
          intro v e
          rw [e, nI_1]
          refine ⟨fun c => ?_, fun c => ?_⟩
          · rw [if_neg (fun h9 => c (u59.mpr h9))] at hK
            have g := h va 0 (fun hk => absurd (hK.symm.trans hk) (by decide)) (fun hk => absurd (hK.symm.trans hk) (by decide))
            rw [hN, hK, hf] at g
            exact g
          · rw [if_pos (u59.mp c)] at hK
            have g := h va 0 (fun hk => absurd (hK.symm.trans hk) (by decide)) (fun hk => absurd (hK.symm.trans hk) (by decide))
            rw [hN, hK, hf] at g
            exact g
        · have hD : isD B j = true := decide_eq_true (uD.mp ⟨d1, d2⟩)
          obtain ⟨hN, hK⟩ := tk_dig hf hlt hL hD
          have fin : ∀ i, j + i = tN B n r → ((nI i ≤ 2 → q_m_token_235 tp (nI (j + i)) (nI n) (nI j) so (vD B j i) 0 3 post) ∧ (¬ nI i ≤ 2 → q_m_token_235 tp (nI (j + i)) (nI n) (nI j) so (vD B j i) 0 1 post)) ∨ 600 < i := by
            intro i hi
            by_cases h6 : 600 < i
            · exact Or.inr h6
            refine Or.inl ?_
            have hv : tV B n r = vD B j i := by unfold tV; rw [hf, ← hi]; congr 1; omega
            have g0 := h (vD B j i) 0 (fun _ => hv.symm)
            rw [← hN, ← hi, show j + i - j = i by omega] at hK
            rw [← hi, hf] at g0
            refine pk_le i 2 (fun h3 => ?_) (fun h3 => ?_)
            · rw [if_pos h3] at hK
              have g := g0 (fun hk => absurd (hK.symm.trans hk) (by decide))
              rw [hK] at g
              exact g
            · rw [if_neg (by omega)] at hK
              have g := g0 (fun hk => absurd (hK.symm.trans hk) (by decide))
              rw [hK] at g
              exact g
          intro P2 hP2
          have loop2 : ∀ q i, q + (j + i) = n → scn (isD B) q (j + i) = tN B n r → P2 (nI i) (nI (j + i)) (vD B j i) := by
            intro q
            induction q with
            | zero =>
              intro i hi hs2
              apply hP2
              refine sp_see0 hn (by omega) (sp_in (fun _ => iz ?_) (fun g1 _ => absurd g1 (by decide)))
              exact (fin i hs2).resolve_right (by omega)
            | succ q ih2 =>
              intro i hi hs2
              have hlt2 : j + i < n := by omega
              obtain ⟨-, -, -, -, uD2, up2, -⟩ := u8 (hb (j + i))
              apply hP2
              refine sp_see1 hn hB hlt2 (sp_in (fun c => iz ?_) (fun c1 c2 => oi ?_))
              · refine (fin i ?_).resolve_right (by omega)
                rw [← hs2]
                exact (scn_f (isD_n (fun h9 => c (uD2.mpr h9)))).symm
              · have hd2 := uD2.mp ⟨c1, c2⟩
                have nx : ∀ y, y = vD B j (i + 1) → q_m_token_205 P2 tp (nI (j + i)) (nI n) (nI j) so (vD B j i) 0 (nI i) y post := by
                  intro y hy v1 e1 v2 e2
                  rw [e1, e2, nI_1, nI_1, hy]
                  refine ih2 (i + 1) (by omega) ?_
                  rw [← hs2]
                  exact (scn_t (decide_eq_true hd2)).symm
                refine pk_le 2 i (fun h3 => nx _ ?_) (fun h3 => sp_see1 hn hB hlt2 (nx _ ?_))
                · rw [vD, if_neg (by omega)]
                · rw [vD, if_pos h3, up2 (dig_0 hd2), Int32.mul_comm]
          have h0 := loop2 (n - j) 0 (by omega) hN.symm
          exact h0
      · have hL : isL B j = true := decide_eq_true (uL.mp ⟨l1, l2⟩)
        obtain ⟨hK, hN⟩ := tk_let hf hlt hL
        have fin : ∀ i, j + i = tN B n r → ((nI i ≤ 8 → q_m_token_136 tp (nI (j + i)) (nI n) (nI j) so va (pw B j i) (pw B j i) post) ∧ (¬ nI i ≤ 8 → q_m_token_136 tp (nI (j + i)) (nI n) (nI j) so va (pw B j i) 0 post)) ∨ 600 < i := by
          intro i hi
          by_cases h6 : 600 < i
          · exact Or.inr h6
          refine Or.inl ?_
          have e9 : j + i - j = i := by omega
          have hw : tW B n r = if i ≤ 8 then pw B j i else 0 := by unfold tW; rw [hf, ← hi, e9]
          have g0 := fun w (hw2 : w = tW B n r) => h va w (fun hk => absurd (hK.symm.trans hk) (by decide)) (fun _ => hw2)
          rw [← hi, hf, hK] at g0
          refine pk_le i 8 (fun h3 => g0 _ (by rw [hw, if_pos h3])) (fun h3 => g0 _ (by rw [hw, if_neg (by omega)]))
        intro P2 hP2
        have loop2 : ∀ q i, q + (j + i) = n → scn (isL B) q (j + i) = tN B n r → P2 (nI i) (nI (j + i)) (pw B j i) := by
          intro q
          induction q with
          | zero =>
            intro i hi hs2
            apply hP2
            refine sp_see0 hn (by omega) (sp_in (fun _ => iz ?_) (fun g1 _ => absurd g1 (by decide)))
            exact (fin i hs2).resolve_right (by omega)
          | succ q ih2 =>
            intro i hi hs2
            have hlt2 : j + i < n := by omega
            obtain ⟨-, -, -, uL2, -, up2, -⟩ := u8 (hb (j + i))
            apply hP2
            refine sp_see1 hn hB hlt2 (sp_in (fun c => iz ?_) (fun c1 c2 => oi ?_))
            · refine (fin i ?_).resolve_right (by omega)
              rw [← hs2]
              exact (scn_f (isL_n (fun h9 => c (uL2.mpr h9)))).symm
            · refine sp_see1 hn hB hlt2 (fun v1 e1 v2 e2 v3 e3 => ?_)
              rw [e1, e2, e3, nI_1, nI_1]
              refine ih2 (i + 1) (by omega) ?_
              rw [← hs2]
              exact (scn_t (decide_eq_true (uL2.mp ⟨c1, c2⟩))).symm
        exact loop2 (n - j) 0 (by omega) hN.symm
  exact loop (n - r) r (by omega) rfl
end
section
/-- words: which of the spellings a row of letters is -/
def spl (B : Nat → Int32) (f e w : Nat) : Prop := e - f = sLen.getD w 0 ∧ ∀ i, i < sLen.getD w 0 → B (f + i) = (sByt.getD w []).getD i 0
theorem spl_tab : ∀ i, i < 20 → ∀ j, j < 20 → ¬ i = j → ¬ sLen.getD i 0 = sLen.getD j 0 ∨ ∃ k, k < sLen.getD i 0 ∧ ¬ (sByt.getD i []).getD k 0 = (sByt.getD j []).getD k 0 := by decide +kernel
theorem spl_un {B : Nat → Int32} {f e i j : Nat} (hi : i < 20) (hj : j < 20) (h1 : spl B f e i) (h2 : spl B f e j) : i = j := by
  by_cases h : i = j
  · exact h
  · exfalso
    rcases spl_tab i hi j hj h with a | ⟨k, hk, a⟩
    · exact a (h1.1.symm.trans h2.1)
    · exact a ((h1.2 k hk).symm.trans (h2.2 k (by rw [← h2.1, h1.1]; exact hk)))
def wlo (o : Nat) : Nat := [0, 10, 16, 18, 20].getD o 0
def wP (B : Nat → Int32) (n r o j : Nat) : Prop := wlo o ≤ j ∧ j < wlo (o + 1) ∧ tK B n r = 1 ∧ spl B (tF B n r) (tN B n r) j
noncomputable def wOf (B : Nat → Int32) (n r o : Nat) : Nat := @dite Nat (∃ j, wP B n r o j) (Classical.propDecidable _) (fun h => Classical.choose h) (fun _ => 20)
theorem wlo_lt : ∀ o, o ≤ 3 → wlo (o + 1) ≤ 20 ∧ wlo o < wlo (o + 1) := by decide
theorem wd_is {B : Nat → Int32} {n r o j : Nat} (ho : o ≤ 3) (h : wP B n r o j) : wOf B n r o = j := by
  have hex : ∃ j, wP B n r o j := ⟨j, h⟩
  have e : wOf B n r o = Classical.choose hex := by unfold wOf; exact dif_pos hex
  rw [e]
  have hc := Classical.choose_spec hex
  have := (wlo_lt o ho).1
  exact spl_un (Nat.lt_of_lt_of_le hc.2.1 this) (Nat.lt_of_lt_of_le h.2.1 this) hc.2.2.2 h.2.2.2
theorem wd_no {B : Nat → Int32} {n r o : Nat} (h : ∀ j, ¬ wP B n r o j) : wOf B n r o = 20 := by
  unfold wOf
  exact dif_neg (fun ⟨j, hj⟩ => h j hj)
theorem wd_cases {B : Nat → Int32} {n r o : Nat} (ho : o ≤ 3) : (wOf B n r o = 20 ∧ ∀ j, ¬ wP B n r o j) ∨ (wOf B n r o < 20 ∧ wP B n r o (wOf B n r o)) := by
  by_cases h : ∃ j, wP B n r o j
  · obtain ⟨j, hj⟩ := h
    rw [wd_is ho hj]
    exact Or.inr ⟨Nat.lt_of_lt_of_le hj.2.1 (wlo_lt o ho).1, hj⟩
  · exact Or.inl ⟨wd_no (fun j hj => h ⟨j, hj⟩), fun j hj => h ⟨j, hj⟩⟩
theorem sB_tab : ∀ w, w < 20 → ∀ i, i < sLen.getD w 0 → (sByt.getD w []).getD i 0 &&& 255 = (sByt.getD w []).getD i 0 := by decide +kernel
theorem sL_tab : ∀ w, w < 20 → 0 < sLen.getD w 0 ∧ sLen.getD w 0 ≤ 7 := by decide +kernel
theorem e_spelled {tp B : Nat → Int32} {n f e w : Nat} {post : Int32 → Prop} (hn : n ≤ 600) (hf : f ≤ e) (he : e ≤ n) (hB : ∀ j, j < n → tp j = B j) (hw : w < 20) (h1 : spl B f e w → post 1) (h0 : ¬ spl B f e w → post 0) : q_wr_X4_isSpelled_0 tp (nI e) (nI f) w post := by
  have hl := sL_tab w hw
  refine ⟨hw, fun hq => ?_, fun hq => h0 (fun hs => hq ?_)⟩
  · rw [pk_sub hf] at hq
    have hq2 : sLen.getD w 0 = e - f := (nI_eq (by omega) (by omega)).mp hq
    intro P hP
    have loop : ∀ m i, m + i = sLen.getD w 0 → (∀ k, k < i → B (f + k) = (sByt.getD w []).getD k 0) → P (nI i) := by
      intro m
      induction m with
      | zero =>
        intro i hi hk
        apply hP
        refine ⟨hw, pk_le (sLen.getD w 0) i (fun _ => h1 ⟨hq2.symm, fun k hk2 => hk k (by omega)⟩) (fun h9 => absurd h9 (by omega))⟩
      | succ m ih =>
        intro i hi hk
        apply hP
        refine ⟨hw, pk_le (sLen.getD w 0) i (fun h9 => absurd h9 (by omega)) (fun _ => ?_)⟩
        rw [nI_add, nI_clamp (n := f + i) (by omega), nI_clamp (n := i) (by omega), hB (f + i) (by omega), sB_tab w hw i (by omega)]
        refine ⟨vp_in_nI (by omega) (by omega), hw, vp_in_nI (by omega) (by omega), fun hq3 v ev => ?_, fun hq3 => h0 (fun hs => hq3 (hs.2 i (by omega)))⟩
        rw [ev, nI_1]
        refine ih (i + 1) (by omega) (fun k hk2 => ?_)
        by_cases hki : k = i
        · rw [hki]; exact hq3
        · exact hk k (by omega)
    exact loop (sLen.getD w 0) 0 (by omega) (fun k hk => absurd hk (by omega))
  · rw [pk_sub hf, hs.1]
theorem wlo_tb : ∀ o, o ≤ 4 → tbf_0 o = nI (wlo o) := by decide +kernel
theorem e_wordOf {tp B : Nat → Int32} {n r o : Nat} {post : Int32 → Prop} (hn : n ≤ 600) (hr : r ≤ n) (ho : o ≤ 3) (hB : ∀ j, j < n → tp j = B j) (h0 : wOf B n r o = 20 → post (-1)) (h1 : wOf B n r o < 20 → wP B n r o (wOf B n r o) → post (nI (wOf B n r o))) : q_wr_X4_wordOf_0 tp (nI (tN B n r)) (nI (tK B n r)) (nI (tF B n r)) (nI o) post := by
  have hk := tk_le (B := B) hr
  have hwl := wlo_lt o ho
  refine pk_eq (tK B n r) 1 (fun hK => ⟨vp_in_nI (by omega) (by omega), fun v ev => ?_⟩) (fun hK => h0 (wd_no (fun j hj => hK hj.2.2.1)))
  rw [nI_clamp (by omega), wlo_tb o (by omega)] at ev
  rw [ev]
  intro P hP
  have loop : ∀ m j, m + j = wlo (o + 1) → wlo o ≤ j → (∀ i, wlo o ≤ i → i < j → ¬ spl B (tF B n r) (tN B n r) i) → P (nI j) := by
    intro m
    induction m with
    | zero =>
      intro j hj hlo hi
      apply hP
      rw [nI_1, nI_clamp (n := o + 1) (by omega), wlo_tb (o + 1) (by omega)]
      refine ⟨vp_in_nI (by omega) (by omega), pk_le (wlo (o + 1)) j (fun _ => h0 (wd_no (fun k hk2 => hi k hk2.1 (by have := hk2.2.1; omega) hk2.2.2.2))) (fun h9 => absurd h9 (by omega))⟩
    | succ m ih =>
      intro j hj hlo hi
      apply hP
      rw [nI_1, nI_clamp (n := o + 1) (by omega), wlo_tb (o + 1) (by omega)]
      refine ⟨vp_in_nI (by omega) (by omega), pk_le (wlo (o + 1)) j (fun h9 => absurd h9 (by omega)) (fun _ => ⟨vp_in_nI (by omega) (by omega), ?_⟩)⟩
      rw [nI_clamp (n := j) (by omega)]
      refine e_spelled hn hk.1 hk.2.1 hB (by omega) (fun hs => oi ?_) (fun hs => iz (fun v2 e2 => ?_))
      · have hp : wP B n r o j := ⟨hlo, by omega, hK, hs⟩
        have e := wd_is ho hp
        have g := h1 (by omega) (by rw [e]; exact hp)
        rw [e] at g
        exact g
      · rw [e2, nI_1]
        refine ih (j + 1) (by omega) (by omega) (fun i hi1 hi2 => ?_)
        by_cases hij : i = j
        · rw [hij]; exact hs
        · exact hi i hi1 (by omega)
  exact loop (wlo (o + 1) - wlo o) (wlo o) (by omega) (Nat.le_refl _) (fun i h9 h8 => absurd h8 (by omega))
/-- packed words -/
def pN (d : Nat → Nat) : Nat → Nat
  | 0 => 0
  | m + 1 => 256 * pN d m + d m
def pL : List Nat → Nat
  | [] => 0
  | a :: l => 256 * pL l + a
theorem pN_inj (d : Nat → Nat) : ∀ (l : List Nat) (m : Nat), (∀ i, i < m → 0 < d i ∧ d i < 256) → (∀ a, a ∈ l → 0 < a ∧ a < 256) → pN d m = pL l → m = l.length ∧ ∀ i, i < m → d i = l.getD (m - 1 - i) 0
  | [], 0 => fun _ _ _ => ⟨rfl, fun i hi => absurd hi (by omega)⟩
  | [], m + 1 => fun h _ e => by
    have := h m (by omega)
    simp only [pN, pL] at e
    omega
  | a :: l, 0 => fun _ h e => by
    have := h a (by simp)
    simp only [pN, pL] at e
    omega
  | a :: l, m + 1 => fun h1 h2 e => by
    have a1 := h1 m (by omega)
    have a2 := h2 a (by simp)
    simp only [pN, pL] at e
    obtain ⟨e1, e2⟩ := pN_inj d l m (fun i hi => h1 i (by omega)) (fun b hb => h2 b (by simp [hb])) (by omega)
    refine ⟨by simp [e1], fun i hi => ?_⟩
    by_cases him : i = m
    · subst him
      have : i + 1 - 1 - i = 0 := by omega
      rw [this]
      simp only [List.getD_cons_zero]
      omega
    · rw [e2 i (by omega)]
      have : m + 1 - 1 - i = (m - 1 - i) + 1 := by omega
      rw [this, List.getD_cons_succ]
theorem pN_lt (d : Nat → Nat) : ∀ m, (∀ i, i < m → d i < 256) → pN d m < 256 ^ m
  | 0 => fun _ => by simp [pN]
  | m + 1 => fun h => by
    have a := h m (by omega)
    have b := pN_lt d m (fun i hi => h i (by omega))
    rw [Nat.pow_succ]
    simp only [pN]
    omega
def wC : List Nat := [6845812, 33329961647564645, 6578541, 1684366704, 495740085349, 7823737, 1701013615, 119165551928690, 126896661030258, 461414299507, 422608071022, 1936289383, 33610324346432613, 2002873451, 427020610914, 28259043934301796, 448377483876, 1836414053, 508675318629, 1937007984]
def rB (w : Nat) : List Nat := ((sByt.getD w []).map Int32.toNatClampNeg).reverse
theorem rB_tab : ∀ w, w < 20 → pL (rB w) = wC.getD w 0 ∧ (rB w).length = sLen.getD w 0 ∧ (∀ a, a ∈ rB w → 0 < a ∧ a < 256) ∧ (∀ i, i < sLen.getD w 0 → nI ((rB w).getD (sLen.getD w 0 - 1 - i) 0) = (sByt.getD w []).getD i 0) := by decide +kernel
theorem wC_lt : ∀ w, w < 20 → wC.getD w 0 < 2 ^ 63 ∧ 0 < wC.getD w 0 := by decide +kernel
theorem sh8 {a b : Nat} (ha : a < 2 ^ 55) (hb : b < 256) : (lN a <<< (Int32.toInt64 8 &&& 63)) ||| lN b = lN (256 * a + b) := by
  have e8 : (Int32.toInt64 8 &&& 63 : Int64) = 8 := by decide
  rw [e8]
  apply Int64.toBitVec_inj.mp
  apply BitVec.eq_of_toNat_eq
  have h1 : (lN a).toBitVec.toNat = a := by
    show a % 2 ^ 64 = a
    exact Nat.mod_eq_of_lt (by omega)
  have h2 : (lN b).toBitVec.toNat = b := by
    show b % 2 ^ 64 = b
    exact Nat.mod_eq_of_lt (by omega)
  have h3 : (lN (256 * a + b)).toBitVec.toNat = 256 * a + b := by
    show (256 * a + b) % 2 ^ 64 = 256 * a + b
    exact Nat.mod_eq_of_lt (by omega)
  rw [h3, Int64.toBitVec_or, Int64.toBitVec_shiftLeft, BitVec.toNat_or, h2]
  have e9 : ((8 : Int64).toBitVec.smod 64) = 8 := by decide
  rw [e9]
  have e10 : ((lN a).toBitVec <<< (8 : BitVec 64)).toNat = 256 * a := by
    rw [BitVec.shiftLeft_eq', BitVec.toNat_shiftLeft, h1]
    show (a <<< 8) % 2 ^ 64 = 256 * a
    rw [Nat.shiftLeft_eq]
    rw [Nat.mod_eq_of_lt (by omega)]
    omega
  rw [e10]
  have := Nat.shiftLeft_add_eq_or_of_lt (b := b) (i := 8) (by omega) a
  rw [Nat.shiftLeft_eq] at this
  rw [show 256 * a = a * 2 ^ 8 by omega]
  exact this.symm
def dB (B : Nat → Int32) (f i : Nat) : Nat := (B (f + i)).toNatClampNeg
theorem let_n {x : Int32} (h : 97 ≤ x ∧ x ≤ 122) : ∃ d : Nat, x = nI d ∧ 97 ≤ d ∧ d ≤ 122 := by
  have e1 : (97 : Int32).toInt = 97 := rfl
  have e2 : (122 : Int32).toInt = 122 := rfl
  obtain ⟨d, h1, h2, h3, h4⟩ := iv_nI (a := 97) (b := 122) (x := x) ⟨by have := r_le h.1; omega, by have := r_le h.2; omega⟩ (by decide)
  exact ⟨d, h1, by omega, by omega⟩
theorem pw_pN {B : Nat → Int32} {f : Nat} (hb : ∀ j, iv (-128) 127 (B j)) : ∀ m, m ≤ 8 → (∀ i, i < m → 97 ≤ B (f + i) ∧ B (f + i) ≤ 122) → pw B f m = lN (pN (dB B f) m) ∧ pN (dB B f) m < 128 * 256 ^ (m - 1)
  | 0 => fun _ _ => ⟨rfl, by simp [pN]⟩
  | m + 1 => fun hm h => by
    obtain ⟨d, hd, d1, d2⟩ := let_n (h m (by omega))
    have e : Int32.toInt64 (B (f + m) &&& 255) = lN d := by
      rw [(u8 (hb (f + m))).2.2.2.2.2.1 (let_0 (h m (by omega))), hd]
      exact nI_l (by omega)
    have hdm : dB B f m = d := by unfold dB; rw [hd]; exact nI_clamp (by omega)
    obtain ⟨e1, e2⟩ := pw_pN hb m (by omega) (fun i hi => h i (by omega))
    have hp : 256 ^ (m - 1) ≤ 256 ^ 6 := Nat.pow_le_pow_right (by omega) (by omega)
    have e6 : (256 : Nat) ^ 6 = 281474976710656 := by decide
    have hlt : pN (dB B f) m < 2 ^ 55 := by omega
    refine ⟨?_, ?_⟩
    · show (pw B f m <<< (Int32.toInt64 8 &&& 63)) ||| Int32.toInt64 (B (f + m) &&& 255) = lN (256 * pN (dB B f) m + dB B f m)
      rw [e, e1, hdm]
      exact sh8 hlt (by omega)
    · show 256 * pN (dB B f) m + dB B f m < 128 * 256 ^ (m + 1 - 1)
      rw [hdm]
      cases m with
      | zero => simp only [pN]; omega
      | succ m =>
        rw [show m + 1 + 1 - 1 = (m + 1 - 1) + 1 by omega, Nat.pow_succ]
        omega
/-- a word of the reference is a spelling -/
theorem tW_iff {B : Nat → Int32} {n r j : Nat} (hr : r ≤ n) (hb : ∀ j, iv (-128) 127 (B j)) (hj : j < 20) (hK : tK B n r = 1) : tW B n r = lN (wC.getD j 0) ↔ spl B (tF B n r) (tN B n r) j := by
  have hk := tk_le (B := B) hr
  obtain ⟨r1, r2, r3, r4⟩ := rB_tab j hj
  have hw := wC_lt j hj
  have hL := sL_tab j hj
  have hlt : tF B n r < n := by
    have := hk.2.2.1 (by omega)
    omega
  have hLf : isL B (tF B n r) = true := by
    by_cases h : isL B (tF B n r) = true
    · exact h
    · exfalso
      by_cases hD : isD B (tF B n r) = true
      · have := (tk_dig rfl hlt h hD).2
        rw [hK] at this
        by_cases h2 : scn (isD B) (n - tF B n r) (tF B n r) - tF B n r ≤ 2
        · rw [if_pos h2] at this; omega
        · rw [if_neg h2] at this; omega
      · have := (tk_sgn rfl hlt h hD).2
        rw [hK] at this
        by_cases h2 : B (tF B n r) = 59
        · rw [if_pos h2] at this; omega
        · rw [if_neg h2] at this; omega
  have hN := (tk_let rfl hlt hLf).2
  have hall : ∀ i, i < tN B n r - tF B n r → 97 ≤ B (tF B n r + i) ∧ B (tF B n r + i) ≤ 122 := by
    intro i hi
    have h9 := scn_all (isL B) (n - tF B n r) (tF B n r) (tF B n r + i) (by omega) (by rw [← hN]; omega)
    unfold isL at h9
    exact of_decide_eq_true h9
  by_cases h8 : tN B n r - tF B n r ≤ 8
  · have hp := pw_pN hb _ h8 hall
    have hd : ∀ i, i < tN B n r - tF B n r → 0 < dB B (tF B n r) i ∧ dB B (tF B n r) i < 256 := by
      intro i hi
      obtain ⟨d, hd, d1, d2⟩ := let_n (hall i hi)
      unfold dB
      rw [hd, nI_clamp (by omega)]
      omega
    have hlt63 : pN (dB B (tF B n r)) (tN B n r - tF B n r) < 2 ^ 63 := by
      have h7 : 256 ^ (tN B n r - tF B n r - 1) ≤ 256 ^ 7 := Nat.pow_le_pow_right (by omega) (by omega)
      have e7 : (256 : Nat) ^ 7 = 72057594037927936 := by decide
      omega
    have e : tW B n r = lN (pN (dB B (tF B n r)) (tN B n r - tF B n r)) := by
      unfold tW
      rw [if_pos h8]
      exact hp.1
    rw [e, pk_lEQ hlt63 hw.1, ← r1]
    constructor
    · intro h
      obtain ⟨e1, e2⟩ := pN_inj _ (rB j) _ hd r3 h
      rw [r2] at e1
      refine ⟨e1, fun i hi => ?_⟩
      have e3 := e2 i (by omega)
      rw [e1] at e3
      rw [← r4 i hi, ← e3]
      obtain ⟨d, hd2, d1, d2⟩ := let_n (hall i (by omega))
      unfold dB
      rw [hd2, nI_clamp (by omega)]
    · intro h
      have e4 : ∀ (l : List Nat) (m : Nat), m = l.length → (∀ i, i < m → dB B (tF B n r) i = l.getD (m - 1 - i) 0) → pN (dB B (tF B n r)) m = pL l := by
        intro l
        induction l with
        | nil => intro m hm _; rw [hm]; rfl
        | cons a l ih =>
          intro m hm hq
          rw [List.length_cons] at hm
          subst hm
          simp only [pN, pL]
          have ha := hq l.length (by omega)
          rw [show l.length + 1 - 1 - l.length = 0 by omega] at ha
          simp only [List.getD_cons_zero] at ha
          rw [ha, ih l.length rfl (fun i hi => ?_)]
          have hb2 := hq i (by omega)
          rw [show l.length + 1 - 1 - i = (l.length - 1 - i) + 1 by omega, List.getD_cons_succ] at hb2
          exact hb2
      refine e4 (rB j) _ (by rw [r2]; exact h.1) (fun i hi => ?_)
      unfold dB
      have h5 : i < sLen.getD j 0 := by rw [← h.1]; exact hi
      rw [h.2 i h5, ← r4 i h5, h.1]
      refine nI_clamp ?_
      have hmem : (rB j).getD (sLen.getD j 0 - 1 - i) 0 < 256 := by
        rw [List.getD_eq_getElem?_getD]
        cases e9 : (rB j)[sLen.getD j 0 - 1 - i]? with
        | none => simp
        | some x => exact (r3 x (List.mem_of_getElem? e9)).2
      omega
  · have e : tW B n r = lN 0 := by
      unfold tW
      rw [if_neg h8]
      rfl
    rw [e, pk_lEQ (by omega) hw.1]
    constructor
    · intro h; omega
    · intro h; have := h.1; omega
end
section
/-- a line: the places of its tokens -/
def ps (B : Nat → Int32) (n r : Nat) : Nat → Nat
  | 0 => r
  | k + 1 => tN B n (ps B n r k)
theorem ps_le {B : Nat → Int32} {n r : Nat} (hr : r ≤ n) : ∀ k, r ≤ ps B n r k ∧ ps B n r k ≤ n
  | 0 => ⟨Nat.le_refl _, hr⟩
  | k + 1 => by
    have h := ps_le (B := B) hr k
    have h1 := tF_le (B := B) h.2
    have h2 := tk_le (B := B) h.2
    show r ≤ tN B n (ps B n r k) ∧ tN B n (ps B n r k) ≤ n
    omega
def nW (w : Nat) : Nat := [1, 1, 1, 1, 1, 3, 2, 2, 2, 2, 2, 2, 2, 2, 1, 1, 2, 2, 2, 1].getD w 0
theorem nW_tb : ∀ w, w < 20 → tbf_1 w = nI (nW w) ∧ 1 ≤ nW w ∧ nW w ≤ 3 := by decide +kernel
def cb (lo hi but v : Int32) : Bool := decide (lo ≤ v ∧ v ≤ hi ∧ ¬ v = but)
def cW (w k : Nat) (a v : Int32) : Bool := cb (tbf_2 (w * 3 + k)) (tbf_3 (w * 3 + k)) (if k = 1 ∧ (w = 5 ∨ w = 6) then a else -1) v
def fu (w : Nat) (td : Nat → Int32) : Bool := decide ((w = 0 ∧ td 0 = 9) ∨ (w = 6 ∧ td 4 = 4) ∨ (w = 8 ∧ td 1 = 6) ∨ (10 ≤ w ∧ w < 16 ∧ td 0 = 40) ∨ (16 ≤ w ∧ w < 18 ∧ td 0 = 10) ∨ (w = 18 ∧ td 0 = 9))
def mF (c : Bool) (lf f : Int32) : Int32 := if c = true then lf else if lf = 0 then f else lf
def mP (c : Bool) (lf lp pl : Int32) : Int32 := if c = true then lp else if lf = 0 then pl else lp
def mkF (B : Nat → Int32) (n r w : Nat) (td : Nat → Int32) (fa : Int32) : Nat → Int32
  | 0 => mF (!fu w td) fa 3
  | k + 1 => mF (cW w k (tV B n (ps B n r 1)) (tV B n (ps B n r (k + 1)))) (mkF B n r w td fa k) 2
def mkP (B : Nat → Int32) (n r w : Nat) (td : Nat → Int32) (fa pl : Int32) : Nat → Int32
  | 0 => mP (!fu w td) fa pl (nI (tF B n r))
  | k + 1 => mP (cW w k (tV B n (ps B n r 1)) (tV B n (ps B n r (k + 1)))) (mkF B n r w td fa k) (mkP B n r w td fa pl k) (nI (tF B n (ps B n r (k + 1))))
def gd (B : Nat → Int32) (n r w : Nat) : Nat → Bool
  | 0 => true
  | k + 1 => gd B n r w k && cW w k (tV B n (ps B n r 1)) (tV B n (ps B n r (k + 1)))
/-- the token of a line with which no text goes on; 9: none -/
def lbr (B : Nat → Int32) (n r : Nat) : Nat → Nat → Nat
  | 0, k => if tK B n (ps B n r (k + 1)) = 3 then 9 else k + 1
  | d + 1, k => if tK B n (ps B n r (k + 1)) = 2 then lbr B n r d (k + 1) else k + 1
noncomputable def lb (B : Nat → Int32) (n r o : Nat) : Nat := if wOf B n r o = 20 then 0 else lbr B n r (nW (wOf B n r o)) 0
def gr (a b : Int32) : Int32 := if b < a then a else b
/-- what a line tells -/
def lD (w : Nat) (g : Bool) (a b c : Int32) (td : Nat → Int32) : Nat → Int32 :=
  if w = 0 then (if td 0 = 9 then td else upd (upd td 0 (td 0 + 1)) (Int32.toNatClampNeg (7 + td 0)) a)
  else if w = 1 then upd td 2 (td 2 ||| (if g = true then 1 <<< (a &&& 31) else 0))
  else if w = 2 then upd td 3 (td 3 ||| (if g = true then 1 <<< (a &&& 31) else 0))
  else if w = 3 then upd td 5 a
  else if w = 4 then upd td 6 a
  else if w = 5 then (if g = true then upd (upd td (Int32.toNatClampNeg ((51 + 9 * a) + b)) c) (Int32.toNatClampNeg ((51 + 9 * b) + a)) c else td)
  else if w = 6 then (if td 4 = 4 then td else upd (upd (upd td 4 (td 4 + 1)) (Int32.toNatClampNeg (43 + 2 * td 4)) a) (Int32.toNatClampNeg (43 + 2 * td 4 + 1)) b)
  else if w = 7 then (if g = true then upd td (Int32.toNatClampNeg (16 + a)) b else td)
  else if w = 8 then (if td 1 = 6 then td else upd (upd (upd td 1 (td 1 + 1)) (Int32.toNatClampNeg (25 + td 1)) a) (Int32.toNatClampNeg (31 + td 1)) b)
  else if w = 9 then (if g = true then upd td (Int32.toNatClampNeg (37 + a)) (td (Int32.toNatClampNeg (37 + a)) ||| 1 <<< (b &&& 31)) else td)
  else if w < 16 then (if td 0 = 40 then td else upd (upd (upd (upd td 0 (td 0 + 1)) (Int32.toNatClampNeg ((1 + 3 * td 0) + 0)) (nI (w - 10))) (Int32.toNatClampNeg ((1 + 3 * td 0) + 1)) a) (Int32.toNatClampNeg ((1 + 3 * td 0) + 2)) (if w < 14 then b else -1))
  else if w < 18 then (if td 0 = 10 then td else upd (upd (upd (upd td 0 (td 0 + 1)) (Int32.toNatClampNeg ((1 + 3 * td 0) + 0)) (if w = 16 then 1 else 0)) (Int32.toNatClampNeg ((1 + 3 * td 0) + 1)) a) (Int32.toNatClampNeg ((1 + 3 * td 0) + 2)) b)
  else if w = 18 then (if td 0 = 9 then td else upd (upd (upd td 0 (td 0 + 1)) (Int32.toNatClampNeg ((1 + 2 * td 0) + 0)) a) (Int32.toNatClampNeg ((1 + 2 * td 0) + 1)) b)
  else upd td 19 a
def lH (w : Nat) (a b fh : Int32) : Int32 := if w = 5 ∨ w = 6 then gr (gr fh a) b else if w = 1 ∨ w = 2 ∨ w = 7 ∨ w = 8 then gr fh a else fh
def lS (w : Nat) (a fs : Int32) : Int32 := if w = 9 then gr fs a else fs
/-- the end of a text -/
def fin4 (o n : Nat) (fa pl : Int32) (td : Nat → Int32) (fh fs : Int32) : Int32 × Int32 × (Nat → Int32) :=
  if fa = 0 ∧ o = 0 ∧ (td 0 ≤ fh ∨ td 1 ≤ fs) then (4, nI n, td) else (fa, pl, td)
noncomputable def go (B : Nat → Int32) (n o : Nat) : Nat → Nat → Int32 → Int32 → (Nat → Int32) → Int32 → Int32 → Int32 × Int32 × (Nat → Int32)
  | 0, _, fa, pl, td, _, _ => (fa, pl, td)
  | m + 1, r, fa, pl, td, fh, fs =>
    if tK B n r = 0 then fin4 o n fa pl td fh fs
    else if lb B n r o = 9 then go B n o m (ps B n r (nW (wOf B n r o) + 2)) (mkF B n r (wOf B n r o) td fa (nW (wOf B n r o))) (mkP B n r (wOf B n r o) td fa pl (nW (wOf B n r o))) (lD (wOf B n r o) (gd B n r (wOf B n r o) (nW (wOf B n r o))) (tV B n (ps B n r 1)) (tV B n (ps B n r 2)) (tV B n (ps B n r 3)) td) (lH (wOf B n r o) (tV B n (ps B n r 1)) (tV B n (ps B n r 2)) fh) (lS (wOf B n r o) (tV B n (ps B n r 1)) fs)
    else (1, nI (tF B n (ps B n r (lb B n r o))), td)
/-- counts are within their bounds -/
def CB (o : Nat) (td : Nat → Int32) : Prop := iv 0 (if o = 0 then 9 else if o = 1 then 40 else if o = 2 then 10 else 9) (td 0) ∧ (o = 0 → iv 0 6 (td 1) ∧ iv 0 4 (td 4))
/-- the class's drafts are as the told row -/
def LDR (huts singers villages dams echoes deep slide : Int32) (heights ladders minutes echoFrom echoTo homes talls known td : Nat → Int32) : Prop :=
  huts = td 0 ∧ singers = td 1 ∧ villages = td 2 ∧ dams = td 3 ∧ echoes = td 4 ∧ deep = td 5 ∧ slide = td 6 ∧ (∀ j, j < (td 0).toNatClampNeg → heights j = td (7 + j)) ∧ (∀ j, j < 9 → ladders j = td (16 + j)) ∧ (∀ j, j < 81 → minutes j = td (51 + j)) ∧ (∀ j, j < (td 4).toNatClampNeg → echoFrom j = td (43 + 2 * j) ∧ echoTo j = td (44 + 2 * j)) ∧ (∀ j, j < (td 1).toNatClampNeg → homes j = td (25 + j) ∧ talls j = td (31 + j)) ∧ (∀ j, j < 6 → known j = td (37 + j))
def R3 (c : Int32) (a b d td : Nat → Int32) : Prop := c = td 0 ∧ ∀ j, j < (td 0).toNatClampNeg → a j = td (1 + 3 * j) ∧ b j = td (2 + 3 * j) ∧ d j = td (3 + 3 * j)
def CDR (voices step : Int32) (parts heights td : Nat → Int32) : Prop := voices = td 0 ∧ step = td 19 ∧ ∀ j, j < (td 0).toNatClampNeg → parts j = td (1 + 2 * j) ∧ heights j = td (2 + 2 * j)
def HB (h g : Int32) : Prop := ∀ k : Nat, k ≤ 9 → (h >>> (nI k &&& 31) = 0 ↔ g < nI k)
theorem HB_0 : HB 0 (-1) := by
  intro k hk
  have : ∀ k, k ≤ 9 → ((0 : Int32) >>> (nI k &&& 31) = 0 ↔ (-1 : Int32) < nI k) := by decide +kernel
  exact this k hk
theorem sh_tab : ∀ i, i ≤ 8 → ∀ k, k ≤ 9 → (((1 : Int32) <<< (nI i &&& 31)) >>> (nI k &&& 31) = 0 ↔ nI i < nI k) := by decide +kernel
theorem or_z {x y : Int32} : x ||| y = 0 ↔ x = 0 ∧ y = 0 := by
  constructor
  · intro h
    have h1 : x.toBitVec ||| y.toBitVec = 0#32 := by
      have := congrArg Int32.toBitVec h
      rw [Int32.toBitVec_or] at this
      exact this
    have hx : x.toBitVec = 0#32 := by
      apply BitVec.eq_of_getLsbD_eq
      intro i hi
      have h2 := congrArg (fun b => b.getLsbD i) h1
      simp only [BitVec.getLsbD_or, BitVec.getLsbD_zero, Bool.or_eq_false_iff] at h2
      rw [h2.1, BitVec.getLsbD_zero]
    have hy : y.toBitVec = 0#32 := by
      apply BitVec.eq_of_getLsbD_eq
      intro i hi
      have h2 := congrArg (fun b => b.getLsbD i) h1
      simp only [BitVec.getLsbD_or, BitVec.getLsbD_zero, Bool.or_eq_false_iff] at h2
      rw [h2.2, BitVec.getLsbD_zero]
    exact ⟨Int32.toBitVec_inj.mp hx, Int32.toBitVec_inj.mp hy⟩
  · rintro ⟨rfl, rfl⟩; rfl
theorem shr_or (x y s : Int32) : (x ||| y) >>> s = (x >>> s) ||| (y >>> s) := by
  apply Int32.toBitVec_inj.mp
  simp only [Int32.toBitVec_or, Int32.toBitVec_shiftRight]
  apply BitVec.eq_of_getLsbD_eq
  intro i hi
  simp only [BitVec.sshiftRight_eq', BitVec.getLsbD_sshiftRight, BitVec.getLsbD_or, BitVec.msb_or]
  split <;> simp_all <;> exact Bool.and_or_distrib_left _ _ _
theorem gr_lt {g a k : Int32} : gr g a < k ↔ g < k ∧ a < k := by
  unfold gr
  by_cases h : a < g
  · rw [if_pos h]
    exact ⟨fun h2 => ⟨h2, Int32.lt_trans h h2⟩, fun h2 => h2.1⟩
  · rw [if_neg h]
    exact ⟨fun h2 => ⟨Int32.lt_of_le_of_lt (Int32.not_lt.mp h) h2, h2⟩, fun h2 => h2.2⟩
theorem HB_or {h g a : Int32} (hh : HB h g) (ha : iv 0 8 a) : HB (h ||| (1 <<< (a &&& 31))) (gr g a) := by
  obtain ⟨i, rfl, -, hi, -⟩ := iv_nI ha (by decide)
  intro k hk
  rw [shr_or, or_z, gr_lt, hh k hk, sh_tab i (by omega) k hk]
theorem or_assoc3 (x y z : Int32) : x ||| (y ||| z) = x ||| y ||| z := by
  apply Int32.toBitVec_inj.mp
  simp only [Int32.toBitVec_or]
  exact (BitVec.or_assoc _ _ _).symm
theorem HB_or2 {h g a b : Int32} (hh : HB h g) (ha : iv 0 8 a) (hb : iv 0 8 b) : HB (h ||| ((1 <<< (a &&& 31)) ||| (1 <<< (b &&& 31)))) (gr (gr g a) b) := by
  rw [or_assoc3]
  exact HB_or (HB_or hh ha) hb
end
section
def DR (o : Nat) (lf_huts : Int32) (lf_singers : Int32) (lf_villages : Int32) (lf_dams : Int32) (lf_echoes : Int32) (lf_deep : Int32) (lf_slide : Int32) (la_heights : Nat → Int32) (la_ladders : Nat → Int32) (la_minutes : Nat → Int32) (la_echoFrom : Nat → Int32) (la_echoTo : Nat → Int32) (la_homes : Nat → Int32) (la_talls : Nat → Int32) (la_known : Nat → Int32) (vf_deeds : Int32) (va_kinds : Nat → Int32) (va_firsts : Nat → Int32) (va_seconds : Nat → Int32) (sf_facts : Int32) (sa_heard : Nat → Int32) (sa_huts : Nat → Int32) (sa_minutes : Nat → Int32) (cf_voices : Int32) (cf_step : Int32) (ca_parts : Nat → Int32) (ca_heights : Nat → Int32) (h s : Int32) (td : Nat → Int32) (fh fs : Int32) : Prop := (o = 0 → LDR lf_huts lf_singers lf_villages lf_dams lf_echoes lf_deep lf_slide la_heights la_ladders la_minutes la_echoFrom la_echoTo la_homes la_talls la_known td ∧ HB h fh ∧ HB s fs) ∧ (o = 1 → R3 vf_deeds va_kinds va_firsts va_seconds td) ∧ (o = 2 → R3 sf_facts sa_heard sa_huts sa_minutes td) ∧ (o = 3 → CDR cf_voices cf_step ca_parts ca_heights td)
theorem DR0 {lf_huts lf_singers lf_villages lf_dams lf_echoes lf_deep lf_slide vf_deeds sf_facts cf_voices cf_step : Int32} {la_heights la_ladders la_minutes la_echoFrom la_echoTo la_homes la_talls la_known va_kinds va_firsts va_seconds sa_heard sa_huts sa_minutes ca_parts ca_heights : Nat → Int32} {h s fh fs : Int32} {td : Nat → Int32} (hl : LDR lf_huts lf_singers lf_villages lf_dams lf_echoes lf_deep lf_slide la_heights la_ladders la_minutes la_echoFrom la_echoTo la_homes la_talls la_known td) (hh : HB h fh) (hs : HB s fs) : DR 0 lf_huts lf_singers lf_villages lf_dams lf_echoes lf_deep lf_slide la_heights la_ladders la_minutes la_echoFrom la_echoTo la_homes la_talls la_known vf_deeds va_kinds va_firsts va_seconds sf_facts sa_heard sa_huts sa_minutes cf_voices cf_step ca_parts ca_heights h s td fh fs := ⟨fun _ => ⟨hl, hh, hs⟩, fun h => absurd h (by decide), fun h => absurd h (by decide), fun h => absurd h (by decide)⟩
theorem DR1 {lf_huts lf_singers lf_villages lf_dams lf_echoes lf_deep lf_slide vf_deeds sf_facts cf_voices cf_step : Int32} {la_heights la_ladders la_minutes la_echoFrom la_echoTo la_homes la_talls la_known va_kinds va_firsts va_seconds sa_heard sa_huts sa_minutes ca_parts ca_heights : Nat → Int32} {h s fh fs : Int32} {td : Nat → Int32} (hl : R3 vf_deeds va_kinds va_firsts va_seconds td) : DR 1 lf_huts lf_singers lf_villages lf_dams lf_echoes lf_deep lf_slide la_heights la_ladders la_minutes la_echoFrom la_echoTo la_homes la_talls la_known vf_deeds va_kinds va_firsts va_seconds sf_facts sa_heard sa_huts sa_minutes cf_voices cf_step ca_parts ca_heights h s td fh fs := ⟨fun h => absurd h (by decide), fun _ => hl, fun h => absurd h (by decide), fun h => absurd h (by decide)⟩
theorem DR2 {lf_huts lf_singers lf_villages lf_dams lf_echoes lf_deep lf_slide vf_deeds sf_facts cf_voices cf_step : Int32} {la_heights la_ladders la_minutes la_echoFrom la_echoTo la_homes la_talls la_known va_kinds va_firsts va_seconds sa_heard sa_huts sa_minutes ca_parts ca_heights : Nat → Int32} {h s fh fs : Int32} {td : Nat → Int32} (hl : R3 sf_facts sa_heard sa_huts sa_minutes td) : DR 2 lf_huts lf_singers lf_villages lf_dams lf_echoes lf_deep lf_slide la_heights la_ladders la_minutes la_echoFrom la_echoTo la_homes la_talls la_known vf_deeds va_kinds va_firsts va_seconds sf_facts sa_heard sa_huts sa_minutes cf_voices cf_step ca_parts ca_heights h s td fh fs := ⟨fun h => absurd h (by decide), fun h => absurd h (by decide), fun _ => hl, fun h => absurd h (by decide)⟩
theorem DR3 {lf_huts lf_singers lf_villages lf_dams lf_echoes lf_deep lf_slide vf_deeds sf_facts cf_voices cf_step : Int32} {la_heights la_ladders la_minutes la_echoFrom la_echoTo la_homes la_talls la_known va_kinds va_firsts va_seconds sa_heard sa_huts sa_minutes ca_parts ca_heights : Nat → Int32} {h s fh fs : Int32} {td : Nat → Int32} (hl : CDR cf_voices cf_step ca_parts ca_heights td) : DR 3 lf_huts lf_singers lf_villages lf_dams lf_echoes lf_deep lf_slide la_heights la_ladders la_minutes la_echoFrom la_echoTo la_homes la_talls la_known vf_deeds va_kinds va_firsts va_seconds sf_facts sa_heard sa_huts sa_minutes cf_voices cf_step ca_parts ca_heights h s td fh fs := ⟨fun h => absurd h (by decide), fun h => absurd h (by decide), fun h => absurd h (by decide), fun _ => hl⟩
theorem iv_cb {x : Int32} {h : Int} {m : Nat} (hx : iv 0 h x) (hm : h = m) : x.toNatClampNeg ≤ m := by
  have e : x.toNatClampNeg = x.toInt.toNat := rfl
  have := hx.2
  omega
theorem CB_n {td : Nat → Int32} (h : CB 0 td) : (td 0).toNatClampNeg ≤ 9 ∧ (td 1).toNatClampNeg ≤ 6 ∧ (td 4).toNatClampNeg ≤ 4 := ⟨iv_cb h.1 rfl, iv_cb (h.2 rfl).1 rfl, iv_cb (h.2 rfl).2 rfl⟩
theorem LDR_villages {huts singers villages dams echoes deep slide : Int32} {heights ladders minutes echoFrom echoTo homes talls known td : Nat → Int32} (v : Int32) (h : LDR huts singers villages dams echoes deep slide heights ladders minutes echoFrom echoTo homes talls known td) (b0 : (td 0).toNatClampNeg ≤ 9) (b1 : (td 1).toNatClampNeg ≤ 6) (b4 : (td 4).toNatClampNeg ≤ 4) : LDR huts singers (v) dams echoes deep slide heights ladders minutes echoFrom echoTo homes talls known (upd td 2 v) := by
  obtain ⟨e_huts, e_singers, e_villages, e_dams, e_echoes, e_deep, e_slide, e_heights, e_ladders, e_minutes, e_echo, e_home, e_known⟩ := h
  refine ⟨?_, ?_, ?_, ?_, ?_, ?_, ?_, ?_, ?_, ?_, ?_, ?_, ?_⟩
  · rw [up_n (by omega)]; exact e_huts
  · rw [up_n (by omega)]; exact e_singers
  · rw [up_s]
  · rw [up_n (by omega)]; exact e_dams
  · rw [up_n (by omega)]; exact e_echoes
  · rw [up_n (by omega)]; exact e_deep
  · rw [up_n (by omega)]; exact e_slide
  · intro j hj
    rw [up_n (by omega)] at hj
    rw [up_n (by omega)]
    exact e_heights j hj
  · intro j hj
    rw [up_n (by omega)]
    exact e_ladders j hj
  · intro j hj
    rw [up_n (by omega)]
    exact e_minutes j hj
  · intro j hj
    rw [up_n (by omega)] at hj
    rw [up_n (by omega), up_n (by omega)]
    exact e_echo j hj
  · intro j hj
    rw [up_n (by omega)] at hj
    rw [up_n (by omega), up_n (by omega)]
    exact e_home j hj
  · intro j hj
    rw [up_n (by omega)]
    exact e_known j hj
theorem LDR_dams {huts singers villages dams echoes deep slide : Int32} {heights ladders minutes echoFrom echoTo homes talls known td : Nat → Int32} (v : Int32) (h : LDR huts singers villages dams echoes deep slide heights ladders minutes echoFrom echoTo homes talls known td) (b0 : (td 0).toNatClampNeg ≤ 9) (b1 : (td 1).toNatClampNeg ≤ 6) (b4 : (td 4).toNatClampNeg ≤ 4) : LDR huts singers villages (v) echoes deep slide heights ladders minutes echoFrom echoTo homes talls known (upd td 3 v) := by
  obtain ⟨e_huts, e_singers, e_villages, e_dams, e_echoes, e_deep, e_slide, e_heights, e_ladders, e_minutes, e_echo, e_home, e_known⟩ := h
  refine ⟨?_, ?_, ?_, ?_, ?_, ?_, ?_, ?_, ?_, ?_, ?_, ?_, ?_⟩
  · rw [up_n (by omega)]; exact e_huts
  · rw [up_n (by omega)]; exact e_singers
  · rw [up_n (by omega)]; exact e_villages
  · rw [up_s]
  · rw [up_n (by omega)]; exact e_echoes
  · rw [up_n (by omega)]; exact e_deep
  · rw [up_n (by omega)]; exact e_slide
  · intro j hj
    rw [up_n (by omega)] at hj
    rw [up_n (by omega)]
    exact e_heights j hj
  · intro j hj
    rw [up_n (by omega)]
    exact e_ladders j hj
  · intro j hj
    rw [up_n (by omega)]
    exact e_minutes j hj
  · intro j hj
    rw [up_n (by omega)] at hj
    rw [up_n (by omega), up_n (by omega)]
    exact e_echo j hj
  · intro j hj
    rw [up_n (by omega)] at hj
    rw [up_n (by omega), up_n (by omega)]
    exact e_home j hj
  · intro j hj
    rw [up_n (by omega)]
    exact e_known j hj
theorem LDR_deep {huts singers villages dams echoes deep slide : Int32} {heights ladders minutes echoFrom echoTo homes talls known td : Nat → Int32} (v : Int32) (h : LDR huts singers villages dams echoes deep slide heights ladders minutes echoFrom echoTo homes talls known td) (b0 : (td 0).toNatClampNeg ≤ 9) (b1 : (td 1).toNatClampNeg ≤ 6) (b4 : (td 4).toNatClampNeg ≤ 4) : LDR huts singers villages dams echoes (v) slide heights ladders minutes echoFrom echoTo homes talls known (upd td 5 v) := by
  obtain ⟨e_huts, e_singers, e_villages, e_dams, e_echoes, e_deep, e_slide, e_heights, e_ladders, e_minutes, e_echo, e_home, e_known⟩ := h
  refine ⟨?_, ?_, ?_, ?_, ?_, ?_, ?_, ?_, ?_, ?_, ?_, ?_, ?_⟩
  · rw [up_n (by omega)]; exact e_huts
  · rw [up_n (by omega)]; exact e_singers
  · rw [up_n (by omega)]; exact e_villages
  · rw [up_n (by omega)]; exact e_dams
  · rw [up_n (by omega)]; exact e_echoes
  · rw [up_s]
  · rw [up_n (by omega)]; exact e_slide
  · intro j hj
    rw [up_n (by omega)] at hj
    rw [up_n (by omega)]
    exact e_heights j hj
  · intro j hj
    rw [up_n (by omega)]
    exact e_ladders j hj
  · intro j hj
    rw [up_n (by omega)]
    exact e_minutes j hj
  · intro j hj
    rw [up_n (by omega)] at hj
    rw [up_n (by omega), up_n (by omega)]
    exact e_echo j hj
  · intro j hj
    rw [up_n (by omega)] at hj
    rw [up_n (by omega), up_n (by omega)]
    exact e_home j hj
  · intro j hj
    rw [up_n (by omega)]
    exact e_known j hj
theorem LDR_slide {huts singers villages dams echoes deep slide : Int32} {heights ladders minutes echoFrom echoTo homes talls known td : Nat → Int32} (v : Int32) (h : LDR huts singers villages dams echoes deep slide heights ladders minutes echoFrom echoTo homes talls known td) (b0 : (td 0).toNatClampNeg ≤ 9) (b1 : (td 1).toNatClampNeg ≤ 6) (b4 : (td 4).toNatClampNeg ≤ 4) : LDR huts singers villages dams echoes deep (v) heights ladders minutes echoFrom echoTo homes talls known (upd td 6 v) := by
  obtain ⟨e_huts, e_singers, e_villages, e_dams, e_echoes, e_deep, e_slide, e_heights, e_ladders, e_minutes, e_echo, e_home, e_known⟩ := h
  refine ⟨?_, ?_, ?_, ?_, ?_, ?_, ?_, ?_, ?_, ?_, ?_, ?_, ?_⟩
  · rw [up_n (by omega)]; exact e_huts
  · rw [up_n (by omega)]; exact e_singers
  · rw [up_n (by omega)]; exact e_villages
  · rw [up_n (by omega)]; exact e_dams
  · rw [up_n (by omega)]; exact e_echoes
  · rw [up_n (by omega)]; exact e_deep
  · rw [up_s]
  · intro j hj
    rw [up_n (by omega)] at hj
    rw [up_n (by omega)]
    exact e_heights j hj
  · intro j hj
    rw [up_n (by omega)]
    exact e_ladders j hj
  · intro j hj
    rw [up_n (by omega)]
    exact e_minutes j hj
  · intro j hj
    rw [up_n (by omega)] at hj
    rw [up_n (by omega), up_n (by omega)]
    exact e_echo j hj
  · intro j hj
    rw [up_n (by omega)] at hj
    rw [up_n (by omega), up_n (by omega)]
    exact e_home j hj
  · intro j hj
    rw [up_n (by omega)]
    exact e_known j hj
theorem LDR_hut {huts singers villages dams echoes deep slide : Int32} {heights ladders minutes echoFrom echoTo homes talls known td : Nat → Int32} {k : Nat} (v : Int32) (hk : td 0 = nI k) (hk9 : k < 9) (h : LDR huts singers villages dams echoes deep slide heights ladders minutes echoFrom echoTo homes talls known td) (b0 : (td 0).toNatClampNeg ≤ 9) (b1 : (td 1).toNatClampNeg ≤ 6) (b4 : (td 4).toNatClampNeg ≤ 4) : LDR (nI (k + 1)) singers villages dams echoes deep slide (upd heights k v) ladders minutes echoFrom echoTo homes talls known (upd (upd td 0 (nI (k + 1))) (7 + k) v) := by
  obtain ⟨e_huts, e_singers, e_villages, e_dams, e_echoes, e_deep, e_slide, e_heights, e_ladders, e_minutes, e_echo, e_home, e_known⟩ := h
  refine ⟨?_, ?_, ?_, ?_, ?_, ?_, ?_, ?_, ?_, ?_, ?_, ?_, ?_⟩
  · rw [up_n (by omega), up_s]
  · rw [up_n (by omega), up_n (by omega)]; exact e_singers
  · rw [up_n (by omega), up_n (by omega)]; exact e_villages
  · rw [up_n (by omega), up_n (by omega)]; exact e_dams
  · rw [up_n (by omega), up_n (by omega)]; exact e_echoes
  · rw [up_n (by omega), up_n (by omega)]; exact e_deep
  · rw [up_n (by omega), up_n (by omega)]; exact e_slide
  · intro j hj
    rw [up_n (by omega), up_s, nI_clamp (by omega)] at hj
    by_cases hjk : j = k
    · subst hjk; rw [up_s, up_s]
    · rw [up_n hjk, up_n (by omega), up_n (by omega)]
      exact e_heights j (by rw [hk, nI_clamp (by omega)]; omega)
  · intro j hj
    rw [up_n (by omega), up_n (by omega)]
    exact e_ladders j hj
  · intro j hj
    rw [up_n (by omega), up_n (by omega)]
    exact e_minutes j hj
  · intro j hj
    rw [up_n (by omega), up_n (by omega)] at hj
    rw [up_n (by omega), up_n (by omega), up_n (by omega), up_n (by omega)]
    exact e_echo j hj
  · intro j hj
    rw [up_n (by omega), up_n (by omega)] at hj
    rw [up_n (by omega), up_n (by omega), up_n (by omega), up_n (by omega)]
    exact e_home j hj
  · intro j hj
    rw [up_n (by omega), up_n (by omega)]
    exact e_known j hj
theorem LDR_lad {huts singers villages dams echoes deep slide : Int32} {heights ladders minutes echoFrom echoTo homes talls known td : Nat → Int32} {i : Nat} (v : Int32) (hi : i < 9) (h : LDR huts singers villages dams echoes deep slide heights ladders minutes echoFrom echoTo homes talls known td) (b0 : (td 0).toNatClampNeg ≤ 9) (b1 : (td 1).toNatClampNeg ≤ 6) (b4 : (td 4).toNatClampNeg ≤ 4) : LDR huts singers villages dams echoes deep slide heights (upd ladders i v) minutes echoFrom echoTo homes talls known (upd td (16 + i) v) := by
  obtain ⟨e_huts, e_singers, e_villages, e_dams, e_echoes, e_deep, e_slide, e_heights, e_ladders, e_minutes, e_echo, e_home, e_known⟩ := h
  refine ⟨?_, ?_, ?_, ?_, ?_, ?_, ?_, ?_, ?_, ?_, ?_, ?_, ?_⟩
  · rw [up_n (by omega)]; exact e_huts
  · rw [up_n (by omega)]; exact e_singers
  · rw [up_n (by omega)]; exact e_villages
  · rw [up_n (by omega)]; exact e_dams
  · rw [up_n (by omega)]; exact e_echoes
  · rw [up_n (by omega)]; exact e_deep
  · rw [up_n (by omega)]; exact e_slide
  · intro j hj
    rw [up_n (by omega)] at hj
    rw [up_n (by omega)]
    exact e_heights j hj
  · intro j hj
    by_cases hji : j = i
    · subst hji; rw [up_s, up_s]
    · rw [up_n hji, up_n (by omega)]
      exact e_ladders j hj
  · intro j hj
    rw [up_n (by omega)]
    exact e_minutes j hj
  · intro j hj
    rw [up_n (by omega)] at hj
    rw [up_n (by omega), up_n (by omega)]
    exact e_echo j hj
  · intro j hj
    rw [up_n (by omega)] at hj
    rw [up_n (by omega), up_n (by omega)]
    exact e_home j hj
  · intro j hj
    rw [up_n (by omega)]
    exact e_known j hj
theorem LDR_way {huts singers villages dams echoes deep slide : Int32} {heights ladders minutes echoFrom echoTo homes talls known td : Nat → Int32} {i : Nat} (v : Int32) (hi : i < 81) (h : LDR huts singers villages dams echoes deep slide heights ladders minutes echoFrom echoTo homes talls known td) (b0 : (td 0).toNatClampNeg ≤ 9) (b1 : (td 1).toNatClampNeg ≤ 6) (b4 : (td 4).toNatClampNeg ≤ 4) : LDR huts singers villages dams echoes deep slide heights ladders (upd minutes i v) echoFrom echoTo homes talls known (upd td (51 + i) v) := by
  obtain ⟨e_huts, e_singers, e_villages, e_dams, e_echoes, e_deep, e_slide, e_heights, e_ladders, e_minutes, e_echo, e_home, e_known⟩ := h
  refine ⟨?_, ?_, ?_, ?_, ?_, ?_, ?_, ?_, ?_, ?_, ?_, ?_, ?_⟩
  · rw [up_n (by omega)]; exact e_huts
  · rw [up_n (by omega)]; exact e_singers
  · rw [up_n (by omega)]; exact e_villages
  · rw [up_n (by omega)]; exact e_dams
  · rw [up_n (by omega)]; exact e_echoes
  · rw [up_n (by omega)]; exact e_deep
  · rw [up_n (by omega)]; exact e_slide
  · intro j hj
    rw [up_n (by omega)] at hj
    rw [up_n (by omega)]
    exact e_heights j hj
  · intro j hj
    rw [up_n (by omega)]
    exact e_ladders j hj
  · intro j hj
    by_cases hji : j = i
    · subst hji; rw [up_s, up_s]
    · rw [up_n hji, up_n (by omega)]
      exact e_minutes j hj
  · intro j hj
    rw [up_n (by omega)] at hj
    rw [up_n (by omega), up_n (by omega)]
    exact e_echo j hj
  · intro j hj
    rw [up_n (by omega)] at hj
    rw [up_n (by omega), up_n (by omega)]
    exact e_home j hj
  · intro j hj
    rw [up_n (by omega)]
    exact e_known j hj
theorem LDR_kno {huts singers villages dams echoes deep slide : Int32} {heights ladders minutes echoFrom echoTo homes talls known td : Nat → Int32} {i : Nat} (v : Int32) (hi : i < 6) (h : LDR huts singers villages dams echoes deep slide heights ladders minutes echoFrom echoTo homes talls known td) (b0 : (td 0).toNatClampNeg ≤ 9) (b1 : (td 1).toNatClampNeg ≤ 6) (b4 : (td 4).toNatClampNeg ≤ 4) : LDR huts singers villages dams echoes deep slide heights ladders minutes echoFrom echoTo homes talls (upd known i v) (upd td (37 + i) v) := by
  obtain ⟨e_huts, e_singers, e_villages, e_dams, e_echoes, e_deep, e_slide, e_heights, e_ladders, e_minutes, e_echo, e_home, e_known⟩ := h
  refine ⟨?_, ?_, ?_, ?_, ?_, ?_, ?_, ?_, ?_, ?_, ?_, ?_, ?_⟩
  · rw [up_n (by omega)]; exact e_huts
  · rw [up_n (by omega)]; exact e_singers
  · rw [up_n (by omega)]; exact e_villages
  · rw [up_n (by omega)]; exact e_dams
  · rw [up_n (by omega)]; exact e_echoes
  · rw [up_n (by omega)]; exact e_deep
  · rw [up_n (by omega)]; exact e_slide
  · intro j hj
    rw [up_n (by omega)] at hj
    rw [up_n (by omega)]
    exact e_heights j hj
  · intro j hj
    rw [up_n (by omega)]
    exact e_ladders j hj
  · intro j hj
    rw [up_n (by omega)]
    exact e_minutes j hj
  · intro j hj
    rw [up_n (by omega)] at hj
    rw [up_n (by omega), up_n (by omega)]
    exact e_echo j hj
  · intro j hj
    rw [up_n (by omega)] at hj
    rw [up_n (by omega), up_n (by omega)]
    exact e_home j hj
  · intro j hj
    by_cases hji : j = i
    · subst hji; rw [up_s, up_s]
    · rw [up_n hji, up_n (by omega)]
      exact e_known j hj
theorem LDR_ech {huts singers villages dams echoes deep slide : Int32} {heights ladders minutes echoFrom echoTo homes talls known td : Nat → Int32} {k : Nat} (v w : Int32) (hk : td 4 = nI k) (hk9 : k < 4) (h : LDR huts singers villages dams echoes deep slide heights ladders minutes echoFrom echoTo homes talls known td) (b0 : (td 0).toNatClampNeg ≤ 9) (b1 : (td 1).toNatClampNeg ≤ 6) (b4 : (td 4).toNatClampNeg ≤ 4) : LDR huts singers villages dams (nI (k + 1)) deep slide heights ladders minutes (upd echoFrom k v) (upd echoTo k w) homes talls known (upd (upd (upd td 4 (nI (k + 1))) (43 + 2 * k) v) (44 + 2 * k) w) := by
  obtain ⟨e_huts, e_singers, e_villages, e_dams, e_echoes, e_deep, e_slide, e_heights, e_ladders, e_minutes, e_echo, e_home, e_known⟩ := h
  refine ⟨?_, ?_, ?_, ?_, ?_, ?_, ?_, ?_, ?_, ?_, ?_, ?_, ?_⟩
  · rw [up_n (by omega), up_n (by omega), up_n (by omega)]; exact e_huts
  · rw [up_n (by omega), up_n (by omega), up_n (by omega)]; exact e_singers
  · rw [up_n (by omega), up_n (by omega), up_n (by omega)]; exact e_villages
  · rw [up_n (by omega), up_n (by omega), up_n (by omega)]; exact e_dams
  · rw [up_n (by omega), up_n (by omega), up_s]
  · rw [up_n (by omega), up_n (by omega), up_n (by omega)]; exact e_deep
  · rw [up_n (by omega), up_n (by omega), up_n (by omega)]; exact e_slide
  · intro j hj
    rw [up_n (by omega), up_n (by omega), up_n (by omega)] at hj
    rw [up_n (by omega), up_n (by omega), up_n (by omega)]
    exact e_heights j hj
  · intro j hj
    rw [up_n (by omega), up_n (by omega), up_n (by omega)]
    exact e_ladders j hj
  · intro j hj
    rw [up_n (by omega), up_n (by omega), up_n (by omega)]
    exact e_minutes j hj
  · intro j hj
    rw [up_n (by omega), up_n (by omega), up_s, nI_clamp (by omega)] at hj
    by_cases hjk : j = k
    · subst hjk
      refine ⟨?_, ?_⟩
      · rw [up_s, up_n (by omega), up_s]
      · rw [up_s, up_s]
    · rw [up_n hjk, up_n hjk, up_n (by omega), up_n (by omega), up_n (by omega), up_n (by omega), up_n (by omega), up_n (by omega)]
      exact e_echo j (by rw [hk, nI_clamp (by omega)]; omega)
  · intro j hj
    rw [up_n (by omega), up_n (by omega), up_n (by omega)] at hj
    rw [up_n (by omega), up_n (by omega), up_n (by omega), up_n (by omega), up_n (by omega), up_n (by omega)]
    exact e_home j hj
  · intro j hj
    rw [up_n (by omega), up_n (by omega), up_n (by omega)]
    exact e_known j hj
theorem LDR_sin {huts singers villages dams echoes deep slide : Int32} {heights ladders minutes echoFrom echoTo homes talls known td : Nat → Int32} {k : Nat} (v w : Int32) (hk : td 1 = nI k) (hk9 : k < 6) (h : LDR huts singers villages dams echoes deep slide heights ladders minutes echoFrom echoTo homes talls known td) (b0 : (td 0).toNatClampNeg ≤ 9) (b1 : (td 1).toNatClampNeg ≤ 6) (b4 : (td 4).toNatClampNeg ≤ 4) : LDR huts (nI (k + 1)) villages dams echoes deep slide heights ladders minutes echoFrom echoTo (upd homes k v) (upd talls k w) known (upd (upd (upd td 1 (nI (k + 1))) (25 + k) v) (31 + k) w) := by
  obtain ⟨e_huts, e_singers, e_villages, e_dams, e_echoes, e_deep, e_slide, e_heights, e_ladders, e_minutes, e_echo, e_home, e_known⟩ := h
  refine ⟨?_, ?_, ?_, ?_, ?_, ?_, ?_, ?_, ?_, ?_, ?_, ?_, ?_⟩
  · rw [up_n (by omega), up_n (by omega), up_n (by omega)]; exact e_huts
  · rw [up_n (by omega), up_n (by omega), up_s]
  · rw [up_n (by omega), up_n (by omega), up_n (by omega)]; exact e_villages
  · rw [up_n (by omega), up_n (by omega), up_n (by omega)]; exact e_dams
  · rw [up_n (by omega), up_n (by omega), up_n (by omega)]; exact e_echoes
  · rw [up_n (by omega), up_n (by omega), up_n (by omega)]; exact e_deep
  · rw [up_n (by omega), up_n (by omega), up_n (by omega)]; exact e_slide
  · intro j hj
    rw [up_n (by omega), up_n (by omega), up_n (by omega)] at hj
    rw [up_n (by omega), up_n (by omega), up_n (by omega)]
    exact e_heights j hj
  · intro j hj
    rw [up_n (by omega), up_n (by omega), up_n (by omega)]
    exact e_ladders j hj
  · intro j hj
    rw [up_n (by omega), up_n (by omega), up_n (by omega)]
    exact e_minutes j hj
  · intro j hj
    rw [up_n (by omega), up_n (by omega), up_n (by omega)] at hj
    rw [up_n (by omega), up_n (by omega), up_n (by omega), up_n (by omega), up_n (by omega), up_n (by omega)]
    exact e_echo j hj
  · intro j hj
    rw [up_n (by omega), up_n (by omega), up_s, nI_clamp (by omega)] at hj
    by_cases hjk : j = k
    · subst hjk
      refine ⟨?_, ?_⟩
      · rw [up_s, up_n (by omega), up_s]
      · rw [up_s, up_s]
    · rw [up_n hjk, up_n hjk, up_n (by omega), up_n (by omega), up_n (by omega), up_n (by omega), up_n (by omega), up_n (by omega)]
      exact e_home j (by rw [hk, nI_clamp (by omega)]; omega)
  · intro j hj
    rw [up_n (by omega), up_n (by omega), up_n (by omega)]
    exact e_known j hj
theorem R3_add {c : Int32} {a b d td : Nat → Int32} {k : Nat} (x y z : Int32) (h : R3 c a b d td) (hk : td 0 = nI k) (hk9 : k < 41) : R3 (nI (k + 1)) (upd a k x) (upd b k y) (upd d k z) (upd (upd (upd (upd td 0 (nI (k + 1))) (1 + 3 * k) x) (2 + 3 * k) y) (3 + 3 * k) z) := by
  refine ⟨by rw [up_n (by omega), up_n (by omega), up_n (by omega), up_s], fun j hj => ?_⟩
  rw [up_n (by omega), up_n (by omega), up_n (by omega), up_s, nI_clamp (by omega)] at hj
  by_cases hjk : j = k
  · subst hjk
    refine ⟨?_, ?_, ?_⟩
    · rw [up_s, up_n (by omega), up_n (by omega), up_s]
    · rw [up_s, up_n (by omega), up_s]
    · rw [up_s, up_s]
  · rw [up_n hjk, up_n hjk, up_n hjk]
    have g := h.2 j (by rw [hk, nI_clamp (by omega)]; omega)
    refine ⟨?_, ?_, ?_⟩
    · rw [up_n (by omega), up_n (by omega), up_n (by omega), up_n (by omega)]; exact g.1
    · rw [up_n (by omega), up_n (by omega), up_n (by omega), up_n (by omega)]; exact g.2.1
    · rw [up_n (by omega), up_n (by omega), up_n (by omega), up_n (by omega)]; exact g.2.2
theorem CDR_add {c st : Int32} {a b td : Nat → Int32} {k : Nat} (x y : Int32) (h : CDR c st a b td) (hk : td 0 = nI k) (hk9 : k < 9) : CDR (nI (k + 1)) st (upd a k x) (upd b k y) (upd (upd (upd td 0 (nI (k + 1))) (1 + 2 * k) x) (2 + 2 * k) y) := by
  refine ⟨by rw [up_n (by omega), up_n (by omega), up_s], by rw [up_n (by omega), up_n (by omega), up_n (by omega)]; exact h.2.1, fun j hj => ?_⟩
  rw [up_n (by omega), up_n (by omega), up_s, nI_clamp (by omega)] at hj
  by_cases hjk : j = k
  · subst hjk
    refine ⟨?_, ?_⟩
    · rw [up_s, up_n (by omega), up_s]
    · rw [up_s, up_s]
  · rw [up_n hjk, up_n hjk]
    have g := h.2.2 j (by rw [hk, nI_clamp (by omega)]; omega)
    refine ⟨?_, ?_⟩
    · rw [up_n (by omega), up_n (by omega), up_n (by omega)]; exact g.1
    · rw [up_n (by omega), up_n (by omega), up_n (by omega)]; exact g.2
theorem CDR_step {c st : Int32} {a b td : Nat → Int32} (x : Int32) (h : CDR c st a b td) (b0 : (td 0).toNatClampNeg ≤ 9) : CDR c x a b (upd td 19 x) := by
  refine ⟨by rw [up_n (by omega)]; exact h.1, by rw [up_s], fun j hj => ?_⟩
  rw [up_n (by omega)] at hj
  rw [up_n (by omega), up_n (by omega)]
  exact h.2.2 j hj
theorem cW_iv {w k : Nat} {a v : Int32} (h : cW w k a v = true) : iv (tbf_2 (w * 3 + k)).toInt (tbf_3 (w * 3 + k)).toInt v := by
  have g := of_decide_eq_true h
  exact ⟨r_le g.1, r_le g.2.1⟩
theorem ix9 (a b : Nat) : ((51 : Int32) + 9 * nI a) + nI b = nI (51 + 9 * a + b) := by
  rw [show (51 : Int32) = nI 51 from rfl, show (9 : Int32) = nI 9 from rfl, pk_mul, nI_add, nI_add]
theorem jx9 (a b : Nat) : (nI a * 9) + nI b = nI (a * 9 + b) := by
  rw [show (9 : Int32) = nI 9 from rfl, pk_mul, nI_add]
theorem jx (c k : Nat) : nI c + nI k = nI (c + k) := nI_add c k
theorem jx2 (c m k i : Nat) : (nI c + nI m * nI k) + nI i = nI (c + m * k + i) := by
  rw [pk_mul, nI_add, nI_add]
set_option maxRecDepth 20000 in
theorem e_tell_0 {lf_huts lf_singers lf_villages lf_dams lf_echoes lf_deep lf_slide vf_deeds sf_facts cf_voices cf_step : Int32} {la_heights la_ladders la_minutes la_echoFrom la_echoTo la_homes la_talls la_known va_kinds va_firsts va_seconds sa_heard sa_huts sa_minutes ca_parts ca_heights : Nat → Int32} {nums td : Nat → Int32} {h s fh fs a b c : Int32} {post : (Int32) → (Int32) → (Int32) → (Int32) → (Int32) → (Int32) → (Int32) → (Nat → Int32) → (Nat → Int32) → (Nat → Int32) → (Nat → Int32) → (Nat → Int32) → (Nat → Int32) → (Nat → Int32) → (Nat → Int32) → (Int32) → (Nat → Int32) → (Nat → Int32) → (Nat → Int32) → (Int32) → (Nat → Int32) → (Nat → Int32) → (Nat → Int32) → (Int32) → (Int32) → (Nat → Int32) → (Nat → Int32) → Int32 → Int32 → Prop} (hC : CB 0 td) (hf : fu 0 td = false) (n0 : nums 0 = a) (c0 : cW 0 0 a a = true) (hD : DR 0 lf_huts lf_singers lf_villages lf_dams lf_echoes lf_deep lf_slide la_heights la_ladders la_minutes la_echoFrom la_echoTo la_homes la_talls la_known vf_deeds va_kinds va_firsts va_seconds sf_facts sa_heard sa_huts sa_minutes cf_voices cf_step ca_parts ca_heights h s td fh fs) (hpo : ∀ (lf_huts' : Int32) (lf_singers' : Int32) (lf_villages' : Int32) (lf_dams' : Int32) (lf_echoes' : Int32) (lf_deep' : Int32) (lf_slide' : Int32) (la_heights' : Nat → Int32) (la_ladders' : Nat → Int32) (la_minutes' : Nat → Int32) (la_echoFrom' : Nat → Int32) (la_echoTo' : Nat → Int32) (la_homes' : Nat → Int32) (la_talls' : Nat → Int32) (la_known' : Nat → Int32) (vf_deeds' : Int32) (va_kinds' : Nat → Int32) (va_firsts' : Nat → Int32) (va_seconds' : Nat → Int32) (sf_facts' : Int32) (sa_heard' : Nat → Int32) (sa_huts' : Nat → Int32) (sa_minutes' : Nat → Int32) (cf_voices' : Int32) (cf_step' : Int32) (ca_parts' : Nat → Int32) (ca_heights' : Nat → Int32) (h' s' : Int32), DR 0 lf_huts' lf_singers' lf_villages' lf_dams' lf_echoes' lf_deep' lf_slide' la_heights' la_ladders' la_minutes' la_echoFrom' la_echoTo' la_homes' la_talls' la_known' vf_deeds' va_kinds' va_firsts' va_seconds' sf_facts' sa_heard' sa_huts' sa_minutes' cf_voices' cf_step' ca_parts' ca_heights' h' s' (lD 0 true a b c td) (lH 0 a b fh) (lS 0 a fs) → post lf_huts' lf_singers' lf_villages' lf_dams' lf_echoes' lf_deep' lf_slide' la_heights' la_ladders' la_minutes' la_echoFrom' la_echoTo' la_homes' la_talls' la_known' vf_deeds' va_kinds' va_firsts' va_seconds' sf_facts' sa_heard' sa_huts' sa_minutes' cf_voices' cf_step' ca_parts' ca_heights' h' s') : q_wr_X4_tell_0 lf_huts lf_singers lf_villages lf_dams lf_echoes lf_deep lf_slide la_heights la_ladders la_minutes la_echoFrom la_echoTo la_homes la_talls la_known vf_deeds va_kinds va_firsts va_seconds sf_facts sa_heard sa_huts sa_minutes cf_voices cf_step ca_parts ca_heights nums h s (nI 0) post := by
  have ha : iv 0 99 a := iv_w (cW_iv c0) (by decide +kernel)
  obtain ⟨b0, b1, b4⟩ := CB_n hC
  obtain ⟨hL, hh, hs⟩ := hD.1 rfl
  refine ⟨fun h9 => absurd h9 (by decide +kernel), fun _ => ?_⟩
  rw [c_0, c_1, c_2, n0]
  refine ⟨fun h9 => absurd h9 (by decide +kernel), fun _ => ?_, fun h9 => absurd h9 (by decide +kernel), fun h9 => absurd h9 (by decide +kernel), fun h9 => absurd h9 (by decide +kernel), fun h9 => absurd h9 (by decide +kernel), fun h9 => absurd h9 (by decide +kernel), fun h9 => absurd h9 (by decide +kernel), fun h9 => absurd h9 (by decide +kernel), fun h9 => absurd h9 (by decide +kernel)⟩
  obtain ⟨k, hk, -, hk9, -⟩ := iv_nI hC.1 (by decide)
  have hne : ¬ td 0 = 9 := fun h9 => by
    have := of_decide_eq_false hf
    exact this (by simp [h9])
  have hk8 : k < 9 := Nat.lt_of_le_of_ne (by omega) (fun h9 => hne (by rw [hk, h9]; rfl))
  have e0 : lf_huts = nI k := hL.1.trans hk
  refine ⟨by rw [e0]; exact vp_in_nI hk8 (by omega), fun t1 e1 v e2 => ?_⟩
  rw [e0, nI_clamp (by omega)] at e1
  rw [e0, nI_1] at e2
  subst e1 e2
  refine hpo _ _ _ _ _ _ _ _ _ _ _ _ _ _ _ _ _ _ _ _ _ _ _ _ _ _ _ _ _ ?_
  have e : lD 0 true a b c td = upd (upd td 0 (nI (k + 1))) (7 + k) a := by
    show (if td 0 = 9 then td else upd (upd td 0 (td 0 + 1)) (Int32.toNatClampNeg (7 + td 0)) a) = _
    rw [if_neg hne, hk, nI_1, show (7 : Int32) = nI 7 from rfl, nI_add, nI_clamp (by omega)]
  rw [e]
  exact DR0 (LDR_hut a hk hk8 hL b0 b1 b4) hh hs
set_option maxRecDepth 20000 in
theorem e_tell_1 {lf_huts lf_singers lf_villages lf_dams lf_echoes lf_deep lf_slide vf_deeds sf_facts cf_voices cf_step : Int32} {la_heights la_ladders la_minutes la_echoFrom la_echoTo la_homes la_talls la_known va_kinds va_firsts va_seconds sa_heard sa_huts sa_minutes ca_parts ca_heights : Nat → Int32} {nums td : Nat → Int32} {h s fh fs a b c : Int32} {post : (Int32) → (Int32) → (Int32) → (Int32) → (Int32) → (Int32) → (Int32) → (Nat → Int32) → (Nat → Int32) → (Nat → Int32) → (Nat → Int32) → (Nat → Int32) → (Nat → Int32) → (Nat → Int32) → (Nat → Int32) → (Int32) → (Nat → Int32) → (Nat → Int32) → (Nat → Int32) → (Int32) → (Nat → Int32) → (Nat → Int32) → (Nat → Int32) → (Int32) → (Int32) → (Nat → Int32) → (Nat → Int32) → Int32 → Int32 → Prop} (hC : CB 0 td) (hf : fu 1 td = false) (n0 : nums 0 = a) (c0 : cW 1 0 a a = true) (hD : DR 0 lf_huts lf_singers lf_villages lf_dams lf_echoes lf_deep lf_slide la_heights la_ladders la_minutes la_echoFrom la_echoTo la_homes la_talls la_known vf_deeds va_kinds va_firsts va_seconds sf_facts sa_heard sa_huts sa_minutes cf_voices cf_step ca_parts ca_heights h s td fh fs) (hpo : ∀ (lf_huts' : Int32) (lf_singers' : Int32) (lf_villages' : Int32) (lf_dams' : Int32) (lf_echoes' : Int32) (lf_deep' : Int32) (lf_slide' : Int32) (la_heights' : Nat → Int32) (la_ladders' : Nat → Int32) (la_minutes' : Nat → Int32) (la_echoFrom' : Nat → Int32) (la_echoTo' : Nat → Int32) (la_homes' : Nat → Int32) (la_talls' : Nat → Int32) (la_known' : Nat → Int32) (vf_deeds' : Int32) (va_kinds' : Nat → Int32) (va_firsts' : Nat → Int32) (va_seconds' : Nat → Int32) (sf_facts' : Int32) (sa_heard' : Nat → Int32) (sa_huts' : Nat → Int32) (sa_minutes' : Nat → Int32) (cf_voices' : Int32) (cf_step' : Int32) (ca_parts' : Nat → Int32) (ca_heights' : Nat → Int32) (h' s' : Int32), DR 0 lf_huts' lf_singers' lf_villages' lf_dams' lf_echoes' lf_deep' lf_slide' la_heights' la_ladders' la_minutes' la_echoFrom' la_echoTo' la_homes' la_talls' la_known' vf_deeds' va_kinds' va_firsts' va_seconds' sf_facts' sa_heard' sa_huts' sa_minutes' cf_voices' cf_step' ca_parts' ca_heights' h' s' (lD 1 true a b c td) (lH 1 a b fh) (lS 1 a fs) → post lf_huts' lf_singers' lf_villages' lf_dams' lf_echoes' lf_deep' lf_slide' la_heights' la_ladders' la_minutes' la_echoFrom' la_echoTo' la_homes' la_talls' la_known' vf_deeds' va_kinds' va_firsts' va_seconds' sf_facts' sa_heard' sa_huts' sa_minutes' cf_voices' cf_step' ca_parts' ca_heights' h' s') : q_wr_X4_tell_0 lf_huts lf_singers lf_villages lf_dams lf_echoes lf_deep lf_slide la_heights la_ladders la_minutes la_echoFrom la_echoTo la_homes la_talls la_known vf_deeds va_kinds va_firsts va_seconds sf_facts sa_heard sa_huts sa_minutes cf_voices cf_step ca_parts ca_heights nums h s (nI 1) post := by
  have ha : iv 0 8 a := iv_w (cW_iv c0) (by decide +kernel)
  obtain ⟨b0, b1, b4⟩ := CB_n hC
  obtain ⟨hL, hh, hs⟩ := hD.1 rfl
  refine ⟨fun h9 => absurd h9 (by decide +kernel), fun _ => ?_⟩
  rw [c_0, c_1, c_2, n0]
  refine ⟨fun h9 => absurd h9 (by decide +kernel), fun h9 => absurd h9 (by decide +kernel), fun _ => ?_, fun h9 => absurd h9 (by decide +kernel), fun h9 => absurd h9 (by decide +kernel), fun h9 => absurd h9 (by decide +kernel), fun h9 => absurd h9 (by decide +kernel), fun h9 => absurd h9 (by decide +kernel), fun h9 => absurd h9 (by decide +kernel), fun h9 => absurd h9 (by decide +kernel)⟩
  intro v e1 v2 e2
  subst e1 e2
  refine hpo _ _ _ _ _ _ _ _ _ _ _ _ _ _ _ _ _ _ _ _ _ _ _ _ _ _ _ _ _ ?_
  rw [hL.2.2.1]
  exact DR0 (LDR_villages _ hL b0 b1 b4) (HB_or hh ha) hs
set_option maxRecDepth 20000 in
theorem e_tell_2 {lf_huts lf_singers lf_villages lf_dams lf_echoes lf_deep lf_slide vf_deeds sf_facts cf_voices cf_step : Int32} {la_heights la_ladders la_minutes la_echoFrom la_echoTo la_homes la_talls la_known va_kinds va_firsts va_seconds sa_heard sa_huts sa_minutes ca_parts ca_heights : Nat → Int32} {nums td : Nat → Int32} {h s fh fs a b c : Int32} {post : (Int32) → (Int32) → (Int32) → (Int32) → (Int32) → (Int32) → (Int32) → (Nat → Int32) → (Nat → Int32) → (Nat → Int32) → (Nat → Int32) → (Nat → Int32) → (Nat → Int32) → (Nat → Int32) → (Nat → Int32) → (Int32) → (Nat → Int32) → (Nat → Int32) → (Nat → Int32) → (Int32) → (Nat → Int32) → (Nat → Int32) → (Nat → Int32) → (Int32) → (Int32) → (Nat → Int32) → (Nat → Int32) → Int32 → Int32 → Prop} (hC : CB 0 td) (hf : fu 2 td = false) (n0 : nums 0 = a) (c0 : cW 2 0 a a = true) (hD : DR 0 lf_huts lf_singers lf_villages lf_dams lf_echoes lf_deep lf_slide la_heights la_ladders la_minutes la_echoFrom la_echoTo la_homes la_talls la_known vf_deeds va_kinds va_firsts va_seconds sf_facts sa_heard sa_huts sa_minutes cf_voices cf_step ca_parts ca_heights h s td fh fs) (hpo : ∀ (lf_huts' : Int32) (lf_singers' : Int32) (lf_villages' : Int32) (lf_dams' : Int32) (lf_echoes' : Int32) (lf_deep' : Int32) (lf_slide' : Int32) (la_heights' : Nat → Int32) (la_ladders' : Nat → Int32) (la_minutes' : Nat → Int32) (la_echoFrom' : Nat → Int32) (la_echoTo' : Nat → Int32) (la_homes' : Nat → Int32) (la_talls' : Nat → Int32) (la_known' : Nat → Int32) (vf_deeds' : Int32) (va_kinds' : Nat → Int32) (va_firsts' : Nat → Int32) (va_seconds' : Nat → Int32) (sf_facts' : Int32) (sa_heard' : Nat → Int32) (sa_huts' : Nat → Int32) (sa_minutes' : Nat → Int32) (cf_voices' : Int32) (cf_step' : Int32) (ca_parts' : Nat → Int32) (ca_heights' : Nat → Int32) (h' s' : Int32), DR 0 lf_huts' lf_singers' lf_villages' lf_dams' lf_echoes' lf_deep' lf_slide' la_heights' la_ladders' la_minutes' la_echoFrom' la_echoTo' la_homes' la_talls' la_known' vf_deeds' va_kinds' va_firsts' va_seconds' sf_facts' sa_heard' sa_huts' sa_minutes' cf_voices' cf_step' ca_parts' ca_heights' h' s' (lD 2 true a b c td) (lH 2 a b fh) (lS 2 a fs) → post lf_huts' lf_singers' lf_villages' lf_dams' lf_echoes' lf_deep' lf_slide' la_heights' la_ladders' la_minutes' la_echoFrom' la_echoTo' la_homes' la_talls' la_known' vf_deeds' va_kinds' va_firsts' va_seconds' sf_facts' sa_heard' sa_huts' sa_minutes' cf_voices' cf_step' ca_parts' ca_heights' h' s') : q_wr_X4_tell_0 lf_huts lf_singers lf_villages lf_dams lf_echoes lf_deep lf_slide la_heights la_ladders la_minutes la_echoFrom la_echoTo la_homes la_talls la_known vf_deeds va_kinds va_firsts va_seconds sf_facts sa_heard sa_huts sa_minutes cf_voices cf_step ca_parts ca_heights nums h s (nI 2) post := by
  have ha : iv 0 8 a := iv_w (cW_iv c0) (by decide +kernel)
  obtain ⟨b0, b1, b4⟩ := CB_n hC
  obtain ⟨hL, hh, hs⟩ := hD.1 rfl
  refine ⟨fun h9 => absurd h9 (by decide +kernel), fun _ => ?_⟩
  rw [c_0, c_1, c_2, n0]
  refine ⟨fun h9 => absurd h9 (by decide +kernel), fun h9 => absurd h9 (by decide +kernel), fun h9 => absurd h9 (by decide +kernel), fun _ => ?_, fun h9 => absurd h9 (by decide +kernel), fun h9 => absurd h9 (by decide +kernel), fun h9 => absurd h9 (by decide +kernel), fun h9 => absurd h9 (by decide +kernel), fun h9 => absurd h9 (by decide +kernel), fun h9 => absurd h9 (by decide +kernel)⟩
  intro v e1 v2 e2
  subst e1 e2
  refine hpo _ _ _ _ _ _ _ _ _ _ _ _ _ _ _ _ _ _ _ _ _ _ _ _ _ _ _ _ _ ?_
  rw [hL.2.2.2.1]
  exact DR0 (LDR_dams _ hL b0 b1 b4) (HB_or hh ha) hs
set_option maxRecDepth 20000 in
theorem e_tell_3 {lf_huts lf_singers lf_villages lf_dams lf_echoes lf_deep lf_slide vf_deeds sf_facts cf_voices cf_step : Int32} {la_heights la_ladders la_minutes la_echoFrom la_echoTo la_homes la_talls la_known va_kinds va_firsts va_seconds sa_heard sa_huts sa_minutes ca_parts ca_heights : Nat → Int32} {nums td : Nat → Int32} {h s fh fs a b c : Int32} {post : (Int32) → (Int32) → (Int32) → (Int32) → (Int32) → (Int32) → (Int32) → (Nat → Int32) → (Nat → Int32) → (Nat → Int32) → (Nat → Int32) → (Nat → Int32) → (Nat → Int32) → (Nat → Int32) → (Nat → Int32) → (Int32) → (Nat → Int32) → (Nat → Int32) → (Nat → Int32) → (Int32) → (Nat → Int32) → (Nat → Int32) → (Nat → Int32) → (Int32) → (Int32) → (Nat → Int32) → (Nat → Int32) → Int32 → Int32 → Prop} (hC : CB 0 td) (hf : fu 3 td = false) (n0 : nums 0 = a) (c0 : cW 3 0 a a = true) (hD : DR 0 lf_huts lf_singers lf_villages lf_dams lf_echoes lf_deep lf_slide la_heights la_ladders la_minutes la_echoFrom la_echoTo la_homes la_talls la_known vf_deeds va_kinds va_firsts va_seconds sf_facts sa_heard sa_huts sa_minutes cf_voices cf_step ca_parts ca_heights h s td fh fs) (hpo : ∀ (lf_huts' : Int32) (lf_singers' : Int32) (lf_villages' : Int32) (lf_dams' : Int32) (lf_echoes' : Int32) (lf_deep' : Int32) (lf_slide' : Int32) (la_heights' : Nat → Int32) (la_ladders' : Nat → Int32) (la_minutes' : Nat → Int32) (la_echoFrom' : Nat → Int32) (la_echoTo' : Nat → Int32) (la_homes' : Nat → Int32) (la_talls' : Nat → Int32) (la_known' : Nat → Int32) (vf_deeds' : Int32) (va_kinds' : Nat → Int32) (va_firsts' : Nat → Int32) (va_seconds' : Nat → Int32) (sf_facts' : Int32) (sa_heard' : Nat → Int32) (sa_huts' : Nat → Int32) (sa_minutes' : Nat → Int32) (cf_voices' : Int32) (cf_step' : Int32) (ca_parts' : Nat → Int32) (ca_heights' : Nat → Int32) (h' s' : Int32), DR 0 lf_huts' lf_singers' lf_villages' lf_dams' lf_echoes' lf_deep' lf_slide' la_heights' la_ladders' la_minutes' la_echoFrom' la_echoTo' la_homes' la_talls' la_known' vf_deeds' va_kinds' va_firsts' va_seconds' sf_facts' sa_heard' sa_huts' sa_minutes' cf_voices' cf_step' ca_parts' ca_heights' h' s' (lD 3 true a b c td) (lH 3 a b fh) (lS 3 a fs) → post lf_huts' lf_singers' lf_villages' lf_dams' lf_echoes' lf_deep' lf_slide' la_heights' la_ladders' la_minutes' la_echoFrom' la_echoTo' la_homes' la_talls' la_known' vf_deeds' va_kinds' va_firsts' va_seconds' sf_facts' sa_heard' sa_huts' sa_minutes' cf_voices' cf_step' ca_parts' ca_heights' h' s') : q_wr_X4_tell_0 lf_huts lf_singers lf_villages lf_dams lf_echoes lf_deep lf_slide la_heights la_ladders la_minutes la_echoFrom la_echoTo la_homes la_talls la_known vf_deeds va_kinds va_firsts va_seconds sf_facts sa_heard sa_huts sa_minutes cf_voices cf_step ca_parts ca_heights nums h s (nI 3) post := by
  have ha : iv 1 9 a := iv_w (cW_iv c0) (by decide +kernel)
  obtain ⟨b0, b1, b4⟩ := CB_n hC
  obtain ⟨hL, hh, hs⟩ := hD.1 rfl
  refine ⟨fun h9 => absurd h9 (by decide +kernel), fun _ => ?_⟩
  rw [c_0, c_1, c_2, n0]
  refine ⟨fun h9 => absurd h9 (by decide +kernel), fun h9 => absurd h9 (by decide +kernel), fun h9 => absurd h9 (by decide +kernel), fun h9 => absurd h9 (by decide +kernel), fun _ => ?_, fun h9 => absurd h9 (by decide +kernel), fun h9 => absurd h9 (by decide +kernel), fun h9 => absurd h9 (by decide +kernel), fun h9 => absurd h9 (by decide +kernel), fun h9 => absurd h9 (by decide +kernel)⟩
  refine hpo _ _ _ _ _ _ _ _ _ _ _ _ _ _ _ _ _ _ _ _ _ _ _ _ _ _ _ _ _ ?_
  exact DR0 (LDR_deep a hL b0 b1 b4) hh hs
set_option maxRecDepth 20000 in
theorem e_tell_4 {lf_huts lf_singers lf_villages lf_dams lf_echoes lf_deep lf_slide vf_deeds sf_facts cf_voices cf_step : Int32} {la_heights la_ladders la_minutes la_echoFrom la_echoTo la_homes la_talls la_known va_kinds va_firsts va_seconds sa_heard sa_huts sa_minutes ca_parts ca_heights : Nat → Int32} {nums td : Nat → Int32} {h s fh fs a b c : Int32} {post : (Int32) → (Int32) → (Int32) → (Int32) → (Int32) → (Int32) → (Int32) → (Nat → Int32) → (Nat → Int32) → (Nat → Int32) → (Nat → Int32) → (Nat → Int32) → (Nat → Int32) → (Nat → Int32) → (Nat → Int32) → (Int32) → (Nat → Int32) → (Nat → Int32) → (Nat → Int32) → (Int32) → (Nat → Int32) → (Nat → Int32) → (Nat → Int32) → (Int32) → (Int32) → (Nat → Int32) → (Nat → Int32) → Int32 → Int32 → Prop} (hC : CB 0 td) (hf : fu 4 td = false) (n0 : nums 0 = a) (c0 : cW 4 0 a a = true) (hD : DR 0 lf_huts lf_singers lf_villages lf_dams lf_echoes lf_deep lf_slide la_heights la_ladders la_minutes la_echoFrom la_echoTo la_homes la_talls la_known vf_deeds va_kinds va_firsts va_seconds sf_facts sa_heard sa_huts sa_minutes cf_voices cf_step ca_parts ca_heights h s td fh fs) (hpo : ∀ (lf_huts' : Int32) (lf_singers' : Int32) (lf_villages' : Int32) (lf_dams' : Int32) (lf_echoes' : Int32) (lf_deep' : Int32) (lf_slide' : Int32) (la_heights' : Nat → Int32) (la_ladders' : Nat → Int32) (la_minutes' : Nat → Int32) (la_echoFrom' : Nat → Int32) (la_echoTo' : Nat → Int32) (la_homes' : Nat → Int32) (la_talls' : Nat → Int32) (la_known' : Nat → Int32) (vf_deeds' : Int32) (va_kinds' : Nat → Int32) (va_firsts' : Nat → Int32) (va_seconds' : Nat → Int32) (sf_facts' : Int32) (sa_heard' : Nat → Int32) (sa_huts' : Nat → Int32) (sa_minutes' : Nat → Int32) (cf_voices' : Int32) (cf_step' : Int32) (ca_parts' : Nat → Int32) (ca_heights' : Nat → Int32) (h' s' : Int32), DR 0 lf_huts' lf_singers' lf_villages' lf_dams' lf_echoes' lf_deep' lf_slide' la_heights' la_ladders' la_minutes' la_echoFrom' la_echoTo' la_homes' la_talls' la_known' vf_deeds' va_kinds' va_firsts' va_seconds' sf_facts' sa_heard' sa_huts' sa_minutes' cf_voices' cf_step' ca_parts' ca_heights' h' s' (lD 4 true a b c td) (lH 4 a b fh) (lS 4 a fs) → post lf_huts' lf_singers' lf_villages' lf_dams' lf_echoes' lf_deep' lf_slide' la_heights' la_ladders' la_minutes' la_echoFrom' la_echoTo' la_homes' la_talls' la_known' vf_deeds' va_kinds' va_firsts' va_seconds' sf_facts' sa_heard' sa_huts' sa_minutes' cf_voices' cf_step' ca_parts' ca_heights' h' s') : q_wr_X4_tell_0 lf_huts lf_singers lf_villages lf_dams lf_echoes lf_deep lf_slide la_heights la_ladders la_minutes la_echoFrom la_echoTo la_homes la_talls la_known vf_deeds va_kinds va_firsts va_seconds sf_facts sa_heard sa_huts sa_minutes cf_voices cf_step ca_parts ca_heights nums h s (nI 4) post := by
  have ha : iv 0 10 a := iv_w (cW_iv c0) (by decide +kernel)
  obtain ⟨b0, b1, b4⟩ := CB_n hC
  obtain ⟨hL, hh, hs⟩ := hD.1 rfl
  refine ⟨fun h9 => absurd h9 (by decide +kernel), fun _ => ?_⟩
  rw [c_0, c_1, c_2, n0]
  refine ⟨fun h9 => absurd h9 (by decide +kernel), fun h9 => absurd h9 (by decide +kernel), fun h9 => absurd h9 (by decide +kernel), fun h9 => absurd h9 (by decide +kernel), fun h9 => absurd h9 (by decide +kernel), fun _ => ?_, fun h9 => absurd h9 (by decide +kernel), fun h9 => absurd h9 (by decide +kernel), fun h9 => absurd h9 (by decide +kernel), fun h9 => absurd h9 (by decide +kernel)⟩
  refine hpo _ _ _ _ _ _ _ _ _ _ _ _ _ _ _ _ _ _ _ _ _ _ _ _ _ _ _ _ _ ?_
  exact DR0 (LDR_slide a hL b0 b1 b4) hh hs
set_option maxRecDepth 20000 in
theorem e_tell_5 {lf_huts lf_singers lf_villages lf_dams lf_echoes lf_deep lf_slide vf_deeds sf_facts cf_voices cf_step : Int32} {la_heights la_ladders la_minutes la_echoFrom la_echoTo la_homes la_talls la_known va_kinds va_firsts va_seconds sa_heard sa_huts sa_minutes ca_parts ca_heights : Nat → Int32} {nums td : Nat → Int32} {h s fh fs a b c : Int32} {post : (Int32) → (Int32) → (Int32) → (Int32) → (Int32) → (Int32) → (Int32) → (Nat → Int32) → (Nat → Int32) → (Nat → Int32) → (Nat → Int32) → (Nat → Int32) → (Nat → Int32) → (Nat → Int32) → (Nat → Int32) → (Int32) → (Nat → Int32) → (Nat → Int32) → (Nat → Int32) → (Int32) → (Nat → Int32) → (Nat → Int32) → (Nat → Int32) → (Int32) → (Int32) → (Nat → Int32) → (Nat → Int32) → Int32 → Int32 → Prop} (hC : CB 0 td) (hf : fu 5 td = false) (n0 : nums 0 = a) (c0 : cW 5 0 a a = true) (n1 : nums 1 = b) (c1 : cW 5 1 a b = true) (n2 : nums 2 = c) (c2 : cW 5 2 a c = true) (hD : DR 0 lf_huts lf_singers lf_villages lf_dams lf_echoes lf_deep lf_slide la_heights la_ladders la_minutes la_echoFrom la_echoTo la_homes la_talls la_known vf_deeds va_kinds va_firsts va_seconds sf_facts sa_heard sa_huts sa_minutes cf_voices cf_step ca_parts ca_heights h s td fh fs) (hpo : ∀ (lf_huts' : Int32) (lf_singers' : Int32) (lf_villages' : Int32) (lf_dams' : Int32) (lf_echoes' : Int32) (lf_deep' : Int32) (lf_slide' : Int32) (la_heights' : Nat → Int32) (la_ladders' : Nat → Int32) (la_minutes' : Nat → Int32) (la_echoFrom' : Nat → Int32) (la_echoTo' : Nat → Int32) (la_homes' : Nat → Int32) (la_talls' : Nat → Int32) (la_known' : Nat → Int32) (vf_deeds' : Int32) (va_kinds' : Nat → Int32) (va_firsts' : Nat → Int32) (va_seconds' : Nat → Int32) (sf_facts' : Int32) (sa_heard' : Nat → Int32) (sa_huts' : Nat → Int32) (sa_minutes' : Nat → Int32) (cf_voices' : Int32) (cf_step' : Int32) (ca_parts' : Nat → Int32) (ca_heights' : Nat → Int32) (h' s' : Int32), DR 0 lf_huts' lf_singers' lf_villages' lf_dams' lf_echoes' lf_deep' lf_slide' la_heights' la_ladders' la_minutes' la_echoFrom' la_echoTo' la_homes' la_talls' la_known' vf_deeds' va_kinds' va_firsts' va_seconds' sf_facts' sa_heard' sa_huts' sa_minutes' cf_voices' cf_step' ca_parts' ca_heights' h' s' (lD 5 true a b c td) (lH 5 a b fh) (lS 5 a fs) → post lf_huts' lf_singers' lf_villages' lf_dams' lf_echoes' lf_deep' lf_slide' la_heights' la_ladders' la_minutes' la_echoFrom' la_echoTo' la_homes' la_talls' la_known' vf_deeds' va_kinds' va_firsts' va_seconds' sf_facts' sa_heard' sa_huts' sa_minutes' cf_voices' cf_step' ca_parts' ca_heights' h' s') : q_wr_X4_tell_0 lf_huts lf_singers lf_villages lf_dams lf_echoes lf_deep lf_slide la_heights la_ladders la_minutes la_echoFrom la_echoTo la_homes la_talls la_known vf_deeds va_kinds va_firsts va_seconds sf_facts sa_heard sa_huts sa_minutes cf_voices cf_step ca_parts ca_heights nums h s (nI 5) post := by
  have ha : iv 0 8 a := iv_w (cW_iv c0) (by decide +kernel)
  have hb : iv 0 8 b := iv_w (cW_iv c1) (by decide +kernel)
  have hc : iv 1 9 c := iv_w (cW_iv c2) (by decide +kernel)
  obtain ⟨b0, b1, b4⟩ := CB_n hC
  obtain ⟨hL, hh, hs⟩ := hD.1 rfl
  refine ⟨fun h9 => absurd h9 (by decide +kernel), fun _ => ?_⟩
  rw [c_0, c_1, c_2, n0, n1, n2]
  refine ⟨fun h9 => absurd h9 (by decide +kernel), fun h9 => absurd h9 (by decide +kernel), fun h9 => absurd h9 (by decide +kernel), fun h9 => absurd h9 (by decide +kernel), fun h9 => absurd h9 (by decide +kernel), fun h9 => absurd h9 (by decide +kernel), fun _ => ?_, fun h9 => absurd h9 (by decide +kernel), fun h9 => absurd h9 (by decide +kernel), fun h9 => absurd h9 (by decide +kernel)⟩
  obtain ⟨p, ep, -, hp, -⟩ := iv_nI ha (by decide)
  obtain ⟨q, eq, -, hq, -⟩ := iv_nI hb (by decide)
  have i1 : a * 9 + b = nI (p * 9 + q) := by rw [ep, eq]; exact jx9 p q
  have i2 : b * 9 + a = nI (q * 9 + p) := by rw [ep, eq]; exact jx9 q p
  rw [i1, i2, nI_clamp (n := p * 9 + q) (by omega), nI_clamp (n := q * 9 + p) (by omega)]
  refine ⟨vp_in_nI (by omega) (by omega), fun t1 e1 => ⟨vp_in_nI (by omega) (by omega), fun t2 e2 v e3 => ?_⟩⟩
  subst e1 e2 e3
  refine hpo _ _ _ _ _ _ _ _ _ _ _ _ _ _ _ _ _ _ _ _ _ _ _ _ _ _ _ _ _ ?_
  have e : lD 5 true a b c td = upd (upd td (51 + (p * 9 + q)) c) (51 + (q * 9 + p)) c := by
    show upd (upd td (Int32.toNatClampNeg ((51 + 9 * a) + b)) c) (Int32.toNatClampNeg ((51 + 9 * b) + a)) c = _
    rw [ep, eq, ix9, ix9, nI_clamp (by omega), nI_clamp (by omega), show 51 + 9 * p + q = 51 + (p * 9 + q) by omega, show 51 + 9 * q + p = 51 + (q * 9 + p) by omega]
  rw [e]
  have g1 := LDR_way c (show p * 9 + q < 81 by omega) hL b0 b1 b4
  exact DR0 (LDR_way c (show q * 9 + p < 81 by omega) g1 (by rw [up_n (by omega)]; exact b0) (by rw [up_n (by omega)]; exact b1) (by rw [up_n (by omega)]; exact b4)) (HB_or2 hh ha hb) hs
set_option maxRecDepth 20000 in
theorem e_tell_6 {lf_huts lf_singers lf_villages lf_dams lf_echoes lf_deep lf_slide vf_deeds sf_facts cf_voices cf_step : Int32} {la_heights la_ladders la_minutes la_echoFrom la_echoTo la_homes la_talls la_known va_kinds va_firsts va_seconds sa_heard sa_huts sa_minutes ca_parts ca_heights : Nat → Int32} {nums td : Nat → Int32} {h s fh fs a b c : Int32} {post : (Int32) → (Int32) → (Int32) → (Int32) → (Int32) → (Int32) → (Int32) → (Nat → Int32) → (Nat → Int32) → (Nat → Int32) → (Nat → Int32) → (Nat → Int32) → (Nat → Int32) → (Nat → Int32) → (Nat → Int32) → (Int32) → (Nat → Int32) → (Nat → Int32) → (Nat → Int32) → (Int32) → (Nat → Int32) → (Nat → Int32) → (Nat → Int32) → (Int32) → (Int32) → (Nat → Int32) → (Nat → Int32) → Int32 → Int32 → Prop} (hC : CB 0 td) (hf : fu 6 td = false) (n0 : nums 0 = a) (c0 : cW 6 0 a a = true) (n1 : nums 1 = b) (c1 : cW 6 1 a b = true) (hD : DR 0 lf_huts lf_singers lf_villages lf_dams lf_echoes lf_deep lf_slide la_heights la_ladders la_minutes la_echoFrom la_echoTo la_homes la_talls la_known vf_deeds va_kinds va_firsts va_seconds sf_facts sa_heard sa_huts sa_minutes cf_voices cf_step ca_parts ca_heights h s td fh fs) (hpo : ∀ (lf_huts' : Int32) (lf_singers' : Int32) (lf_villages' : Int32) (lf_dams' : Int32) (lf_echoes' : Int32) (lf_deep' : Int32) (lf_slide' : Int32) (la_heights' : Nat → Int32) (la_ladders' : Nat → Int32) (la_minutes' : Nat → Int32) (la_echoFrom' : Nat → Int32) (la_echoTo' : Nat → Int32) (la_homes' : Nat → Int32) (la_talls' : Nat → Int32) (la_known' : Nat → Int32) (vf_deeds' : Int32) (va_kinds' : Nat → Int32) (va_firsts' : Nat → Int32) (va_seconds' : Nat → Int32) (sf_facts' : Int32) (sa_heard' : Nat → Int32) (sa_huts' : Nat → Int32) (sa_minutes' : Nat → Int32) (cf_voices' : Int32) (cf_step' : Int32) (ca_parts' : Nat → Int32) (ca_heights' : Nat → Int32) (h' s' : Int32), DR 0 lf_huts' lf_singers' lf_villages' lf_dams' lf_echoes' lf_deep' lf_slide' la_heights' la_ladders' la_minutes' la_echoFrom' la_echoTo' la_homes' la_talls' la_known' vf_deeds' va_kinds' va_firsts' va_seconds' sf_facts' sa_heard' sa_huts' sa_minutes' cf_voices' cf_step' ca_parts' ca_heights' h' s' (lD 6 true a b c td) (lH 6 a b fh) (lS 6 a fs) → post lf_huts' lf_singers' lf_villages' lf_dams' lf_echoes' lf_deep' lf_slide' la_heights' la_ladders' la_minutes' la_echoFrom' la_echoTo' la_homes' la_talls' la_known' vf_deeds' va_kinds' va_firsts' va_seconds' sf_facts' sa_heard' sa_huts' sa_minutes' cf_voices' cf_step' ca_parts' ca_heights' h' s') : q_wr_X4_tell_0 lf_huts lf_singers lf_villages lf_dams lf_echoes lf_deep lf_slide la_heights la_ladders la_minutes la_echoFrom la_echoTo la_homes la_talls la_known vf_deeds va_kinds va_firsts va_seconds sf_facts sa_heard sa_huts sa_minutes cf_voices cf_step ca_parts ca_heights nums h s (nI 6) post := by
  have ha : iv 0 8 a := iv_w (cW_iv c0) (by decide +kernel)
  have hb : iv 0 8 b := iv_w (cW_iv c1) (by decide +kernel)
  obtain ⟨b0, b1, b4⟩ := CB_n hC
  obtain ⟨hL, hh, hs⟩ := hD.1 rfl
  refine ⟨fun h9 => absurd h9 (by decide +kernel), fun _ => ?_⟩
  rw [c_0, c_1, c_2, n0, n1]
  refine ⟨fun h9 => absurd h9 (by decide +kernel), fun h9 => absurd h9 (by decide +kernel), fun h9 => absurd h9 (by decide +kernel), fun h9 => absurd h9 (by decide +kernel), fun h9 => absurd h9 (by decide +kernel), fun h9 => absurd h9 (by decide +kernel), fun h9 => absurd h9 (by decide +kernel), fun _ => ?_, fun h9 => absurd h9 (by decide +kernel), fun h9 => absurd h9 (by decide +kernel)⟩
  obtain ⟨k, hk, -, hk9, -⟩ := iv_nI (hC.2 rfl).2 (by decide)
  have hne : ¬ td 4 = 4 := fun h9 => by
    have := of_decide_eq_false hf
    exact this (by simp [h9])
  have hk8 : k < 4 := Nat.lt_of_le_of_ne (by omega) (fun h9 => hne (by rw [hk, h9]; rfl))
  have e0 : lf_echoes = nI k := hL.2.2.2.2.1.trans hk
  have hin : vp_in lf_echoes 4 := by rw [e0]; exact vp_in_nI hk8 (by omega)
  refine ⟨hin, fun t1 e1 => ⟨hin, fun t2 e2 v e3 v2 e4 => ?_⟩⟩
  rw [e0, nI_clamp (by omega)] at e1 e2
  rw [e0, nI_1] at e3
  subst e1 e2 e3 e4
  refine hpo _ _ _ _ _ _ _ _ _ _ _ _ _ _ _ _ _ _ _ _ _ _ _ _ _ _ _ _ _ ?_
  have e : lD 6 true a b c td = upd (upd (upd td 4 (nI (k + 1))) (43 + 2 * k) a) (44 + 2 * k) b := by
    show (if td 4 = 4 then td else upd (upd (upd td 4 (td 4 + 1)) (Int32.toNatClampNeg (43 + 2 * td 4)) a) (Int32.toNatClampNeg (43 + 2 * td 4 + 1)) b) = _
    rw [if_neg hne, hk, nI_1, show (43 : Int32) = nI 43 from rfl, show (2 : Int32) = nI 2 from rfl, pk_mul, nI_add, nI_1, nI_clamp (by omega), nI_clamp (by omega), show 43 + 2 * k + 1 = 44 + 2 * k by omega]
  rw [e]
  exact DR0 (LDR_ech a b hk hk8 hL b0 b1 b4) (HB_or2 hh ha hb) hs
set_option maxRecDepth 20000 in
theorem e_tell_7 {lf_huts lf_singers lf_villages lf_dams lf_echoes lf_deep lf_slide vf_deeds sf_facts cf_voices cf_step : Int32} {la_heights la_ladders la_minutes la_echoFrom la_echoTo la_homes la_talls la_known va_kinds va_firsts va_seconds sa_heard sa_huts sa_minutes ca_parts ca_heights : Nat → Int32} {nums td : Nat → Int32} {h s fh fs a b c : Int32} {post : (Int32) → (Int32) → (Int32) → (Int32) → (Int32) → (Int32) → (Int32) → (Nat → Int32) → (Nat → Int32) → (Nat → Int32) → (Nat → Int32) → (Nat → Int32) → (Nat → Int32) → (Nat → Int32) → (Nat → Int32) → (Int32) → (Nat → Int32) → (Nat → Int32) → (Nat → Int32) → (Int32) → (Nat → Int32) → (Nat → Int32) → (Nat → Int32) → (Int32) → (Int32) → (Nat → Int32) → (Nat → Int32) → Int32 → Int32 → Prop} (hC : CB 0 td) (hf : fu 7 td = false) (n0 : nums 0 = a) (c0 : cW 7 0 a a = true) (n1 : nums 1 = b) (c1 : cW 7 1 a b = true) (hD : DR 0 lf_huts lf_singers lf_villages lf_dams lf_echoes lf_deep lf_slide la_heights la_ladders la_minutes la_echoFrom la_echoTo la_homes la_talls la_known vf_deeds va_kinds va_firsts va_seconds sf_facts sa_heard sa_huts sa_minutes cf_voices cf_step ca_parts ca_heights h s td fh fs) (hpo : ∀ (lf_huts' : Int32) (lf_singers' : Int32) (lf_villages' : Int32) (lf_dams' : Int32) (lf_echoes' : Int32) (lf_deep' : Int32) (lf_slide' : Int32) (la_heights' : Nat → Int32) (la_ladders' : Nat → Int32) (la_minutes' : Nat → Int32) (la_echoFrom' : Nat → Int32) (la_echoTo' : Nat → Int32) (la_homes' : Nat → Int32) (la_talls' : Nat → Int32) (la_known' : Nat → Int32) (vf_deeds' : Int32) (va_kinds' : Nat → Int32) (va_firsts' : Nat → Int32) (va_seconds' : Nat → Int32) (sf_facts' : Int32) (sa_heard' : Nat → Int32) (sa_huts' : Nat → Int32) (sa_minutes' : Nat → Int32) (cf_voices' : Int32) (cf_step' : Int32) (ca_parts' : Nat → Int32) (ca_heights' : Nat → Int32) (h' s' : Int32), DR 0 lf_huts' lf_singers' lf_villages' lf_dams' lf_echoes' lf_deep' lf_slide' la_heights' la_ladders' la_minutes' la_echoFrom' la_echoTo' la_homes' la_talls' la_known' vf_deeds' va_kinds' va_firsts' va_seconds' sf_facts' sa_heard' sa_huts' sa_minutes' cf_voices' cf_step' ca_parts' ca_heights' h' s' (lD 7 true a b c td) (lH 7 a b fh) (lS 7 a fs) → post lf_huts' lf_singers' lf_villages' lf_dams' lf_echoes' lf_deep' lf_slide' la_heights' la_ladders' la_minutes' la_echoFrom' la_echoTo' la_homes' la_talls' la_known' vf_deeds' va_kinds' va_firsts' va_seconds' sf_facts' sa_heard' sa_huts' sa_minutes' cf_voices' cf_step' ca_parts' ca_heights' h' s') : q_wr_X4_tell_0 lf_huts lf_singers lf_villages lf_dams lf_echoes lf_deep lf_slide la_heights la_ladders la_minutes la_echoFrom la_echoTo la_homes la_talls la_known vf_deeds va_kinds va_firsts va_seconds sf_facts sa_heard sa_huts sa_minutes cf_voices cf_step ca_parts ca_heights nums h s (nI 7) post := by
  have ha : iv 0 8 a := iv_w (cW_iv c0) (by decide +kernel)
  have hb : iv 0 9 b := iv_w (cW_iv c1) (by decide +kernel)
  obtain ⟨b0, b1, b4⟩ := CB_n hC
  obtain ⟨hL, hh, hs⟩ := hD.1 rfl
  refine ⟨fun h9 => absurd h9 (by decide +kernel), fun _ => ?_⟩
  rw [c_0, c_1, c_2, n0, n1]
  refine ⟨fun h9 => absurd h9 (by decide +kernel), fun h9 => absurd h9 (by decide +kernel), fun h9 => absurd h9 (by decide +kernel), fun h9 => absurd h9 (by decide +kernel), fun h9 => absurd h9 (by decide +kernel), fun h9 => absurd h9 (by decide +kernel), fun h9 => absurd h9 (by decide +kernel), fun h9 => absurd h9 (by decide +kernel), fun _ => ?_, fun h9 => absurd h9 (by decide +kernel)⟩
  obtain ⟨p, ep, -, hp, -⟩ := iv_nI ha (by decide)
  refine ⟨by rw [ep]; exact vp_in_nI (by omega) (by omega), fun t1 e1 v e2 => ?_⟩
  rw [ep, nI_clamp (by omega)] at e1
  subst e1 e2
  refine hpo _ _ _ _ _ _ _ _ _ _ _ _ _ _ _ _ _ _ _ _ _ _ _ _ _ _ _ _ _ ?_
  have e : lD 7 true a b c td = upd td (16 + p) b := by
    show upd td (Int32.toNatClampNeg (16 + a)) b = _
    rw [ep, show (16 : Int32) = nI 16 from rfl, nI_add, nI_clamp (by omega)]
  rw [e]
  exact DR0 (LDR_lad b (show p < 9 by omega) hL b0 b1 b4) (HB_or hh ha) hs
set_option maxRecDepth 20000 in
theorem e_tell_8 {lf_huts lf_singers lf_villages lf_dams lf_echoes lf_deep lf_slide vf_deeds sf_facts cf_voices cf_step : Int32} {la_heights la_ladders la_minutes la_echoFrom la_echoTo la_homes la_talls la_known va_kinds va_firsts va_seconds sa_heard sa_huts sa_minutes ca_parts ca_heights : Nat → Int32} {nums td : Nat → Int32} {h s fh fs a b c : Int32} {post : (Int32) → (Int32) → (Int32) → (Int32) → (Int32) → (Int32) → (Int32) → (Nat → Int32) → (Nat → Int32) → (Nat → Int32) → (Nat → Int32) → (Nat → Int32) → (Nat → Int32) → (Nat → Int32) → (Nat → Int32) → (Int32) → (Nat → Int32) → (Nat → Int32) → (Nat → Int32) → (Int32) → (Nat → Int32) → (Nat → Int32) → (Nat → Int32) → (Int32) → (Int32) → (Nat → Int32) → (Nat → Int32) → Int32 → Int32 → Prop} (hC : CB 0 td) (hf : fu 8 td = false) (n0 : nums 0 = a) (c0 : cW 8 0 a a = true) (n1 : nums 1 = b) (c1 : cW 8 1 a b = true) (hD : DR 0 lf_huts lf_singers lf_villages lf_dams lf_echoes lf_deep lf_slide la_heights la_ladders la_minutes la_echoFrom la_echoTo la_homes la_talls la_known vf_deeds va_kinds va_firsts va_seconds sf_facts sa_heard sa_huts sa_minutes cf_voices cf_step ca_parts ca_heights h s td fh fs) (hpo : ∀ (lf_huts' : Int32) (lf_singers' : Int32) (lf_villages' : Int32) (lf_dams' : Int32) (lf_echoes' : Int32) (lf_deep' : Int32) (lf_slide' : Int32) (la_heights' : Nat → Int32) (la_ladders' : Nat → Int32) (la_minutes' : Nat → Int32) (la_echoFrom' : Nat → Int32) (la_echoTo' : Nat → Int32) (la_homes' : Nat → Int32) (la_talls' : Nat → Int32) (la_known' : Nat → Int32) (vf_deeds' : Int32) (va_kinds' : Nat → Int32) (va_firsts' : Nat → Int32) (va_seconds' : Nat → Int32) (sf_facts' : Int32) (sa_heard' : Nat → Int32) (sa_huts' : Nat → Int32) (sa_minutes' : Nat → Int32) (cf_voices' : Int32) (cf_step' : Int32) (ca_parts' : Nat → Int32) (ca_heights' : Nat → Int32) (h' s' : Int32), DR 0 lf_huts' lf_singers' lf_villages' lf_dams' lf_echoes' lf_deep' lf_slide' la_heights' la_ladders' la_minutes' la_echoFrom' la_echoTo' la_homes' la_talls' la_known' vf_deeds' va_kinds' va_firsts' va_seconds' sf_facts' sa_heard' sa_huts' sa_minutes' cf_voices' cf_step' ca_parts' ca_heights' h' s' (lD 8 true a b c td) (lH 8 a b fh) (lS 8 a fs) → post lf_huts' lf_singers' lf_villages' lf_dams' lf_echoes' lf_deep' lf_slide' la_heights' la_ladders' la_minutes' la_echoFrom' la_echoTo' la_homes' la_talls' la_known' vf_deeds' va_kinds' va_firsts' va_seconds' sf_facts' sa_heard' sa_huts' sa_minutes' cf_voices' cf_step' ca_parts' ca_heights' h' s') : q_wr_X4_tell_0 lf_huts lf_singers lf_villages lf_dams lf_echoes lf_deep lf_slide la_heights la_ladders la_minutes la_echoFrom la_echoTo la_homes la_talls la_known vf_deeds va_kinds va_firsts va_seconds sf_facts sa_heard sa_huts sa_minutes cf_voices cf_step ca_parts ca_heights nums h s (nI 8) post := by
  have ha : iv 0 8 a := iv_w (cW_iv c0) (by decide +kernel)
  have hb : iv 0 9 b := iv_w (cW_iv c1) (by decide +kernel)
  obtain ⟨b0, b1, b4⟩ := CB_n hC
  obtain ⟨hL, hh, hs⟩ := hD.1 rfl
  refine ⟨fun h9 => absurd h9 (by decide +kernel), fun _ => ?_⟩
  rw [c_0, c_1, c_2, n0, n1]
  refine ⟨fun h9 => absurd h9 (by decide +kernel), fun h9 => absurd h9 (by decide +kernel), fun h9 => absurd h9 (by decide +kernel), fun h9 => absurd h9 (by decide +kernel), fun h9 => absurd h9 (by decide +kernel), fun h9 => absurd h9 (by decide +kernel), fun h9 => absurd h9 (by decide +kernel), fun h9 => absurd h9 (by decide +kernel), fun h9 => absurd h9 (by decide +kernel), fun _ => ?_⟩
  obtain ⟨k, hk, -, hk9, -⟩ := iv_nI (hC.2 rfl).1 (by decide)
  have hne : ¬ td 1 = 6 := fun h9 => by
    have := of_decide_eq_false hf
    exact this (by simp [h9])
  have hk8 : k < 6 := Nat.lt_of_le_of_ne (by omega) (fun h9 => hne (by rw [hk, h9]; rfl))
  have e0 : lf_singers = nI k := hL.2.1.trans hk
  have hin : vp_in lf_singers 6 := by rw [e0]; exact vp_in_nI hk8 (by omega)
  refine ⟨hin, fun t1 e1 => ⟨hin, fun t2 e2 v e3 v2 e4 => ?_⟩⟩
  rw [e0, nI_clamp (by omega)] at e1 e2
  rw [e0, nI_1] at e3
  subst e1 e2 e3 e4
  refine hpo _ _ _ _ _ _ _ _ _ _ _ _ _ _ _ _ _ _ _ _ _ _ _ _ _ _ _ _ _ ?_
  have e : lD 8 true a b c td = upd (upd (upd td 1 (nI (k + 1))) (25 + k) a) (31 + k) b := by
    show (if td 1 = 6 then td else upd (upd (upd td 1 (td 1 + 1)) (Int32.toNatClampNeg (25 + td 1)) a) (Int32.toNatClampNeg (31 + td 1)) b) = _
    rw [if_neg hne, hk, nI_1, show (25 : Int32) = nI 25 from rfl, show (31 : Int32) = nI 31 from rfl, nI_add, nI_add, nI_clamp (by omega), nI_clamp (by omega)]
  rw [e]
  exact DR0 (LDR_sin a b hk hk8 hL b0 b1 b4) (HB_or hh ha) hs
set_option maxRecDepth 20000 in
theorem e_tell_9 {lf_huts lf_singers lf_villages lf_dams lf_echoes lf_deep lf_slide vf_deeds sf_facts cf_voices cf_step : Int32} {la_heights la_ladders la_minutes la_echoFrom la_echoTo la_homes la_talls la_known va_kinds va_firsts va_seconds sa_heard sa_huts sa_minutes ca_parts ca_heights : Nat → Int32} {nums td : Nat → Int32} {h s fh fs a b c : Int32} {post : (Int32) → (Int32) → (Int32) → (Int32) → (Int32) → (Int32) → (Int32) → (Nat → Int32) → (Nat → Int32) → (Nat → Int32) → (Nat → Int32) → (Nat → Int32) → (Nat → Int32) → (Nat → Int32) → (Nat → Int32) → (Int32) → (Nat → Int32) → (Nat → Int32) → (Nat → Int32) → (Int32) → (Nat → Int32) → (Nat → Int32) → (Nat → Int32) → (Int32) → (Int32) → (Nat → Int32) → (Nat → Int32) → Int32 → Int32 → Prop} (hC : CB 0 td) (hf : fu 9 td = false) (n0 : nums 0 = a) (c0 : cW 9 0 a a = true) (n1 : nums 1 = b) (c1 : cW 9 1 a b = true) (hD : DR 0 lf_huts lf_singers lf_villages lf_dams lf_echoes lf_deep lf_slide la_heights la_ladders la_minutes la_echoFrom la_echoTo la_homes la_talls la_known vf_deeds va_kinds va_firsts va_seconds sf_facts sa_heard sa_huts sa_minutes cf_voices cf_step ca_parts ca_heights h s td fh fs) (hpo : ∀ (lf_huts' : Int32) (lf_singers' : Int32) (lf_villages' : Int32) (lf_dams' : Int32) (lf_echoes' : Int32) (lf_deep' : Int32) (lf_slide' : Int32) (la_heights' : Nat → Int32) (la_ladders' : Nat → Int32) (la_minutes' : Nat → Int32) (la_echoFrom' : Nat → Int32) (la_echoTo' : Nat → Int32) (la_homes' : Nat → Int32) (la_talls' : Nat → Int32) (la_known' : Nat → Int32) (vf_deeds' : Int32) (va_kinds' : Nat → Int32) (va_firsts' : Nat → Int32) (va_seconds' : Nat → Int32) (sf_facts' : Int32) (sa_heard' : Nat → Int32) (sa_huts' : Nat → Int32) (sa_minutes' : Nat → Int32) (cf_voices' : Int32) (cf_step' : Int32) (ca_parts' : Nat → Int32) (ca_heights' : Nat → Int32) (h' s' : Int32), DR 0 lf_huts' lf_singers' lf_villages' lf_dams' lf_echoes' lf_deep' lf_slide' la_heights' la_ladders' la_minutes' la_echoFrom' la_echoTo' la_homes' la_talls' la_known' vf_deeds' va_kinds' va_firsts' va_seconds' sf_facts' sa_heard' sa_huts' sa_minutes' cf_voices' cf_step' ca_parts' ca_heights' h' s' (lD 9 true a b c td) (lH 9 a b fh) (lS 9 a fs) → post lf_huts' lf_singers' lf_villages' lf_dams' lf_echoes' lf_deep' lf_slide' la_heights' la_ladders' la_minutes' la_echoFrom' la_echoTo' la_homes' la_talls' la_known' vf_deeds' va_kinds' va_firsts' va_seconds' sf_facts' sa_heard' sa_huts' sa_minutes' cf_voices' cf_step' ca_parts' ca_heights' h' s') : q_wr_X4_tell_0 lf_huts lf_singers lf_villages lf_dams lf_echoes lf_deep lf_slide la_heights la_ladders la_minutes la_echoFrom la_echoTo la_homes la_talls la_known vf_deeds va_kinds va_firsts va_seconds sf_facts sa_heard sa_huts sa_minutes cf_voices cf_step ca_parts ca_heights nums h s (nI 9) post := by
  have ha : iv 0 5 a := iv_w (cW_iv c0) (by decide +kernel)
  have hb : iv 0 4 b := iv_w (cW_iv c1) (by decide +kernel)
  obtain ⟨b0, b1, b4⟩ := CB_n hC
  obtain ⟨hL, hh, hs⟩ := hD.1 rfl
  refine ⟨fun h9 => absurd h9 (by decide +kernel), fun _ => ?_⟩
  rw [c_0, c_1, c_2, n0, n1]
  refine ⟨fun _ => ?_, fun h9 => absurd h9 (by decide +kernel), fun h9 => absurd h9 (by decide +kernel), fun h9 => absurd h9 (by decide +kernel), fun h9 => absurd h9 (by decide +kernel), fun h9 => absurd h9 (by decide +kernel), fun h9 => absurd h9 (by decide +kernel), fun h9 => absurd h9 (by decide +kernel), fun h9 => absurd h9 (by decide +kernel), fun h9 => absurd h9 (by decide +kernel)⟩
  obtain ⟨p, ep, -, hp, -⟩ := iv_nI ha (by decide)
  have hin : vp_in a 6 := by rw [ep]; exact vp_in_nI (by omega) (by omega)
  refine ⟨hin, fun v e0 => ⟨hin, fun t1 e1 v2 e2 => ?_⟩⟩
  rw [ep, nI_clamp (by omega)] at e0 e1
  subst e1 e2
  refine hpo _ _ _ _ _ _ _ _ _ _ _ _ _ _ _ _ _ _ _ _ _ _ _ _ _ _ _ _ _ ?_
  have e : lD 9 true a b c td = upd td (37 + p) v := by
    show upd td (Int32.toNatClampNeg (37 + a)) (td (Int32.toNatClampNeg (37 + a)) ||| 1 <<< (b &&& 31)) = _
    rw [ep, show (37 : Int32) = nI 37 from rfl, nI_add, nI_clamp (by omega), e0, hL.2.2.2.2.2.2.2.2.2.2.2.2 p (by omega)]
  rw [e]
  exact DR0 (LDR_kno v (show p < 6 by omega) hL b0 b1 b4) hh (HB_or hs (iv_w ha (by decide)))
set_option maxRecDepth 20000 in
theorem e_tell_10 {lf_huts lf_singers lf_villages lf_dams lf_echoes lf_deep lf_slide vf_deeds sf_facts cf_voices cf_step : Int32} {la_heights la_ladders la_minutes la_echoFrom la_echoTo la_homes la_talls la_known va_kinds va_firsts va_seconds sa_heard sa_huts sa_minutes ca_parts ca_heights : Nat → Int32} {nums td : Nat → Int32} {h s fh fs a b c : Int32} {post : (Int32) → (Int32) → (Int32) → (Int32) → (Int32) → (Int32) → (Int32) → (Nat → Int32) → (Nat → Int32) → (Nat → Int32) → (Nat → Int32) → (Nat → Int32) → (Nat → Int32) → (Nat → Int32) → (Nat → Int32) → (Int32) → (Nat → Int32) → (Nat → Int32) → (Nat → Int32) → (Int32) → (Nat → Int32) → (Nat → Int32) → (Nat → Int32) → (Int32) → (Int32) → (Nat → Int32) → (Nat → Int32) → Int32 → Int32 → Prop} (hC : CB 1 td) (hf : fu 10 td = false) (n0 : nums 0 = a) (c0 : cW 10 0 a a = true) (n1 : nums 1 = b) (c1 : cW 10 1 a b = true) (hD : DR 1 lf_huts lf_singers lf_villages lf_dams lf_echoes lf_deep lf_slide la_heights la_ladders la_minutes la_echoFrom la_echoTo la_homes la_talls la_known vf_deeds va_kinds va_firsts va_seconds sf_facts sa_heard sa_huts sa_minutes cf_voices cf_step ca_parts ca_heights h s td fh fs) (hpo : ∀ (lf_huts' : Int32) (lf_singers' : Int32) (lf_villages' : Int32) (lf_dams' : Int32) (lf_echoes' : Int32) (lf_deep' : Int32) (lf_slide' : Int32) (la_heights' : Nat → Int32) (la_ladders' : Nat → Int32) (la_minutes' : Nat → Int32) (la_echoFrom' : Nat → Int32) (la_echoTo' : Nat → Int32) (la_homes' : Nat → Int32) (la_talls' : Nat → Int32) (la_known' : Nat → Int32) (vf_deeds' : Int32) (va_kinds' : Nat → Int32) (va_firsts' : Nat → Int32) (va_seconds' : Nat → Int32) (sf_facts' : Int32) (sa_heard' : Nat → Int32) (sa_huts' : Nat → Int32) (sa_minutes' : Nat → Int32) (cf_voices' : Int32) (cf_step' : Int32) (ca_parts' : Nat → Int32) (ca_heights' : Nat → Int32) (h' s' : Int32), DR 1 lf_huts' lf_singers' lf_villages' lf_dams' lf_echoes' lf_deep' lf_slide' la_heights' la_ladders' la_minutes' la_echoFrom' la_echoTo' la_homes' la_talls' la_known' vf_deeds' va_kinds' va_firsts' va_seconds' sf_facts' sa_heard' sa_huts' sa_minutes' cf_voices' cf_step' ca_parts' ca_heights' h' s' (lD 10 true a b c td) (lH 10 a b fh) (lS 10 a fs) → post lf_huts' lf_singers' lf_villages' lf_dams' lf_echoes' lf_deep' lf_slide' la_heights' la_ladders' la_minutes' la_echoFrom' la_echoTo' la_homes' la_talls' la_known' vf_deeds' va_kinds' va_firsts' va_seconds' sf_facts' sa_heard' sa_huts' sa_minutes' cf_voices' cf_step' ca_parts' ca_heights' h' s') : q_wr_X4_tell_0 lf_huts lf_singers lf_villages lf_dams lf_echoes lf_deep lf_slide la_heights la_ladders la_minutes la_echoFrom la_echoTo la_homes la_talls la_known vf_deeds va_kinds va_firsts va_seconds sf_facts sa_heard sa_huts sa_minutes cf_voices cf_step ca_parts ca_heights nums h s (nI 10) post := by
  have hL := hD.2.1 rfl
  obtain ⟨k, hk, -, hk9, -⟩ := iv_nI hC.1 (by decide)
  have hne : ¬ td 0 = 40 := fun h9 => by
    have := of_decide_eq_false hf
    exact this (by simp [h9])
  have hk8 : k < 40 := Nat.lt_of_le_of_ne (by omega) (fun h9 => hne (by rw [hk, h9]; rfl))
  have e0 : vf_deeds = nI k := hL.1.trans hk
  have hin : vp_in vf_deeds 40 := by rw [e0]; exact vp_in_nI hk8 (by omega)
  refine ⟨fun _ => ⟨fun h9 => absurd h9 (by decide +kernel), fun _ => ⟨vp_in_nI (by decide) (by decide), ?_⟩⟩, fun h9 => absurd h9 (by decide +kernel)⟩
  rw [c_0, c_1, n0, n1]
  refine ⟨fun h9 => absurd h9 (by decide +kernel), fun _ => ?_⟩
  refine ⟨fun h9 => absurd h9 (by rw [e0]; exact nI_ge (b := 40) hk8 (by omega)), fun _ => ⟨hin, fun t1 e1 => ⟨hin, fun t2 e2 => ⟨hin, fun t3 e3 v e4 => ?_⟩⟩⟩⟩
  rw [e0, nI_clamp (by omega)] at e1 e2 e3
  rw [e0, nI_1] at e4
  subst e1 e2 e3 e4
  refine hpo _ _ _ _ _ _ _ _ _ _ _ _ _ _ _ _ _ _ _ _ _ _ _ _ _ _ _ _ _ ?_
  have e : lD 10 true a b c td = upd (upd (upd (upd td 0 (nI (k + 1))) (1 + 3 * k) (nI 10 - 10)) (2 + 3 * k) a) (3 + 3 * k) b := by
    show (if td 0 = 40 then td else upd (upd (upd (upd td 0 (td 0 + 1)) (Int32.toNatClampNeg ((1 + 3 * td 0) + 0)) (nI (10 - 10))) (Int32.toNatClampNeg ((1 + 3 * td 0) + 1)) a) (Int32.toNatClampNeg ((1 + 3 * td 0) + 2)) b) = _
    have q0 : Int32.toNatClampNeg ((1 + 3 * td 0) + 0) = 1 + 3 * k := by rw [hk, show (1 : Int32) = nI 1 from rfl, show (3 : Int32) = nI 3 from rfl, show (0 : Int32) = nI 0 from rfl, jx2, nI_clamp (by omega)]; omega
    have q1 : Int32.toNatClampNeg ((1 + 3 * td 0) + 1) = 2 + 3 * k := by rw [hk, show (1 : Int32) = nI 1 from rfl, show (3 : Int32) = nI 3 from rfl, jx2, nI_clamp (by omega)]; omega
    have q2 : Int32.toNatClampNeg ((1 + 3 * td 0) + 2) = 3 + 3 * k := by rw [hk, show (1 : Int32) = nI 1 from rfl, show (3 : Int32) = nI 3 from rfl, show (2 : Int32) = nI 2 from rfl, jx2, nI_clamp (by omega)]; omega
    rw [if_neg hne, q0, q1, q2, hk, nI_1]
    rfl
  rw [e]
  exact DR1 (R3_add _ _ _ hL hk (by omega))
set_option maxRecDepth 20000 in
theorem e_tell_11 {lf_huts lf_singers lf_villages lf_dams lf_echoes lf_deep lf_slide vf_deeds sf_facts cf_voices cf_step : Int32} {la_heights la_ladders la_minutes la_echoFrom la_echoTo la_homes la_talls la_known va_kinds va_firsts va_seconds sa_heard sa_huts sa_minutes ca_parts ca_heights : Nat → Int32} {nums td : Nat → Int32} {h s fh fs a b c : Int32} {post : (Int32) → (Int32) → (Int32) → (Int32) → (Int32) → (Int32) → (Int32) → (Nat → Int32) → (Nat → Int32) → (Nat → Int32) → (Nat → Int32) → (Nat → Int32) → (Nat → Int32) → (Nat → Int32) → (Nat → Int32) → (Int32) → (Nat → Int32) → (Nat → Int32) → (Nat → Int32) → (Int32) → (Nat → Int32) → (Nat → Int32) → (Nat → Int32) → (Int32) → (Int32) → (Nat → Int32) → (Nat → Int32) → Int32 → Int32 → Prop} (hC : CB 1 td) (hf : fu 11 td = false) (n0 : nums 0 = a) (c0 : cW 11 0 a a = true) (n1 : nums 1 = b) (c1 : cW 11 1 a b = true) (hD : DR 1 lf_huts lf_singers lf_villages lf_dams lf_echoes lf_deep lf_slide la_heights la_ladders la_minutes la_echoFrom la_echoTo la_homes la_talls la_known vf_deeds va_kinds va_firsts va_seconds sf_facts sa_heard sa_huts sa_minutes cf_voices cf_step ca_parts ca_heights h s td fh fs) (hpo : ∀ (lf_huts' : Int32) (lf_singers' : Int32) (lf_villages' : Int32) (lf_dams' : Int32) (lf_echoes' : Int32) (lf_deep' : Int32) (lf_slide' : Int32) (la_heights' : Nat → Int32) (la_ladders' : Nat → Int32) (la_minutes' : Nat → Int32) (la_echoFrom' : Nat → Int32) (la_echoTo' : Nat → Int32) (la_homes' : Nat → Int32) (la_talls' : Nat → Int32) (la_known' : Nat → Int32) (vf_deeds' : Int32) (va_kinds' : Nat → Int32) (va_firsts' : Nat → Int32) (va_seconds' : Nat → Int32) (sf_facts' : Int32) (sa_heard' : Nat → Int32) (sa_huts' : Nat → Int32) (sa_minutes' : Nat → Int32) (cf_voices' : Int32) (cf_step' : Int32) (ca_parts' : Nat → Int32) (ca_heights' : Nat → Int32) (h' s' : Int32), DR 1 lf_huts' lf_singers' lf_villages' lf_dams' lf_echoes' lf_deep' lf_slide' la_heights' la_ladders' la_minutes' la_echoFrom' la_echoTo' la_homes' la_talls' la_known' vf_deeds' va_kinds' va_firsts' va_seconds' sf_facts' sa_heard' sa_huts' sa_minutes' cf_voices' cf_step' ca_parts' ca_heights' h' s' (lD 11 true a b c td) (lH 11 a b fh) (lS 11 a fs) → post lf_huts' lf_singers' lf_villages' lf_dams' lf_echoes' lf_deep' lf_slide' la_heights' la_ladders' la_minutes' la_echoFrom' la_echoTo' la_homes' la_talls' la_known' vf_deeds' va_kinds' va_firsts' va_seconds' sf_facts' sa_heard' sa_huts' sa_minutes' cf_voices' cf_step' ca_parts' ca_heights' h' s') : q_wr_X4_tell_0 lf_huts lf_singers lf_villages lf_dams lf_echoes lf_deep lf_slide la_heights la_ladders la_minutes la_echoFrom la_echoTo la_homes la_talls la_known vf_deeds va_kinds va_firsts va_seconds sf_facts sa_heard sa_huts sa_minutes cf_voices cf_step ca_parts ca_heights nums h s (nI 11) post := by
  have hL := hD.2.1 rfl
  obtain ⟨k, hk, -, hk9, -⟩ := iv_nI hC.1 (by decide)
  have hne : ¬ td 0 = 40 := fun h9 => by
    have := of_decide_eq_false hf
    exact this (by simp [h9])
  have hk8 : k < 40 := Nat.lt_of_le_of_ne (by omega) (fun h9 => hne (by rw [hk, h9]; rfl))
  have e0 : vf_deeds = nI k := hL.1.trans hk
  have hin : vp_in vf_deeds 40 := by rw [e0]; exact vp_in_nI hk8 (by omega)
  refine ⟨fun _ => ⟨fun h9 => absurd h9 (by decide +kernel), fun _ => ⟨vp_in_nI (by decide) (by decide), ?_⟩⟩, fun h9 => absurd h9 (by decide +kernel)⟩
  rw [c_0, c_1, n0, n1]
  refine ⟨fun h9 => absurd h9 (by decide +kernel), fun _ => ?_⟩
  refine ⟨fun h9 => absurd h9 (by rw [e0]; exact nI_ge (b := 40) hk8 (by omega)), fun _ => ⟨hin, fun t1 e1 => ⟨hin, fun t2 e2 => ⟨hin, fun t3 e3 v e4 => ?_⟩⟩⟩⟩
  rw [e0, nI_clamp (by omega)] at e1 e2 e3
  rw [e0, nI_1] at e4
  subst e1 e2 e3 e4
  refine hpo _ _ _ _ _ _ _ _ _ _ _ _ _ _ _ _ _ _ _ _ _ _ _ _ _ _ _ _ _ ?_
  have e : lD 11 true a b c td = upd (upd (upd (upd td 0 (nI (k + 1))) (1 + 3 * k) (nI 11 - 10)) (2 + 3 * k) a) (3 + 3 * k) b := by
    show (if td 0 = 40 then td else upd (upd (upd (upd td 0 (td 0 + 1)) (Int32.toNatClampNeg ((1 + 3 * td 0) + 0)) (nI (11 - 10))) (Int32.toNatClampNeg ((1 + 3 * td 0) + 1)) a) (Int32.toNatClampNeg ((1 + 3 * td 0) + 2)) b) = _
    have q0 : Int32.toNatClampNeg ((1 + 3 * td 0) + 0) = 1 + 3 * k := by rw [hk, show (1 : Int32) = nI 1 from rfl, show (3 : Int32) = nI 3 from rfl, show (0 : Int32) = nI 0 from rfl, jx2, nI_clamp (by omega)]; omega
    have q1 : Int32.toNatClampNeg ((1 + 3 * td 0) + 1) = 2 + 3 * k := by rw [hk, show (1 : Int32) = nI 1 from rfl, show (3 : Int32) = nI 3 from rfl, jx2, nI_clamp (by omega)]; omega
    have q2 : Int32.toNatClampNeg ((1 + 3 * td 0) + 2) = 3 + 3 * k := by rw [hk, show (1 : Int32) = nI 1 from rfl, show (3 : Int32) = nI 3 from rfl, show (2 : Int32) = nI 2 from rfl, jx2, nI_clamp (by omega)]; omega
    rw [if_neg hne, q0, q1, q2, hk, nI_1]
    rfl
  rw [e]
  exact DR1 (R3_add _ _ _ hL hk (by omega))
set_option maxRecDepth 20000 in
theorem e_tell_12 {lf_huts lf_singers lf_villages lf_dams lf_echoes lf_deep lf_slide vf_deeds sf_facts cf_voices cf_step : Int32} {la_heights la_ladders la_minutes la_echoFrom la_echoTo la_homes la_talls la_known va_kinds va_firsts va_seconds sa_heard sa_huts sa_minutes ca_parts ca_heights : Nat → Int32} {nums td : Nat → Int32} {h s fh fs a b c : Int32} {post : (Int32) → (Int32) → (Int32) → (Int32) → (Int32) → (Int32) → (Int32) → (Nat → Int32) → (Nat → Int32) → (Nat → Int32) → (Nat → Int32) → (Nat → Int32) → (Nat → Int32) → (Nat → Int32) → (Nat → Int32) → (Int32) → (Nat → Int32) → (Nat → Int32) → (Nat → Int32) → (Int32) → (Nat → Int32) → (Nat → Int32) → (Nat → Int32) → (Int32) → (Int32) → (Nat → Int32) → (Nat → Int32) → Int32 → Int32 → Prop} (hC : CB 1 td) (hf : fu 12 td = false) (n0 : nums 0 = a) (c0 : cW 12 0 a a = true) (n1 : nums 1 = b) (c1 : cW 12 1 a b = true) (hD : DR 1 lf_huts lf_singers lf_villages lf_dams lf_echoes lf_deep lf_slide la_heights la_ladders la_minutes la_echoFrom la_echoTo la_homes la_talls la_known vf_deeds va_kinds va_firsts va_seconds sf_facts sa_heard sa_huts sa_minutes cf_voices cf_step ca_parts ca_heights h s td fh fs) (hpo : ∀ (lf_huts' : Int32) (lf_singers' : Int32) (lf_villages' : Int32) (lf_dams' : Int32) (lf_echoes' : Int32) (lf_deep' : Int32) (lf_slide' : Int32) (la_heights' : Nat → Int32) (la_ladders' : Nat → Int32) (la_minutes' : Nat → Int32) (la_echoFrom' : Nat → Int32) (la_echoTo' : Nat → Int32) (la_homes' : Nat → Int32) (la_talls' : Nat → Int32) (la_known' : Nat → Int32) (vf_deeds' : Int32) (va_kinds' : Nat → Int32) (va_firsts' : Nat → Int32) (va_seconds' : Nat → Int32) (sf_facts' : Int32) (sa_heard' : Nat → Int32) (sa_huts' : Nat → Int32) (sa_minutes' : Nat → Int32) (cf_voices' : Int32) (cf_step' : Int32) (ca_parts' : Nat → Int32) (ca_heights' : Nat → Int32) (h' s' : Int32), DR 1 lf_huts' lf_singers' lf_villages' lf_dams' lf_echoes' lf_deep' lf_slide' la_heights' la_ladders' la_minutes' la_echoFrom' la_echoTo' la_homes' la_talls' la_known' vf_deeds' va_kinds' va_firsts' va_seconds' sf_facts' sa_heard' sa_huts' sa_minutes' cf_voices' cf_step' ca_parts' ca_heights' h' s' (lD 12 true a b c td) (lH 12 a b fh) (lS 12 a fs) → post lf_huts' lf_singers' lf_villages' lf_dams' lf_echoes' lf_deep' lf_slide' la_heights' la_ladders' la_minutes' la_echoFrom' la_echoTo' la_homes' la_talls' la_known' vf_deeds' va_kinds' va_firsts' va_seconds' sf_facts' sa_heard' sa_huts' sa_minutes' cf_voices' cf_step' ca_parts' ca_heights' h' s') : q_wr_X4_tell_0 lf_huts lf_singers lf_villages lf_dams lf_echoes lf_deep lf_slide la_heights la_ladders la_minutes la_echoFrom la_echoTo la_homes la_talls la_known vf_deeds va_kinds va_firsts va_seconds sf_facts sa_heard sa_huts sa_minutes cf_voices cf_step ca_parts ca_heights nums h s (nI 12) post := by
  have hL := hD.2.1 rfl
  obtain ⟨k, hk, -, hk9, -⟩ := iv_nI hC.1 (by decide)
  have hne : ¬ td 0 = 40 := fun h9 => by
    have := of_decide_eq_false hf
    exact this (by simp [h9])
  have hk8 : k < 40 := Nat.lt_of_le_of_ne (by omega) (fun h9 => hne (by rw [hk, h9]; rfl))
  have e0 : vf_deeds = nI k := hL.1.trans hk
  have hin : vp_in vf_deeds 40 := by rw [e0]; exact vp_in_nI hk8 (by omega)
  refine ⟨fun _ => ⟨fun h9 => absurd h9 (by decide +kernel), fun _ => ⟨vp_in_nI (by decide) (by decide), ?_⟩⟩, fun h9 => absurd h9 (by decide +kernel)⟩
  rw [c_0, c_1, n0, n1]
  refine ⟨fun h9 => absurd h9 (by decide +kernel), fun _ => ?_⟩
  refine ⟨fun h9 => absurd h9 (by rw [e0]; exact nI_ge (b := 40) hk8 (by omega)), fun _ => ⟨hin, fun t1 e1 => ⟨hin, fun t2 e2 => ⟨hin, fun t3 e3 v e4 => ?_⟩⟩⟩⟩
  rw [e0, nI_clamp (by omega)] at e1 e2 e3
  rw [e0, nI_1] at e4
  subst e1 e2 e3 e4
  refine hpo _ _ _ _ _ _ _ _ _ _ _ _ _ _ _ _ _ _ _ _ _ _ _ _ _ _ _ _ _ ?_
  have e : lD 12 true a b c td = upd (upd (upd (upd td 0 (nI (k + 1))) (1 + 3 * k) (nI 12 - 10)) (2 + 3 * k) a) (3 + 3 * k) b := by
    show (if td 0 = 40 then td else upd (upd (upd (upd td 0 (td 0 + 1)) (Int32.toNatClampNeg ((1 + 3 * td 0) + 0)) (nI (12 - 10))) (Int32.toNatClampNeg ((1 + 3 * td 0) + 1)) a) (Int32.toNatClampNeg ((1 + 3 * td 0) + 2)) b) = _
    have q0 : Int32.toNatClampNeg ((1 + 3 * td 0) + 0) = 1 + 3 * k := by rw [hk, show (1 : Int32) = nI 1 from rfl, show (3 : Int32) = nI 3 from rfl, show (0 : Int32) = nI 0 from rfl, jx2, nI_clamp (by omega)]; omega
    have q1 : Int32.toNatClampNeg ((1 + 3 * td 0) + 1) = 2 + 3 * k := by rw [hk, show (1 : Int32) = nI 1 from rfl, show (3 : Int32) = nI 3 from rfl, jx2, nI_clamp (by omega)]; omega
    have q2 : Int32.toNatClampNeg ((1 + 3 * td 0) + 2) = 3 + 3 * k := by rw [hk, show (1 : Int32) = nI 1 from rfl, show (3 : Int32) = nI 3 from rfl, show (2 : Int32) = nI 2 from rfl, jx2, nI_clamp (by omega)]; omega
    rw [if_neg hne, q0, q1, q2, hk, nI_1]
    rfl
  rw [e]
  exact DR1 (R3_add _ _ _ hL hk (by omega))
set_option maxRecDepth 20000 in
theorem e_tell_13 {lf_huts lf_singers lf_villages lf_dams lf_echoes lf_deep lf_slide vf_deeds sf_facts cf_voices cf_step : Int32} {la_heights la_ladders la_minutes la_echoFrom la_echoTo la_homes la_talls la_known va_kinds va_firsts va_seconds sa_heard sa_huts sa_minutes ca_parts ca_heights : Nat → Int32} {nums td : Nat → Int32} {h s fh fs a b c : Int32} {post : (Int32) → (Int32) → (Int32) → (Int32) → (Int32) → (Int32) → (Int32) → (Nat → Int32) → (Nat → Int32) → (Nat → Int32) → (Nat → Int32) → (Nat → Int32) → (Nat → Int32) → (Nat → Int32) → (Nat → Int32) → (Int32) → (Nat → Int32) → (Nat → Int32) → (Nat → Int32) → (Int32) → (Nat → Int32) → (Nat → Int32) → (Nat → Int32) → (Int32) → (Int32) → (Nat → Int32) → (Nat → Int32) → Int32 → Int32 → Prop} (hC : CB 1 td) (hf : fu 13 td = false) (n0 : nums 0 = a) (c0 : cW 13 0 a a = true) (n1 : nums 1 = b) (c1 : cW 13 1 a b = true) (hD : DR 1 lf_huts lf_singers lf_villages lf_dams lf_echoes lf_deep lf_slide la_heights la_ladders la_minutes la_echoFrom la_echoTo la_homes la_talls la_known vf_deeds va_kinds va_firsts va_seconds sf_facts sa_heard sa_huts sa_minutes cf_voices cf_step ca_parts ca_heights h s td fh fs) (hpo : ∀ (lf_huts' : Int32) (lf_singers' : Int32) (lf_villages' : Int32) (lf_dams' : Int32) (lf_echoes' : Int32) (lf_deep' : Int32) (lf_slide' : Int32) (la_heights' : Nat → Int32) (la_ladders' : Nat → Int32) (la_minutes' : Nat → Int32) (la_echoFrom' : Nat → Int32) (la_echoTo' : Nat → Int32) (la_homes' : Nat → Int32) (la_talls' : Nat → Int32) (la_known' : Nat → Int32) (vf_deeds' : Int32) (va_kinds' : Nat → Int32) (va_firsts' : Nat → Int32) (va_seconds' : Nat → Int32) (sf_facts' : Int32) (sa_heard' : Nat → Int32) (sa_huts' : Nat → Int32) (sa_minutes' : Nat → Int32) (cf_voices' : Int32) (cf_step' : Int32) (ca_parts' : Nat → Int32) (ca_heights' : Nat → Int32) (h' s' : Int32), DR 1 lf_huts' lf_singers' lf_villages' lf_dams' lf_echoes' lf_deep' lf_slide' la_heights' la_ladders' la_minutes' la_echoFrom' la_echoTo' la_homes' la_talls' la_known' vf_deeds' va_kinds' va_firsts' va_seconds' sf_facts' sa_heard' sa_huts' sa_minutes' cf_voices' cf_step' ca_parts' ca_heights' h' s' (lD 13 true a b c td) (lH 13 a b fh) (lS 13 a fs) → post lf_huts' lf_singers' lf_villages' lf_dams' lf_echoes' lf_deep' lf_slide' la_heights' la_ladders' la_minutes' la_echoFrom' la_echoTo' la_homes' la_talls' la_known' vf_deeds' va_kinds' va_firsts' va_seconds' sf_facts' sa_heard' sa_huts' sa_minutes' cf_voices' cf_step' ca_parts' ca_heights' h' s') : q_wr_X4_tell_0 lf_huts lf_singers lf_villages lf_dams lf_echoes lf_deep lf_slide la_heights la_ladders la_minutes la_echoFrom la_echoTo la_homes la_talls la_known vf_deeds va_kinds va_firsts va_seconds sf_facts sa_heard sa_huts sa_minutes cf_voices cf_step ca_parts ca_heights nums h s (nI 13) post := by
  have hL := hD.2.1 rfl
  obtain ⟨k, hk, -, hk9, -⟩ := iv_nI hC.1 (by decide)
  have hne : ¬ td 0 = 40 := fun h9 => by
    have := of_decide_eq_false hf
    exact this (by simp [h9])
  have hk8 : k < 40 := Nat.lt_of_le_of_ne (by omega) (fun h9 => hne (by rw [hk, h9]; rfl))
  have e0 : vf_deeds = nI k := hL.1.trans hk
  have hin : vp_in vf_deeds 40 := by rw [e0]; exact vp_in_nI hk8 (by omega)
  refine ⟨fun _ => ⟨fun h9 => absurd h9 (by decide +kernel), fun _ => ⟨vp_in_nI (by decide) (by decide), ?_⟩⟩, fun h9 => absurd h9 (by decide +kernel)⟩
  rw [c_0, c_1, n0, n1]
  refine ⟨fun h9 => absurd h9 (by decide +kernel), fun _ => ?_⟩
  refine ⟨fun h9 => absurd h9 (by rw [e0]; exact nI_ge (b := 40) hk8 (by omega)), fun _ => ⟨hin, fun t1 e1 => ⟨hin, fun t2 e2 => ⟨hin, fun t3 e3 v e4 => ?_⟩⟩⟩⟩
  rw [e0, nI_clamp (by omega)] at e1 e2 e3
  rw [e0, nI_1] at e4
  subst e1 e2 e3 e4
  refine hpo _ _ _ _ _ _ _ _ _ _ _ _ _ _ _ _ _ _ _ _ _ _ _ _ _ _ _ _ _ ?_
  have e : lD 13 true a b c td = upd (upd (upd (upd td 0 (nI (k + 1))) (1 + 3 * k) (nI 13 - 10)) (2 + 3 * k) a) (3 + 3 * k) b := by
    show (if td 0 = 40 then td else upd (upd (upd (upd td 0 (td 0 + 1)) (Int32.toNatClampNeg ((1 + 3 * td 0) + 0)) (nI (13 - 10))) (Int32.toNatClampNeg ((1 + 3 * td 0) + 1)) a) (Int32.toNatClampNeg ((1 + 3 * td 0) + 2)) b) = _
    have q0 : Int32.toNatClampNeg ((1 + 3 * td 0) + 0) = 1 + 3 * k := by rw [hk, show (1 : Int32) = nI 1 from rfl, show (3 : Int32) = nI 3 from rfl, show (0 : Int32) = nI 0 from rfl, jx2, nI_clamp (by omega)]; omega
    have q1 : Int32.toNatClampNeg ((1 + 3 * td 0) + 1) = 2 + 3 * k := by rw [hk, show (1 : Int32) = nI 1 from rfl, show (3 : Int32) = nI 3 from rfl, jx2, nI_clamp (by omega)]; omega
    have q2 : Int32.toNatClampNeg ((1 + 3 * td 0) + 2) = 3 + 3 * k := by rw [hk, show (1 : Int32) = nI 1 from rfl, show (3 : Int32) = nI 3 from rfl, show (2 : Int32) = nI 2 from rfl, jx2, nI_clamp (by omega)]; omega
    rw [if_neg hne, q0, q1, q2, hk, nI_1]
    rfl
  rw [e]
  exact DR1 (R3_add _ _ _ hL hk (by omega))
set_option maxRecDepth 20000 in
theorem e_tell_14 {lf_huts lf_singers lf_villages lf_dams lf_echoes lf_deep lf_slide vf_deeds sf_facts cf_voices cf_step : Int32} {la_heights la_ladders la_minutes la_echoFrom la_echoTo la_homes la_talls la_known va_kinds va_firsts va_seconds sa_heard sa_huts sa_minutes ca_parts ca_heights : Nat → Int32} {nums td : Nat → Int32} {h s fh fs a b c : Int32} {post : (Int32) → (Int32) → (Int32) → (Int32) → (Int32) → (Int32) → (Int32) → (Nat → Int32) → (Nat → Int32) → (Nat → Int32) → (Nat → Int32) → (Nat → Int32) → (Nat → Int32) → (Nat → Int32) → (Nat → Int32) → (Int32) → (Nat → Int32) → (Nat → Int32) → (Nat → Int32) → (Int32) → (Nat → Int32) → (Nat → Int32) → (Nat → Int32) → (Int32) → (Int32) → (Nat → Int32) → (Nat → Int32) → Int32 → Int32 → Prop} (hC : CB 1 td) (hf : fu 14 td = false) (n0 : nums 0 = a) (c0 : cW 14 0 a a = true) (hD : DR 1 lf_huts lf_singers lf_villages lf_dams lf_echoes lf_deep lf_slide la_heights la_ladders la_minutes la_echoFrom la_echoTo la_homes la_talls la_known vf_deeds va_kinds va_firsts va_seconds sf_facts sa_heard sa_huts sa_minutes cf_voices cf_step ca_parts ca_heights h s td fh fs) (hpo : ∀ (lf_huts' : Int32) (lf_singers' : Int32) (lf_villages' : Int32) (lf_dams' : Int32) (lf_echoes' : Int32) (lf_deep' : Int32) (lf_slide' : Int32) (la_heights' : Nat → Int32) (la_ladders' : Nat → Int32) (la_minutes' : Nat → Int32) (la_echoFrom' : Nat → Int32) (la_echoTo' : Nat → Int32) (la_homes' : Nat → Int32) (la_talls' : Nat → Int32) (la_known' : Nat → Int32) (vf_deeds' : Int32) (va_kinds' : Nat → Int32) (va_firsts' : Nat → Int32) (va_seconds' : Nat → Int32) (sf_facts' : Int32) (sa_heard' : Nat → Int32) (sa_huts' : Nat → Int32) (sa_minutes' : Nat → Int32) (cf_voices' : Int32) (cf_step' : Int32) (ca_parts' : Nat → Int32) (ca_heights' : Nat → Int32) (h' s' : Int32), DR 1 lf_huts' lf_singers' lf_villages' lf_dams' lf_echoes' lf_deep' lf_slide' la_heights' la_ladders' la_minutes' la_echoFrom' la_echoTo' la_homes' la_talls' la_known' vf_deeds' va_kinds' va_firsts' va_seconds' sf_facts' sa_heard' sa_huts' sa_minutes' cf_voices' cf_step' ca_parts' ca_heights' h' s' (lD 14 true a b c td) (lH 14 a b fh) (lS 14 a fs) → post lf_huts' lf_singers' lf_villages' lf_dams' lf_echoes' lf_deep' lf_slide' la_heights' la_ladders' la_minutes' la_echoFrom' la_echoTo' la_homes' la_talls' la_known' vf_deeds' va_kinds' va_firsts' va_seconds' sf_facts' sa_heard' sa_huts' sa_minutes' cf_voices' cf_step' ca_parts' ca_heights' h' s') : q_wr_X4_tell_0 lf_huts lf_singers lf_villages lf_dams lf_echoes lf_deep lf_slide la_heights la_ladders la_minutes la_echoFrom la_echoTo la_homes la_talls la_known vf_deeds va_kinds va_firsts va_seconds sf_facts sa_heard sa_huts sa_minutes cf_voices cf_step ca_parts ca_heights nums h s (nI 14) post := by
  have hL := hD.2.1 rfl
  obtain ⟨k, hk, -, hk9, -⟩ := iv_nI hC.1 (by decide)
  have hne : ¬ td 0 = 40 := fun h9 => by
    have := of_decide_eq_false hf
    exact this (by simp [h9])
  have hk8 : k < 40 := Nat.lt_of_le_of_ne (by omega) (fun h9 => hne (by rw [hk, h9]; rfl))
  have e0 : vf_deeds = nI k := hL.1.trans hk
  have hin : vp_in vf_deeds 40 := by rw [e0]; exact vp_in_nI hk8 (by omega)
  refine ⟨fun _ => ⟨fun h9 => absurd h9 (by decide +kernel), fun _ => ⟨vp_in_nI (by decide) (by decide), ?_⟩⟩, fun h9 => absurd h9 (by decide +kernel)⟩
  rw [c_0, n0]
  refine ⟨fun _ => ?_, fun h9 => absurd h9 (by decide +kernel)⟩
  refine ⟨fun h9 => absurd h9 (by rw [e0]; exact nI_ge (b := 40) hk8 (by omega)), fun _ => ⟨hin, fun t1 e1 => ⟨hin, fun t2 e2 => ⟨hin, fun t3 e3 v e4 => ?_⟩⟩⟩⟩
  rw [e0, nI_clamp (by omega)] at e1 e2 e3
  rw [e0, nI_1] at e4
  subst e1 e2 e3 e4
  refine hpo _ _ _ _ _ _ _ _ _ _ _ _ _ _ _ _ _ _ _ _ _ _ _ _ _ _ _ _ _ ?_
  have e : lD 14 true a b c td = upd (upd (upd (upd td 0 (nI (k + 1))) (1 + 3 * k) (nI 14 - 10)) (2 + 3 * k) a) (3 + 3 * k) (-1) := by
    show (if td 0 = 40 then td else upd (upd (upd (upd td 0 (td 0 + 1)) (Int32.toNatClampNeg ((1 + 3 * td 0) + 0)) (nI (14 - 10))) (Int32.toNatClampNeg ((1 + 3 * td 0) + 1)) a) (Int32.toNatClampNeg ((1 + 3 * td 0) + 2)) (-1)) = _
    have q0 : Int32.toNatClampNeg ((1 + 3 * td 0) + 0) = 1 + 3 * k := by rw [hk, show (1 : Int32) = nI 1 from rfl, show (3 : Int32) = nI 3 from rfl, show (0 : Int32) = nI 0 from rfl, jx2, nI_clamp (by omega)]; omega
    have q1 : Int32.toNatClampNeg ((1 + 3 * td 0) + 1) = 2 + 3 * k := by rw [hk, show (1 : Int32) = nI 1 from rfl, show (3 : Int32) = nI 3 from rfl, jx2, nI_clamp (by omega)]; omega
    have q2 : Int32.toNatClampNeg ((1 + 3 * td 0) + 2) = 3 + 3 * k := by rw [hk, show (1 : Int32) = nI 1 from rfl, show (3 : Int32) = nI 3 from rfl, show (2 : Int32) = nI 2 from rfl, jx2, nI_clamp (by omega)]; omega
    rw [if_neg hne, q0, q1, q2, hk, nI_1]
    rfl
  rw [e]
  exact DR1 (R3_add _ _ _ hL hk (by omega))
set_option maxRecDepth 20000 in
theorem e_tell_15 {lf_huts lf_singers lf_villages lf_dams lf_echoes lf_deep lf_slide vf_deeds sf_facts cf_voices cf_step : Int32} {la_heights la_ladders la_minutes la_echoFrom la_echoTo la_homes la_talls la_known va_kinds va_firsts va_seconds sa_heard sa_huts sa_minutes ca_parts ca_heights : Nat → Int32} {nums td : Nat → Int32} {h s fh fs a b c : Int32} {post : (Int32) → (Int32) → (Int32) → (Int32) → (Int32) → (Int32) → (Int32) → (Nat → Int32) → (Nat → Int32) → (Nat → Int32) → (Nat → Int32) → (Nat → Int32) → (Nat → Int32) → (Nat → Int32) → (Nat → Int32) → (Int32) → (Nat → Int32) → (Nat → Int32) → (Nat → Int32) → (Int32) → (Nat → Int32) → (Nat → Int32) → (Nat → Int32) → (Int32) → (Int32) → (Nat → Int32) → (Nat → Int32) → Int32 → Int32 → Prop} (hC : CB 1 td) (hf : fu 15 td = false) (n0 : nums 0 = a) (c0 : cW 15 0 a a = true) (hD : DR 1 lf_huts lf_singers lf_villages lf_dams lf_echoes lf_deep lf_slide la_heights la_ladders la_minutes la_echoFrom la_echoTo la_homes la_talls la_known vf_deeds va_kinds va_firsts va_seconds sf_facts sa_heard sa_huts sa_minutes cf_voices cf_step ca_parts ca_heights h s td fh fs) (hpo : ∀ (lf_huts' : Int32) (lf_singers' : Int32) (lf_villages' : Int32) (lf_dams' : Int32) (lf_echoes' : Int32) (lf_deep' : Int32) (lf_slide' : Int32) (la_heights' : Nat → Int32) (la_ladders' : Nat → Int32) (la_minutes' : Nat → Int32) (la_echoFrom' : Nat → Int32) (la_echoTo' : Nat → Int32) (la_homes' : Nat → Int32) (la_talls' : Nat → Int32) (la_known' : Nat → Int32) (vf_deeds' : Int32) (va_kinds' : Nat → Int32) (va_firsts' : Nat → Int32) (va_seconds' : Nat → Int32) (sf_facts' : Int32) (sa_heard' : Nat → Int32) (sa_huts' : Nat → Int32) (sa_minutes' : Nat → Int32) (cf_voices' : Int32) (cf_step' : Int32) (ca_parts' : Nat → Int32) (ca_heights' : Nat → Int32) (h' s' : Int32), DR 1 lf_huts' lf_singers' lf_villages' lf_dams' lf_echoes' lf_deep' lf_slide' la_heights' la_ladders' la_minutes' la_echoFrom' la_echoTo' la_homes' la_talls' la_known' vf_deeds' va_kinds' va_firsts' va_seconds' sf_facts' sa_heard' sa_huts' sa_minutes' cf_voices' cf_step' ca_parts' ca_heights' h' s' (lD 15 true a b c td) (lH 15 a b fh) (lS 15 a fs) → post lf_huts' lf_singers' lf_villages' lf_dams' lf_echoes' lf_deep' lf_slide' la_heights' la_ladders' la_minutes' la_echoFrom' la_echoTo' la_homes' la_talls' la_known' vf_deeds' va_kinds' va_firsts' va_seconds' sf_facts' sa_heard' sa_huts' sa_minutes' cf_voices' cf_step' ca_parts' ca_heights' h' s') : q_wr_X4_tell_0 lf_huts lf_singers lf_villages lf_dams lf_echoes lf_deep lf_slide la_heights la_ladders la_minutes la_echoFrom la_echoTo la_homes la_talls la_known vf_deeds va_kinds va_firsts va_seconds sf_facts sa_heard sa_huts sa_minutes cf_voices cf_step ca_parts ca_heights nums h s (nI 15) post := by
  have hL := hD.2.1 rfl
  obtain ⟨k, hk, -, hk9, -⟩ := iv_nI hC.1 (by decide)
  have hne : ¬ td 0 = 40 := fun h9 => by
    have := of_decide_eq_false hf
    exact this (by simp [h9])
  have hk8 : k < 40 := Nat.lt_of_le_of_ne (by omega) (fun h9 => hne (by rw [hk, h9]; rfl))
  have e0 : vf_deeds = nI k := hL.1.trans hk
  have hin : vp_in vf_deeds 40 := by rw [e0]; exact vp_in_nI hk8 (by omega)
  refine ⟨fun _ => ⟨fun h9 => absurd h9 (by decide +kernel), fun _ => ⟨vp_in_nI (by decide) (by decide), ?_⟩⟩, fun h9 => absurd h9 (by decide +kernel)⟩
  rw [c_0, n0]
  refine ⟨fun _ => ?_, fun h9 => absurd h9 (by decide +kernel)⟩
  refine ⟨fun h9 => absurd h9 (by rw [e0]; exact nI_ge (b := 40) hk8 (by omega)), fun _ => ⟨hin, fun t1 e1 => ⟨hin, fun t2 e2 => ⟨hin, fun t3 e3 v e4 => ?_⟩⟩⟩⟩
  rw [e0, nI_clamp (by omega)] at e1 e2 e3
  rw [e0, nI_1] at e4
  subst e1 e2 e3 e4
  refine hpo _ _ _ _ _ _ _ _ _ _ _ _ _ _ _ _ _ _ _ _ _ _ _ _ _ _ _ _ _ ?_
  have e : lD 15 true a b c td = upd (upd (upd (upd td 0 (nI (k + 1))) (1 + 3 * k) (nI 15 - 10)) (2 + 3 * k) a) (3 + 3 * k) (-1) := by
    show (if td 0 = 40 then td else upd (upd (upd (upd td 0 (td 0 + 1)) (Int32.toNatClampNeg ((1 + 3 * td 0) + 0)) (nI (15 - 10))) (Int32.toNatClampNeg ((1 + 3 * td 0) + 1)) a) (Int32.toNatClampNeg ((1 + 3 * td 0) + 2)) (-1)) = _
    have q0 : Int32.toNatClampNeg ((1 + 3 * td 0) + 0) = 1 + 3 * k := by rw [hk, show (1 : Int32) = nI 1 from rfl, show (3 : Int32) = nI 3 from rfl, show (0 : Int32) = nI 0 from rfl, jx2, nI_clamp (by omega)]; omega
    have q1 : Int32.toNatClampNeg ((1 + 3 * td 0) + 1) = 2 + 3 * k := by rw [hk, show (1 : Int32) = nI 1 from rfl, show (3 : Int32) = nI 3 from rfl, jx2, nI_clamp (by omega)]; omega
    have q2 : Int32.toNatClampNeg ((1 + 3 * td 0) + 2) = 3 + 3 * k := by rw [hk, show (1 : Int32) = nI 1 from rfl, show (3 : Int32) = nI 3 from rfl, show (2 : Int32) = nI 2 from rfl, jx2, nI_clamp (by omega)]; omega
    rw [if_neg hne, q0, q1, q2, hk, nI_1]
    rfl
  rw [e]
  exact DR1 (R3_add _ _ _ hL hk (by omega))
set_option maxRecDepth 20000 in
theorem e_tell_16 {lf_huts lf_singers lf_villages lf_dams lf_echoes lf_deep lf_slide vf_deeds sf_facts cf_voices cf_step : Int32} {la_heights la_ladders la_minutes la_echoFrom la_echoTo la_homes la_talls la_known va_kinds va_firsts va_seconds sa_heard sa_huts sa_minutes ca_parts ca_heights : Nat → Int32} {nums td : Nat → Int32} {h s fh fs a b c : Int32} {post : (Int32) → (Int32) → (Int32) → (Int32) → (Int32) → (Int32) → (Int32) → (Nat → Int32) → (Nat → Int32) → (Nat → Int32) → (Nat → Int32) → (Nat → Int32) → (Nat → Int32) → (Nat → Int32) → (Nat → Int32) → (Int32) → (Nat → Int32) → (Nat → Int32) → (Nat → Int32) → (Int32) → (Nat → Int32) → (Nat → Int32) → (Nat → Int32) → (Int32) → (Int32) → (Nat → Int32) → (Nat → Int32) → Int32 → Int32 → Prop} (hC : CB 2 td) (hf : fu 16 td = false) (n0 : nums 0 = a) (c0 : cW 16 0 a a = true) (n1 : nums 1 = b) (c1 : cW 16 1 a b = true) (hD : DR 2 lf_huts lf_singers lf_villages lf_dams lf_echoes lf_deep lf_slide la_heights la_ladders la_minutes la_echoFrom la_echoTo la_homes la_talls la_known vf_deeds va_kinds va_firsts va_seconds sf_facts sa_heard sa_huts sa_minutes cf_voices cf_step ca_parts ca_heights h s td fh fs) (hpo : ∀ (lf_huts' : Int32) (lf_singers' : Int32) (lf_villages' : Int32) (lf_dams' : Int32) (lf_echoes' : Int32) (lf_deep' : Int32) (lf_slide' : Int32) (la_heights' : Nat → Int32) (la_ladders' : Nat → Int32) (la_minutes' : Nat → Int32) (la_echoFrom' : Nat → Int32) (la_echoTo' : Nat → Int32) (la_homes' : Nat → Int32) (la_talls' : Nat → Int32) (la_known' : Nat → Int32) (vf_deeds' : Int32) (va_kinds' : Nat → Int32) (va_firsts' : Nat → Int32) (va_seconds' : Nat → Int32) (sf_facts' : Int32) (sa_heard' : Nat → Int32) (sa_huts' : Nat → Int32) (sa_minutes' : Nat → Int32) (cf_voices' : Int32) (cf_step' : Int32) (ca_parts' : Nat → Int32) (ca_heights' : Nat → Int32) (h' s' : Int32), DR 2 lf_huts' lf_singers' lf_villages' lf_dams' lf_echoes' lf_deep' lf_slide' la_heights' la_ladders' la_minutes' la_echoFrom' la_echoTo' la_homes' la_talls' la_known' vf_deeds' va_kinds' va_firsts' va_seconds' sf_facts' sa_heard' sa_huts' sa_minutes' cf_voices' cf_step' ca_parts' ca_heights' h' s' (lD 16 true a b c td) (lH 16 a b fh) (lS 16 a fs) → post lf_huts' lf_singers' lf_villages' lf_dams' lf_echoes' lf_deep' lf_slide' la_heights' la_ladders' la_minutes' la_echoFrom' la_echoTo' la_homes' la_talls' la_known' vf_deeds' va_kinds' va_firsts' va_seconds' sf_facts' sa_heard' sa_huts' sa_minutes' cf_voices' cf_step' ca_parts' ca_heights' h' s') : q_wr_X4_tell_0 lf_huts lf_singers lf_villages lf_dams lf_echoes lf_deep lf_slide la_heights la_ladders la_minutes la_echoFrom la_echoTo la_homes la_talls la_known vf_deeds va_kinds va_firsts va_seconds sf_facts sa_heard sa_huts sa_minutes cf_voices cf_step ca_parts ca_heights nums h s (nI 16) post := by
  have hL := hD.2.2.1 rfl
  obtain ⟨k, hk, -, hk9, -⟩ := iv_nI hC.1 (by decide)
  have hne : ¬ td 0 = 10 := fun h9 => by
    have := of_decide_eq_false hf
    exact this (by simp [h9])
  have hk8 : k < 10 := Nat.lt_of_le_of_ne (by omega) (fun h9 => hne (by rw [hk, h9]; rfl))
  have e0 : sf_facts = nI k := hL.1.trans hk
  have hin : vp_in sf_facts 10 := by rw [e0]; exact vp_in_nI hk8 (by omega)
  refine ⟨fun _ => ⟨fun _ => ⟨fun h9 => absurd h9 (by decide +kernel), fun _ => ⟨fun h9 => absurd h9 (by decide +kernel), fun _ => ?_⟩⟩, fun h9 => absurd h9 (by decide +kernel)⟩, fun h9 => absurd h9 (by decide +kernel)⟩
  unfold q_wr_X4_tell_98
  rw [c_0, c_1, n0, n1]
  refine ⟨fun h9 => absurd h9 (by rw [e0]; exact nI_ge (b := 10) hk8 (by omega)), fun _ => ⟨hin, fun t1 e1 => ⟨hin, fun t2 e2 => ⟨hin, fun t3 e3 v e4 => ?_⟩⟩⟩⟩
  rw [e0, nI_clamp (by omega)] at e1 e2 e3
  rw [e0, nI_1] at e4
  subst e1 e2 e3 e4
  refine hpo _ _ _ _ _ _ _ _ _ _ _ _ _ _ _ _ _ _ _ _ _ _ _ _ _ _ _ _ _ ?_
  have e : lD 16 true a b c td = upd (upd (upd (upd td 0 (nI (k + 1))) (1 + 3 * k) 1) (2 + 3 * k) a) (3 + 3 * k) b := by
    show (if td 0 = 10 then td else upd (upd (upd (upd td 0 (td 0 + 1)) (Int32.toNatClampNeg ((1 + 3 * td 0) + 0)) 1) (Int32.toNatClampNeg ((1 + 3 * td 0) + 1)) a) (Int32.toNatClampNeg ((1 + 3 * td 0) + 2)) b) = _
    have q0 : Int32.toNatClampNeg ((1 + 3 * td 0) + 0) = 1 + 3 * k := by rw [hk, show (1 : Int32) = nI 1 from rfl, show (3 : Int32) = nI 3 from rfl, show (0 : Int32) = nI 0 from rfl, jx2, nI_clamp (by omega)]; omega
    have q1 : Int32.toNatClampNeg ((1 + 3 * td 0) + 1) = 2 + 3 * k := by rw [hk, show (1 : Int32) = nI 1 from rfl, show (3 : Int32) = nI 3 from rfl, jx2, nI_clamp (by omega)]; omega
    have q2 : Int32.toNatClampNeg ((1 + 3 * td 0) + 2) = 3 + 3 * k := by rw [hk, show (1 : Int32) = nI 1 from rfl, show (3 : Int32) = nI 3 from rfl, show (2 : Int32) = nI 2 from rfl, jx2, nI_clamp (by omega)]; omega
    rw [if_neg hne, q0, q1, q2, hk, nI_1]
  rw [e]
  exact DR2 (R3_add _ _ _ hL hk (by omega))
set_option maxRecDepth 20000 in
theorem e_tell_17 {lf_huts lf_singers lf_villages lf_dams lf_echoes lf_deep lf_slide vf_deeds sf_facts cf_voices cf_step : Int32} {la_heights la_ladders la_minutes la_echoFrom la_echoTo la_homes la_talls la_known va_kinds va_firsts va_seconds sa_heard sa_huts sa_minutes ca_parts ca_heights : Nat → Int32} {nums td : Nat → Int32} {h s fh fs a b c : Int32} {post : (Int32) → (Int32) → (Int32) → (Int32) → (Int32) → (Int32) → (Int32) → (Nat → Int32) → (Nat → Int32) → (Nat → Int32) → (Nat → Int32) → (Nat → Int32) → (Nat → Int32) → (Nat → Int32) → (Nat → Int32) → (Int32) → (Nat → Int32) → (Nat → Int32) → (Nat → Int32) → (Int32) → (Nat → Int32) → (Nat → Int32) → (Nat → Int32) → (Int32) → (Int32) → (Nat → Int32) → (Nat → Int32) → Int32 → Int32 → Prop} (hC : CB 2 td) (hf : fu 17 td = false) (n0 : nums 0 = a) (c0 : cW 17 0 a a = true) (n1 : nums 1 = b) (c1 : cW 17 1 a b = true) (hD : DR 2 lf_huts lf_singers lf_villages lf_dams lf_echoes lf_deep lf_slide la_heights la_ladders la_minutes la_echoFrom la_echoTo la_homes la_talls la_known vf_deeds va_kinds va_firsts va_seconds sf_facts sa_heard sa_huts sa_minutes cf_voices cf_step ca_parts ca_heights h s td fh fs) (hpo : ∀ (lf_huts' : Int32) (lf_singers' : Int32) (lf_villages' : Int32) (lf_dams' : Int32) (lf_echoes' : Int32) (lf_deep' : Int32) (lf_slide' : Int32) (la_heights' : Nat → Int32) (la_ladders' : Nat → Int32) (la_minutes' : Nat → Int32) (la_echoFrom' : Nat → Int32) (la_echoTo' : Nat → Int32) (la_homes' : Nat → Int32) (la_talls' : Nat → Int32) (la_known' : Nat → Int32) (vf_deeds' : Int32) (va_kinds' : Nat → Int32) (va_firsts' : Nat → Int32) (va_seconds' : Nat → Int32) (sf_facts' : Int32) (sa_heard' : Nat → Int32) (sa_huts' : Nat → Int32) (sa_minutes' : Nat → Int32) (cf_voices' : Int32) (cf_step' : Int32) (ca_parts' : Nat → Int32) (ca_heights' : Nat → Int32) (h' s' : Int32), DR 2 lf_huts' lf_singers' lf_villages' lf_dams' lf_echoes' lf_deep' lf_slide' la_heights' la_ladders' la_minutes' la_echoFrom' la_echoTo' la_homes' la_talls' la_known' vf_deeds' va_kinds' va_firsts' va_seconds' sf_facts' sa_heard' sa_huts' sa_minutes' cf_voices' cf_step' ca_parts' ca_heights' h' s' (lD 17 true a b c td) (lH 17 a b fh) (lS 17 a fs) → post lf_huts' lf_singers' lf_villages' lf_dams' lf_echoes' lf_deep' lf_slide' la_heights' la_ladders' la_minutes' la_echoFrom' la_echoTo' la_homes' la_talls' la_known' vf_deeds' va_kinds' va_firsts' va_seconds' sf_facts' sa_heard' sa_huts' sa_minutes' cf_voices' cf_step' ca_parts' ca_heights' h' s') : q_wr_X4_tell_0 lf_huts lf_singers lf_villages lf_dams lf_echoes lf_deep lf_slide la_heights la_ladders la_minutes la_echoFrom la_echoTo la_homes la_talls la_known vf_deeds va_kinds va_firsts va_seconds sf_facts sa_heard sa_huts sa_minutes cf_voices cf_step ca_parts ca_heights nums h s (nI 17) post := by
  have hL := hD.2.2.1 rfl
  obtain ⟨k, hk, -, hk9, -⟩ := iv_nI hC.1 (by decide)
  have hne : ¬ td 0 = 10 := fun h9 => by
    have := of_decide_eq_false hf
    exact this (by simp [h9])
  have hk8 : k < 10 := Nat.lt_of_le_of_ne (by omega) (fun h9 => hne (by rw [hk, h9]; rfl))
  have e0 : sf_facts = nI k := hL.1.trans hk
  have hin : vp_in sf_facts 10 := by rw [e0]; exact vp_in_nI hk8 (by omega)
  refine ⟨fun _ => ⟨fun _ => ⟨fun h9 => absurd h9 (by decide +kernel), fun _ => ⟨fun _ => ?_, fun h9 => absurd h9 (by decide +kernel)⟩⟩, fun h9 => absurd h9 (by decide +kernel)⟩, fun h9 => absurd h9 (by decide +kernel)⟩
  unfold q_wr_X4_tell_98
  rw [c_0, c_1, n0, n1]
  refine ⟨fun h9 => absurd h9 (by rw [e0]; exact nI_ge (b := 10) hk8 (by omega)), fun _ => ⟨hin, fun t1 e1 => ⟨hin, fun t2 e2 => ⟨hin, fun t3 e3 v e4 => ?_⟩⟩⟩⟩
  rw [e0, nI_clamp (by omega)] at e1 e2 e3
  rw [e0, nI_1] at e4
  subst e1 e2 e3 e4
  refine hpo _ _ _ _ _ _ _ _ _ _ _ _ _ _ _ _ _ _ _ _ _ _ _ _ _ _ _ _ _ ?_
  have e : lD 17 true a b c td = upd (upd (upd (upd td 0 (nI (k + 1))) (1 + 3 * k) 0) (2 + 3 * k) a) (3 + 3 * k) b := by
    show (if td 0 = 10 then td else upd (upd (upd (upd td 0 (td 0 + 1)) (Int32.toNatClampNeg ((1 + 3 * td 0) + 0)) 0) (Int32.toNatClampNeg ((1 + 3 * td 0) + 1)) a) (Int32.toNatClampNeg ((1 + 3 * td 0) + 2)) b) = _
    have q0 : Int32.toNatClampNeg ((1 + 3 * td 0) + 0) = 1 + 3 * k := by rw [hk, show (1 : Int32) = nI 1 from rfl, show (3 : Int32) = nI 3 from rfl, show (0 : Int32) = nI 0 from rfl, jx2, nI_clamp (by omega)]; omega
    have q1 : Int32.toNatClampNeg ((1 + 3 * td 0) + 1) = 2 + 3 * k := by rw [hk, show (1 : Int32) = nI 1 from rfl, show (3 : Int32) = nI 3 from rfl, jx2, nI_clamp (by omega)]; omega
    have q2 : Int32.toNatClampNeg ((1 + 3 * td 0) + 2) = 3 + 3 * k := by rw [hk, show (1 : Int32) = nI 1 from rfl, show (3 : Int32) = nI 3 from rfl, show (2 : Int32) = nI 2 from rfl, jx2, nI_clamp (by omega)]; omega
    rw [if_neg hne, q0, q1, q2, hk, nI_1]
  rw [e]
  exact DR2 (R3_add _ _ _ hL hk (by omega))
set_option maxRecDepth 20000 in
theorem e_tell_18 {lf_huts lf_singers lf_villages lf_dams lf_echoes lf_deep lf_slide vf_deeds sf_facts cf_voices cf_step : Int32} {la_heights la_ladders la_minutes la_echoFrom la_echoTo la_homes la_talls la_known va_kinds va_firsts va_seconds sa_heard sa_huts sa_minutes ca_parts ca_heights : Nat → Int32} {nums td : Nat → Int32} {h s fh fs a b c : Int32} {post : (Int32) → (Int32) → (Int32) → (Int32) → (Int32) → (Int32) → (Int32) → (Nat → Int32) → (Nat → Int32) → (Nat → Int32) → (Nat → Int32) → (Nat → Int32) → (Nat → Int32) → (Nat → Int32) → (Nat → Int32) → (Int32) → (Nat → Int32) → (Nat → Int32) → (Nat → Int32) → (Int32) → (Nat → Int32) → (Nat → Int32) → (Nat → Int32) → (Int32) → (Int32) → (Nat → Int32) → (Nat → Int32) → Int32 → Int32 → Prop} (hC : CB 3 td) (hf : fu 18 td = false) (n0 : nums 0 = a) (c0 : cW 18 0 a a = true) (n1 : nums 1 = b) (c1 : cW 18 1 a b = true) (hD : DR 3 lf_huts lf_singers lf_villages lf_dams lf_echoes lf_deep lf_slide la_heights la_ladders la_minutes la_echoFrom la_echoTo la_homes la_talls la_known vf_deeds va_kinds va_firsts va_seconds sf_facts sa_heard sa_huts sa_minutes cf_voices cf_step ca_parts ca_heights h s td fh fs) (hpo : ∀ (lf_huts' : Int32) (lf_singers' : Int32) (lf_villages' : Int32) (lf_dams' : Int32) (lf_echoes' : Int32) (lf_deep' : Int32) (lf_slide' : Int32) (la_heights' : Nat → Int32) (la_ladders' : Nat → Int32) (la_minutes' : Nat → Int32) (la_echoFrom' : Nat → Int32) (la_echoTo' : Nat → Int32) (la_homes' : Nat → Int32) (la_talls' : Nat → Int32) (la_known' : Nat → Int32) (vf_deeds' : Int32) (va_kinds' : Nat → Int32) (va_firsts' : Nat → Int32) (va_seconds' : Nat → Int32) (sf_facts' : Int32) (sa_heard' : Nat → Int32) (sa_huts' : Nat → Int32) (sa_minutes' : Nat → Int32) (cf_voices' : Int32) (cf_step' : Int32) (ca_parts' : Nat → Int32) (ca_heights' : Nat → Int32) (h' s' : Int32), DR 3 lf_huts' lf_singers' lf_villages' lf_dams' lf_echoes' lf_deep' lf_slide' la_heights' la_ladders' la_minutes' la_echoFrom' la_echoTo' la_homes' la_talls' la_known' vf_deeds' va_kinds' va_firsts' va_seconds' sf_facts' sa_heard' sa_huts' sa_minutes' cf_voices' cf_step' ca_parts' ca_heights' h' s' (lD 18 true a b c td) (lH 18 a b fh) (lS 18 a fs) → post lf_huts' lf_singers' lf_villages' lf_dams' lf_echoes' lf_deep' lf_slide' la_heights' la_ladders' la_minutes' la_echoFrom' la_echoTo' la_homes' la_talls' la_known' vf_deeds' va_kinds' va_firsts' va_seconds' sf_facts' sa_heard' sa_huts' sa_minutes' cf_voices' cf_step' ca_parts' ca_heights' h' s') : q_wr_X4_tell_0 lf_huts lf_singers lf_villages lf_dams lf_echoes lf_deep lf_slide la_heights la_ladders la_minutes la_echoFrom la_echoTo la_homes la_talls la_known vf_deeds va_kinds va_firsts va_seconds sf_facts sa_heard sa_huts sa_minutes cf_voices cf_step ca_parts ca_heights nums h s (nI 18) post := by
  have hL := hD.2.2.2 rfl
  obtain ⟨k, hk, -, hk9, -⟩ := iv_nI hC.1 (by decide)
  have hne : ¬ td 0 = 9 := fun h9 => by
    have := of_decide_eq_false hf
    exact this (by simp [h9])
  have hk8 : k < 9 := Nat.lt_of_le_of_ne (by omega) (fun h9 => hne (by rw [hk, h9]; rfl))
  have e0 : cf_voices = nI k := hL.1.trans hk
  have hin : vp_in cf_voices 9 := by rw [e0]; exact vp_in_nI hk8 (by omega)
  refine ⟨fun _ => ⟨fun _ => ⟨fun _ => ⟨fun h9 => absurd h9 (by decide +kernel), fun _ => ?_⟩, fun h9 => absurd h9 (by decide +kernel)⟩, fun h9 => absurd h9 (by decide +kernel)⟩, fun h9 => absurd h9 (by decide +kernel)⟩
  rw [c_0, c_1, n0, n1]
  refine ⟨fun h9 => absurd h9 (by rw [e0]; exact nI_ge (b := 9) hk8 (by omega)), fun _ => ⟨hin, fun t1 e1 => ⟨hin, fun t2 e2 v e4 => ?_⟩⟩⟩
  rw [e0, nI_clamp (by omega)] at e1 e2
  rw [e0, nI_1] at e4
  subst e1 e2 e4
  refine hpo _ _ _ _ _ _ _ _ _ _ _ _ _ _ _ _ _ _ _ _ _ _ _ _ _ _ _ _ _ ?_
  have e : lD 18 true a b c td = upd (upd (upd td 0 (nI (k + 1))) (1 + 2 * k) a) (2 + 2 * k) b := by
    show (if td 0 = 9 then td else upd (upd (upd td 0 (td 0 + 1)) (Int32.toNatClampNeg ((1 + 2 * td 0) + 0)) a) (Int32.toNatClampNeg ((1 + 2 * td 0) + 1)) b) = _
    have q0 : Int32.toNatClampNeg ((1 + 2 * td 0) + 0) = 1 + 2 * k := by rw [hk, show (1 : Int32) = nI 1 from rfl, show (2 : Int32) = nI 2 from rfl, show (0 : Int32) = nI 0 from rfl, jx2, nI_clamp (by omega)]; omega
    have q1 : Int32.toNatClampNeg ((1 + 2 * td 0) + 1) = 2 + 2 * k := by rw [hk, show (1 : Int32) = nI 1 from rfl, show (2 : Int32) = nI 2 from rfl, jx2, nI_clamp (by omega)]; omega
    rw [if_neg hne, q0, q1, hk, nI_1]
  rw [e]
  exact DR3 (CDR_add _ _ hL hk hk8)
set_option maxRecDepth 20000 in
theorem e_tell_19 {lf_huts lf_singers lf_villages lf_dams lf_echoes lf_deep lf_slide vf_deeds sf_facts cf_voices cf_step : Int32} {la_heights la_ladders la_minutes la_echoFrom la_echoTo la_homes la_talls la_known va_kinds va_firsts va_seconds sa_heard sa_huts sa_minutes ca_parts ca_heights : Nat → Int32} {nums td : Nat → Int32} {h s fh fs a b c : Int32} {post : (Int32) → (Int32) → (Int32) → (Int32) → (Int32) → (Int32) → (Int32) → (Nat → Int32) → (Nat → Int32) → (Nat → Int32) → (Nat → Int32) → (Nat → Int32) → (Nat → Int32) → (Nat → Int32) → (Nat → Int32) → (Int32) → (Nat → Int32) → (Nat → Int32) → (Nat → Int32) → (Int32) → (Nat → Int32) → (Nat → Int32) → (Nat → Int32) → (Int32) → (Int32) → (Nat → Int32) → (Nat → Int32) → Int32 → Int32 → Prop} (hC : CB 3 td) (hf : fu 19 td = false) (n0 : nums 0 = a) (c0 : cW 19 0 a a = true) (hD : DR 3 lf_huts lf_singers lf_villages lf_dams lf_echoes lf_deep lf_slide la_heights la_ladders la_minutes la_echoFrom la_echoTo la_homes la_talls la_known vf_deeds va_kinds va_firsts va_seconds sf_facts sa_heard sa_huts sa_minutes cf_voices cf_step ca_parts ca_heights h s td fh fs) (hpo : ∀ (lf_huts' : Int32) (lf_singers' : Int32) (lf_villages' : Int32) (lf_dams' : Int32) (lf_echoes' : Int32) (lf_deep' : Int32) (lf_slide' : Int32) (la_heights' : Nat → Int32) (la_ladders' : Nat → Int32) (la_minutes' : Nat → Int32) (la_echoFrom' : Nat → Int32) (la_echoTo' : Nat → Int32) (la_homes' : Nat → Int32) (la_talls' : Nat → Int32) (la_known' : Nat → Int32) (vf_deeds' : Int32) (va_kinds' : Nat → Int32) (va_firsts' : Nat → Int32) (va_seconds' : Nat → Int32) (sf_facts' : Int32) (sa_heard' : Nat → Int32) (sa_huts' : Nat → Int32) (sa_minutes' : Nat → Int32) (cf_voices' : Int32) (cf_step' : Int32) (ca_parts' : Nat → Int32) (ca_heights' : Nat → Int32) (h' s' : Int32), DR 3 lf_huts' lf_singers' lf_villages' lf_dams' lf_echoes' lf_deep' lf_slide' la_heights' la_ladders' la_minutes' la_echoFrom' la_echoTo' la_homes' la_talls' la_known' vf_deeds' va_kinds' va_firsts' va_seconds' sf_facts' sa_heard' sa_huts' sa_minutes' cf_voices' cf_step' ca_parts' ca_heights' h' s' (lD 19 true a b c td) (lH 19 a b fh) (lS 19 a fs) → post lf_huts' lf_singers' lf_villages' lf_dams' lf_echoes' lf_deep' lf_slide' la_heights' la_ladders' la_minutes' la_echoFrom' la_echoTo' la_homes' la_talls' la_known' vf_deeds' va_kinds' va_firsts' va_seconds' sf_facts' sa_heard' sa_huts' sa_minutes' cf_voices' cf_step' ca_parts' ca_heights' h' s') : q_wr_X4_tell_0 lf_huts lf_singers lf_villages lf_dams lf_echoes lf_deep lf_slide la_heights la_ladders la_minutes la_echoFrom la_echoTo la_homes la_talls la_known vf_deeds va_kinds va_firsts va_seconds sf_facts sa_heard sa_huts sa_minutes cf_voices cf_step ca_parts ca_heights nums h s (nI 19) post := by
  have hL := hD.2.2.2 rfl
  refine ⟨fun _ => ⟨fun _ => ⟨fun _ => ⟨fun _ v e => ?_, fun h9 => absurd h9 (by decide +kernel)⟩, fun h9 => absurd h9 (by decide +kernel)⟩, fun h9 => absurd h9 (by decide +kernel)⟩, fun h9 => absurd h9 (by decide +kernel)⟩
  rw [c_0, n0] at e
  subst e
  refine hpo _ _ _ _ _ _ _ _ _ _ _ _ _ _ _ _ _ _ _ _ _ _ _ _ _ _ _ _ _ ?_
  exact DR3 (CDR_step _ hL (iv_cb hC.1 rfl))
end
section
theorem c_k1 : Int32.toNatClampNeg 1 = 1 := rfl
theorem tV_iv {B : Nat → Int32} {n r : Nat} (hr : r ≤ n) (hK : tK B n r = 2) : iv 0 99 (tV B n r) := by
  have hk := tk_le (B := B) hr
  have hlt : tF B n r < n := by
    have := hk.2.2.1 (by omega)
    omega
  have hL : ¬ isL B (tF B n r) = true := fun h => by
    have := (tk_let rfl hlt h).1
    omega
  have hD : isD B (tF B n r) = true := by
    by_cases h : isD B (tF B n r) = true
    · exact h
    · exfalso
      have := (tk_sgn rfl hlt hL h).2
      rw [hK] at this
      by_cases h2 : B (tF B n r) = 59
      · rw [if_pos h2] at this; omega
      · rw [if_neg h2] at this; omega
  obtain ⟨hN, hK2⟩ := tk_dig rfl hlt hL hD
  have h2 : tN B n r - tF B n r ≤ 2 := by
    rw [hK, ← hN] at hK2
    by_cases h : tN B n r - tF B n r ≤ 2
    · exact h
    · rw [if_neg h] at hK2; omega
  have h1 : 1 ≤ tN B n r - tF B n r := by
    have := hk.2.2.1 (by omega)
    omega
  have dg : ∀ i, i < tN B n r - tF B n r → iv 48 57 (B (tF B n r + i)) := by
    intro i hi
    have h9 := scn_all (isD B) (n - tF B n r) (tF B n r) (tF B n r + i) (by omega) (by rw [← hN]; omega)
    unfold isD at h9
    have h8 := of_decide_eq_true h9
    have e1 : (48 : Int32).toInt = 48 := rfl
    have e2 : (57 : Int32).toInt = 57 := rfl
    exact ⟨by have := r_le h8.1; omega, by have := r_le h8.2; omega⟩
  have v1 : iv 0 9 (vD B (tF B n r) 1) := by
    show iv 0 9 (if 0 < 2 then (0 : Int32) * 10 + B (tF B n r + 0) - 48 else 0)
    rw [if_pos (by omega)]
    have z : iv 0 0 ((0 : Int32) * 10) := iv_lit (by decide)
    exact iv_sub (l := 0) (h := 9) (iv_add (l := 48) (h := 57) z (dg 0 (by omega)) (by decide)) (iv_lit (x := 48) (l := 48) (h := 48) (by decide)) (by decide)
  unfold tV
  have hc : tN B n r - tF B n r = 1 ∨ tN B n r - tF B n r = 2 := by omega
  rcases hc with hc | hc
  · rw [hc]; exact iv_w v1 (by decide)
  · rw [hc]
    show iv 0 99 (if 1 < 2 then vD B (tF B n r) 1 * 10 + B (tF B n r + 1) - 48 else _)
    rw [if_pos (by omega)]
    have m1 : iv 0 90 (vD B (tF B n r) 1 * 10) := iv_mul (l := 0) (h := 90) v1 (iv_lit (x := 10) (l := 10) (h := 10) (by decide)) (by decide)
    exact iv_sub (l := 0) (h := 99) (iv_add (l := 48) (h := 147) m1 (dg 1 (by omega)) (by decide)) (iv_lit (x := 48) (l := 48) (h := 48) (by decide)) (by decide)
theorem e_canBe {nums : Nat → Int32} {w k : Nat} {a : Int32} {post : Int32 → Prop} (hw : w < 20) (hk : k < 3) (h0 : nums 0 = a) (hv : iv 0 99 (nums k)) (h1 : cW w k a (nums k) = true → post 1) (h2 : cW w k a (nums k) = false → post 0) : q_wr_X4_canBe_0 nums (nI w) (nI k) post := by
  intro v ev
  have e : v = nI (w * 3 + k) := by rw [ev, show (3 : Int32) = nI 3 from rfl, pk_mul, nI_add]
  subst e
  rw [nI_clamp (n := k) (by omega), nI_clamp (n := w * 3 + k) (by omega)]
  have i1 : vp_in (nI k) 3 := vp_in_nI hk (by omega)
  have i2 : vp_in (nI (w * 3 + k)) 60 := vp_in_nI (by omega) (by omega)
  have hm : ¬ nums k = -1 := fun h9 => by
    have := hv.1
    rw [h9] at this
    exact absurd this (by decide)
  refine ⟨i1, i2, fun c => h2 (decide_eq_false (fun h9 => absurd c (Int32.not_lt.mpr h9.1))), fun c => ⟨i1, i2, fun c2 => ?_, fun c2 => h2 (decide_eq_false (fun h9 => c2 h9.2.1))⟩⟩
  have lo := Int32.not_lt.mp c
  have tr : ¬ (k = 1 ∧ (w = 5 ∨ w = 6)) → post 1 := by
    intro hn
    refine h1 (decide_eq_true ⟨lo, c2, ?_⟩)
    rw [if_neg hn]
    exact hm
  have t52 : k = 1 → (w = 5 ∨ w = 6) → q_wr_X4_canBe_52 nums post := by
    intro hk1 hw5
    subst hk1
    refine ⟨fun c3 => h2 (decide_eq_false (fun h9 => ?_)), fun c3 => h1 (decide_eq_true ⟨lo, c2, ?_⟩)⟩
    · rw [if_pos ⟨rfl, hw5⟩] at h9
      exact h9.2.2 (by rw [← h0]; exact c3)
    · rw [if_pos ⟨rfl, hw5⟩]
      exact fun h9 => c3 (by rw [c_0, c_k1, h0]; exact h9)
  refine ⟨fun c3 => tr (fun h9 => c3 (by rw [h9.1]; rfl)), fun c3 => ?_⟩
  have hk1 : k = 1 := (nI_eq (a := k) (b := 1) (by omega) (by omega)).mp c3
  refine ⟨fun c4 => t52 hk1 (Or.inl ((nI_eq (a := w) (b := 5) (by omega) (by omega)).mp c4)), fun c4 => ⟨fun c5 => tr (fun h9 => h9.2.elim (fun h8 => c4 (by rw [h8]; rfl)) (fun h8 => c5 (by rw [h8]; rfl))), fun c5 => t52 hk1 (Or.inr ((nI_eq (a := w) (b := 6) (by omega) (by omega)).mp c5))⟩⟩
set_option maxRecDepth 20000 in
theorem e_isFull {lf_huts lf_singers lf_echoes vf_deeds sf_facts cf_voices : Int32} {w : Nat} {post : Int32 → Prop} (hw : w < 20) (h1 : decide ((w = 0 ∧ lf_huts = 9) ∨ (w = 6 ∧ lf_echoes = 4) ∨ (w = 8 ∧ lf_singers = 6) ∨ (10 ≤ w ∧ w < 16 ∧ vf_deeds = 40) ∨ (16 ≤ w ∧ w < 18 ∧ sf_facts = 10) ∨ (w = 18 ∧ cf_voices = 9)) = true → post 1) (h0 : decide ((w = 0 ∧ lf_huts = 9) ∨ (w = 6 ∧ lf_echoes = 4) ∨ (w = 8 ∧ lf_singers = 6) ∨ (10 ≤ w ∧ w < 16 ∧ vf_deeds = 40) ∨ (16 ≤ w ∧ w < 18 ∧ sf_facts = 10) ∨ (w = 18 ∧ cf_voices = 9)) = false → post 0) : q_wr_X4_isFull_0 lf_huts lf_singers lf_echoes vf_deeds sf_facts cf_voices (nI w) post := by
  match w, hw, h1, h0 with
  | 0, _, h1, h0 => exact ⟨fun _ => ⟨fun h9 => absurd h9 (by decide +kernel), fun _ => ⟨fun c => h0 (decide_eq_false (by simp [c])), fun c => h1 (decide_eq_true (by simp [c]))⟩, fun h9 => absurd h9 (by decide +kernel), fun h9 => absurd h9 (by decide +kernel), fun h9 => absurd h9 (by decide +kernel), fun h9 => absurd h9 (by decide +kernel), fun h9 => absurd h9 (by decide +kernel), fun h9 => absurd h9 (by decide +kernel), fun h9 => absurd h9 (by decide +kernel), fun h9 => absurd h9 (by decide +kernel), fun h9 => absurd h9 (by decide +kernel), fun h9 => absurd h9 (by decide +kernel), fun h9 => absurd h9 (by decide +kernel), fun h9 => absurd h9 (by decide +kernel), fun h9 => absurd h9 (by decide +kernel), fun h9 => absurd h9 (by decide +kernel), fun h9 => absurd h9 (by decide +kernel), fun h9 => absurd h9 (by decide +kernel), fun h9 => absurd h9 (by decide +kernel), fun h9 => absurd h9 (by decide +kernel)⟩, fun h9 => absurd h9 (by decide +kernel)⟩
  | 1, _, h1, h0 => exact ⟨fun _ => ⟨fun h9 => absurd h9 (by decide +kernel), fun h9 => absurd h9 (by decide +kernel), fun _ => h0 (by simp), fun h9 => absurd h9 (by decide +kernel), fun h9 => absurd h9 (by decide +kernel), fun h9 => absurd h9 (by decide +kernel), fun h9 => absurd h9 (by decide +kernel), fun h9 => absurd h9 (by decide +kernel), fun h9 => absurd h9 (by decide +kernel), fun h9 => absurd h9 (by decide +kernel), fun h9 => absurd h9 (by decide +kernel), fun h9 => absurd h9 (by decide +kernel), fun h9 => absurd h9 (by decide +kernel), fun h9 => absurd h9 (by decide +kernel), fun h9 => absurd h9 (by decide +kernel), fun h9 => absurd h9 (by decide +kernel), fun h9 => absurd h9 (by decide +kernel), fun h9 => absurd h9 (by decide +kernel), fun h9 => absurd h9 (by decide +kernel), fun h9 => absurd h9 (by decide +kernel)⟩, fun h9 => absurd h9 (by decide +kernel)⟩
  | 2, _, h1, h0 => exact ⟨fun _ => ⟨fun h9 => absurd h9 (by decide +kernel), fun h9 => absurd h9 (by decide +kernel), fun h9 => absurd h9 (by decide +kernel), fun _ => h0 (by simp), fun h9 => absurd h9 (by decide +kernel), fun h9 => absurd h9 (by decide +kernel), fun h9 => absurd h9 (by decide +kernel), fun h9 => absurd h9 (by decide +kernel), fun h9 => absurd h9 (by decide +kernel), fun h9 => absurd h9 (by decide +kernel), fun h9 => absurd h9 (by decide +kernel), fun h9 => absurd h9 (by decide +kernel), fun h9 => absurd h9 (by decide +kernel), fun h9 => absurd h9 (by decide +kernel), fun h9 => absurd h9 (by decide +kernel), fun h9 => absurd h9 (by decide +kernel), fun h9 => absurd h9 (by decide +kernel), fun h9 => absurd h9 (by decide +kernel), fun h9 => absurd h9 (by decide +kernel), fun h9 => absurd h9 (by decide +kernel)⟩, fun h9 => absurd h9 (by decide +kernel)⟩
  | 3, _, h1, h0 => exact ⟨fun _ => ⟨fun h9 => absurd h9 (by decide +kernel), fun h9 => absurd h9 (by decide +kernel), fun h9 => absurd h9 (by decide +kernel), fun h9 => absurd h9 (by decide +kernel), fun _ => h0 (by simp), fun h9 => absurd h9 (by decide +kernel), fun h9 => absurd h9 (by decide +kernel), fun h9 => absurd h9 (by decide +kernel), fun h9 => absurd h9 (by decide +kernel), fun h9 => absurd h9 (by decide +kernel), fun h9 => absurd h9 (by decide +kernel), fun h9 => absurd h9 (by decide +kernel), fun h9 => absurd h9 (by decide +kernel), fun h9 => absurd h9 (by decide +kernel), fun h9 => absurd h9 (by decide +kernel), fun h9 => absurd h9 (by decide +kernel), fun h9 => absurd h9 (by decide +kernel), fun h9 => absurd h9 (by decide +kernel), fun h9 => absurd h9 (by decide +kernel), fun h9 => absurd h9 (by decide +kernel)⟩, fun h9 => absurd h9 (by decide +kernel)⟩
  | 4, _, h1, h0 => exact ⟨fun _ => ⟨fun h9 => absurd h9 (by decide +kernel), fun h9 => absurd h9 (by decide +kernel), fun h9 => absurd h9 (by decide +kernel), fun h9 => absurd h9 (by decide +kernel), fun h9 => absurd h9 (by decide +kernel), fun _ => h0 (by simp), fun h9 => absurd h9 (by decide +kernel), fun h9 => absurd h9 (by decide +kernel), fun h9 => absurd h9 (by decide +kernel), fun h9 => absurd h9 (by decide +kernel), fun h9 => absurd h9 (by decide +kernel), fun h9 => absurd h9 (by decide +kernel), fun h9 => absurd h9 (by decide +kernel), fun h9 => absurd h9 (by decide +kernel), fun h9 => absurd h9 (by decide +kernel), fun h9 => absurd h9 (by decide +kernel), fun h9 => absurd h9 (by decide +kernel), fun h9 => absurd h9 (by decide +kernel), fun h9 => absurd h9 (by decide +kernel), fun h9 => absurd h9 (by decide +kernel)⟩, fun h9 => absurd h9 (by decide +kernel)⟩
  | 5, _, h1, h0 => exact ⟨fun _ => ⟨fun h9 => absurd h9 (by decide +kernel), fun h9 => absurd h9 (by decide +kernel), fun h9 => absurd h9 (by decide +kernel), fun h9 => absurd h9 (by decide +kernel), fun h9 => absurd h9 (by decide +kernel), fun h9 => absurd h9 (by decide +kernel), fun _ => h0 (by simp), fun h9 => absurd h9 (by decide +kernel), fun h9 => absurd h9 (by decide +kernel), fun h9 => absurd h9 (by decide +kernel), fun h9 => absurd h9 (by decide +kernel), fun h9 => absurd h9 (by decide +kernel), fun h9 => absurd h9 (by decide +kernel), fun h9 => absurd h9 (by decide +kernel), fun h9 => absurd h9 (by decide +kernel), fun h9 => absurd h9 (by decide +kernel), fun h9 => absurd h9 (by decide +kernel), fun h9 => absurd h9 (by decide +kernel), fun h9 => absurd h9 (by decide +kernel), fun h9 => absurd h9 (by decide +kernel)⟩, fun h9 => absurd h9 (by decide +kernel)⟩
  | 6, _, h1, h0 => exact ⟨fun _ => ⟨fun h9 => absurd h9 (by decide +kernel), fun h9 => absurd h9 (by decide +kernel), fun h9 => absurd h9 (by decide +kernel), fun h9 => absurd h9 (by decide +kernel), fun h9 => absurd h9 (by decide +kernel), fun h9 => absurd h9 (by decide +kernel), fun h9 => absurd h9 (by decide +kernel), fun _ => ⟨fun c => h0 (decide_eq_false (by simp [c])), fun c => h1 (decide_eq_true (by simp [c]))⟩, fun h9 => absurd h9 (by decide +kernel), fun h9 => absurd h9 (by decide +kernel), fun h9 => absurd h9 (by decide +kernel), fun h9 => absurd h9 (by decide +kernel), fun h9 => absurd h9 (by decide +kernel), fun h9 => absurd h9 (by decide +kernel), fun h9 => absurd h9 (by decide +kernel), fun h9 => absurd h9 (by decide +kernel), fun h9 => absurd h9 (by decide +kernel), fun h9 => absurd h9 (by decide +kernel), fun h9 => absurd h9 (by decide +kernel), fun h9 => absurd h9 (by decide +kernel)⟩, fun h9 => absurd h9 (by decide +kernel)⟩
  | 7, _, h1, h0 => exact ⟨fun _ => ⟨fun h9 => absurd h9 (by decide +kernel), fun h9 => absurd h9 (by decide +kernel), fun h9 => absurd h9 (by decide +kernel), fun h9 => absurd h9 (by decide +kernel), fun h9 => absurd h9 (by decide +kernel), fun h9 => absurd h9 (by decide +kernel), fun h9 => absurd h9 (by decide +kernel), fun h9 => absurd h9 (by decide +kernel), fun _ => h0 (by simp), fun h9 => absurd h9 (by decide +kernel), fun h9 => absurd h9 (by decide +kernel), fun h9 => absurd h9 (by decide +kernel), fun h9 => absurd h9 (by decide +kernel), fun h9 => absurd h9 (by decide +kernel), fun h9 => absurd h9 (by decide +kernel), fun h9 => absurd h9 (by decide +kernel), fun h9 => absurd h9 (by decide +kernel), fun h9 => absurd h9 (by decide +kernel), fun h9 => absurd h9 (by decide +kernel), fun h9 => absurd h9 (by decide +kernel)⟩, fun h9 => absurd h9 (by decide +kernel)⟩
  | 8, _, h1, h0 => exact ⟨fun _ => ⟨fun h9 => absurd h9 (by decide +kernel), fun h9 => absurd h9 (by decide +kernel), fun h9 => absurd h9 (by decide +kernel), fun h9 => absurd h9 (by decide +kernel), fun h9 => absurd h9 (by decide +kernel), fun h9 => absurd h9 (by decide +kernel), fun h9 => absurd h9 (by decide +kernel), fun h9 => absurd h9 (by decide +kernel), fun h9 => absurd h9 (by decide +kernel), fun _ => ⟨fun c => h0 (decide_eq_false (by simp [c])), fun c => h1 (decide_eq_true (by simp [c]))⟩, fun h9 => absurd h9 (by decide +kernel), fun h9 => absurd h9 (by decide +kernel), fun h9 => absurd h9 (by decide +kernel), fun h9 => absurd h9 (by decide +kernel), fun h9 => absurd h9 (by decide +kernel), fun h9 => absurd h9 (by decide +kernel), fun h9 => absurd h9 (by decide +kernel), fun h9 => absurd h9 (by decide +kernel), fun h9 => absurd h9 (by decide +kernel), fun h9 => absurd h9 (by decide +kernel)⟩, fun h9 => absurd h9 (by decide +kernel)⟩
  | 9, _, h1, h0 => exact ⟨fun _ => ⟨fun h9 => absurd h9 (by decide +kernel), fun h9 => absurd h9 (by decide +kernel), fun h9 => absurd h9 (by decide +kernel), fun h9 => absurd h9 (by decide +kernel), fun h9 => absurd h9 (by decide +kernel), fun h9 => absurd h9 (by decide +kernel), fun h9 => absurd h9 (by decide +kernel), fun h9 => absurd h9 (by decide +kernel), fun h9 => absurd h9 (by decide +kernel), fun h9 => absurd h9 (by decide +kernel), fun _ => h0 (by simp), fun h9 => absurd h9 (by decide +kernel), fun h9 => absurd h9 (by decide +kernel), fun h9 => absurd h9 (by decide +kernel), fun h9 => absurd h9 (by decide +kernel), fun h9 => absurd h9 (by decide +kernel), fun h9 => absurd h9 (by decide +kernel), fun h9 => absurd h9 (by decide +kernel), fun h9 => absurd h9 (by decide +kernel), fun h9 => absurd h9 (by decide +kernel)⟩, fun h9 => absurd h9 (by decide +kernel)⟩
  | 10, _, h1, h0 => exact ⟨fun h9 => absurd h9 (by decide +kernel), fun _ => ⟨fun h9 => absurd h9 (by decide +kernel), fun _ => ⟨fun c => h0 (decide_eq_false (by simp [c])), fun c => h1 (decide_eq_true (by simp [c]))⟩⟩⟩
  | 11, _, h1, h0 => exact ⟨fun h9 => absurd h9 (by decide +kernel), fun _ => ⟨fun h9 => absurd h9 (by decide +kernel), fun _ => ⟨fun c => h0 (decide_eq_false (by simp [c])), fun c => h1 (decide_eq_true (by simp [c]))⟩⟩⟩
  | 12, _, h1, h0 => exact ⟨fun h9 => absurd h9 (by decide +kernel), fun _ => ⟨fun h9 => absurd h9 (by decide +kernel), fun _ => ⟨fun c => h0 (decide_eq_false (by simp [c])), fun c => h1 (decide_eq_true (by simp [c]))⟩⟩⟩
  | 13, _, h1, h0 => exact ⟨fun h9 => absurd h9 (by decide +kernel), fun _ => ⟨fun h9 => absurd h9 (by decide +kernel), fun _ => ⟨fun c => h0 (decide_eq_false (by simp [c])), fun c => h1 (decide_eq_true (by simp [c]))⟩⟩⟩
  | 14, _, h1, h0 => exact ⟨fun h9 => absurd h9 (by decide +kernel), fun _ => ⟨fun h9 => absurd h9 (by decide +kernel), fun _ => ⟨fun c => h0 (decide_eq_false (by simp [c])), fun c => h1 (decide_eq_true (by simp [c]))⟩⟩⟩
  | 15, _, h1, h0 => exact ⟨fun h9 => absurd h9 (by decide +kernel), fun _ => ⟨fun h9 => absurd h9 (by decide +kernel), fun _ => ⟨fun c => h0 (decide_eq_false (by simp [c])), fun c => h1 (decide_eq_true (by simp [c]))⟩⟩⟩
  | 16, _, h1, h0 => exact ⟨fun h9 => absurd h9 (by decide +kernel), fun _ => ⟨fun _ => ⟨fun h9 => absurd h9 (by decide +kernel), fun h9 => absurd h9 (by decide +kernel), fun h9 => absurd h9 (by decide +kernel), fun h9 => absurd h9 (by decide +kernel), fun h9 => absurd h9 (by decide +kernel), fun h9 => absurd h9 (by decide +kernel), fun h9 => absurd h9 (by decide +kernel), fun h9 => absurd h9 (by decide +kernel), fun h9 => absurd h9 (by decide +kernel), fun h9 => absurd h9 (by decide +kernel), fun h9 => absurd h9 (by decide +kernel), fun h9 => absurd h9 (by decide +kernel), fun h9 => absurd h9 (by decide +kernel), fun h9 => absurd h9 (by decide +kernel), fun h9 => absurd h9 (by decide +kernel), fun h9 => absurd h9 (by decide +kernel), fun h9 => absurd h9 (by decide +kernel), fun _ => ⟨fun c => h0 (decide_eq_false (by simp [c])), fun c => h1 (decide_eq_true (by simp [c]))⟩, fun h9 => absurd h9 (by decide +kernel), fun h9 => absurd h9 (by decide +kernel)⟩, fun h9 => absurd h9 (by decide +kernel)⟩⟩
  | 17, _, h1, h0 => exact ⟨fun h9 => absurd h9 (by decide +kernel), fun _ => ⟨fun _ => ⟨fun h9 => absurd h9 (by decide +kernel), fun h9 => absurd h9 (by decide +kernel), fun h9 => absurd h9 (by decide +kernel), fun h9 => absurd h9 (by decide +kernel), fun h9 => absurd h9 (by decide +kernel), fun h9 => absurd h9 (by decide +kernel), fun h9 => absurd h9 (by decide +kernel), fun h9 => absurd h9 (by decide +kernel), fun h9 => absurd h9 (by decide +kernel), fun h9 => absurd h9 (by decide +kernel), fun h9 => absurd h9 (by decide +kernel), fun h9 => absurd h9 (by decide +kernel), fun h9 => absurd h9 (by decide +kernel), fun h9 => absurd h9 (by decide +kernel), fun h9 => absurd h9 (by decide +kernel), fun h9 => absurd h9 (by decide +kernel), fun h9 => absurd h9 (by decide +kernel), fun h9 => absurd h9 (by decide +kernel), fun _ => ⟨fun c => h0 (decide_eq_false (by simp [c])), fun c => h1 (decide_eq_true (by simp [c]))⟩, fun h9 => absurd h9 (by decide +kernel)⟩, fun h9 => absurd h9 (by decide +kernel)⟩⟩
  | 18, _, h1, h0 => exact ⟨fun h9 => absurd h9 (by decide +kernel), fun _ => ⟨fun _ => ⟨fun h9 => absurd h9 (by decide +kernel), fun h9 => absurd h9 (by decide +kernel), fun h9 => absurd h9 (by decide +kernel), fun h9 => absurd h9 (by decide +kernel), fun h9 => absurd h9 (by decide +kernel), fun h9 => absurd h9 (by decide +kernel), fun h9 => absurd h9 (by decide +kernel), fun h9 => absurd h9 (by decide +kernel), fun h9 => absurd h9 (by decide +kernel), fun h9 => absurd h9 (by decide +kernel), fun h9 => absurd h9 (by decide +kernel), fun h9 => absurd h9 (by decide +kernel), fun h9 => absurd h9 (by decide +kernel), fun h9 => absurd h9 (by decide +kernel), fun h9 => absurd h9 (by decide +kernel), fun h9 => absurd h9 (by decide +kernel), fun h9 => absurd h9 (by decide +kernel), fun h9 => absurd h9 (by decide +kernel), fun h9 => absurd h9 (by decide +kernel), fun _ => ⟨fun c => h0 (decide_eq_false (by simp [c])), fun c => h1 (decide_eq_true (by simp [c]))⟩⟩, fun h9 => absurd h9 (by decide +kernel)⟩⟩
  | 19, _, h1, h0 => exact ⟨fun h9 => absurd h9 (by decide +kernel), fun _ => ⟨fun _ => ⟨fun _ => h0 (by simp), fun h9 => absurd h9 (by decide +kernel), fun h9 => absurd h9 (by decide +kernel), fun h9 => absurd h9 (by decide +kernel), fun h9 => absurd h9 (by decide +kernel), fun h9 => absurd h9 (by decide +kernel), fun h9 => absurd h9 (by decide +kernel), fun h9 => absurd h9 (by decide +kernel), fun h9 => absurd h9 (by decide +kernel), fun h9 => absurd h9 (by decide +kernel), fun h9 => absurd h9 (by decide +kernel), fun h9 => absurd h9 (by decide +kernel), fun h9 => absurd h9 (by decide +kernel), fun h9 => absurd h9 (by decide +kernel), fun h9 => absurd h9 (by decide +kernel), fun h9 => absurd h9 (by decide +kernel), fun h9 => absurd h9 (by decide +kernel), fun h9 => absurd h9 (by decide +kernel), fun h9 => absurd h9 (by decide +kernel), fun h9 => absurd h9 (by decide +kernel)⟩, fun h9 => absurd h9 (by decide +kernel)⟩⟩
  | w + 20, hw, _, _ => exact absurd hw (by omega)
theorem DR_fu {lf_huts lf_singers lf_villages lf_dams lf_echoes lf_deep lf_slide vf_deeds sf_facts cf_voices cf_step : Int32} {la_heights la_ladders la_minutes la_echoFrom la_echoTo la_homes la_talls la_known va_kinds va_firsts va_seconds sa_heard sa_huts sa_minutes ca_parts ca_heights : Nat → Int32} {h s fh fs : Int32} {td : Nat → Int32} {o w : Nat} (ho : o ≤ 3) (hw : wlo o ≤ w ∧ w < wlo (o + 1)) (hD : DR o lf_huts lf_singers lf_villages lf_dams lf_echoes lf_deep lf_slide la_heights la_ladders la_minutes la_echoFrom la_echoTo la_homes la_talls la_known vf_deeds va_kinds va_firsts va_seconds sf_facts sa_heard sa_huts sa_minutes cf_voices cf_step ca_parts ca_heights h s td fh fs) : decide ((w = 0 ∧ lf_huts = 9) ∨ (w = 6 ∧ lf_echoes = 4) ∨ (w = 8 ∧ lf_singers = 6) ∨ (10 ≤ w ∧ w < 16 ∧ vf_deeds = 40) ∨ (16 ≤ w ∧ w < 18 ∧ sf_facts = 10) ∨ (w = 18 ∧ cf_voices = 9)) = fu w td := by
  unfold fu
  have hc : o = 0 ∨ o = 1 ∨ o = 2 ∨ o = 3 := by omega
  rcases hc with rfl | rfl | rfl | rfl
  · have h1 : w < 10 := hw.2
    have hL := (hD.1 rfl).1
    rw [hL.1, hL.2.1, hL.2.2.2.2.1]
    congr 1
    apply propext
    constructor
    · rintro (h | h | h | h | h | h)
      · exact Or.inl h
      · exact Or.inr (Or.inl h)
      · exact Or.inr (Or.inr (Or.inl h))
      · omega
      · omega
      · omega
    · rintro (h | h | h | h | h | h)
      · exact Or.inl h
      · exact Or.inr (Or.inl h)
      · exact Or.inr (Or.inr (Or.inl h))
      · omega
      · omega
      · omega
  · have h1 : w < 16 := hw.2
    have h2 : 10 ≤ w := hw.1
    rw [(hD.2.1 rfl).1]
    congr 1
    apply propext
    constructor
    · rintro (h | h | h | h | h | h)
      · omega
      · omega
      · omega
      · exact Or.inr (Or.inr (Or.inr (Or.inl h)))
      · omega
      · omega
    · rintro (h | h | h | h | h | h)
      · omega
      · omega
      · omega
      · exact Or.inr (Or.inr (Or.inr (Or.inl h)))
      · omega
      · omega
  · have h1 : w < 18 := hw.2
    have h2 : 16 ≤ w := hw.1
    rw [(hD.2.2.1 rfl).1]
    congr 1
    apply propext
    constructor
    · rintro (h | h | h | h | h | h)
      · omega
      · omega
      · omega
      · omega
      · exact Or.inr (Or.inr (Or.inr (Or.inr (Or.inl h))))
      · omega
    · rintro (h | h | h | h | h | h)
      · omega
      · omega
      · omega
      · omega
      · exact Or.inr (Or.inr (Or.inr (Or.inr (Or.inl h))))
      · omega
  · have h1 : w < 20 := hw.2
    have h2 : 18 ≤ w := hw.1
    rw [(hD.2.2.2 rfl).1]
    congr 1
    apply propext
    constructor
    · rintro (h | h | h | h | h | h)
      · omega
      · omega
      · omega
      · omega
      · omega
      · exact Or.inr (Or.inr (Or.inr (Or.inr (Or.inr h))))
    · rintro (h | h | h | h | h | h)
      · omega
      · omega
      · omega
      · omega
      · omega
      · exact Or.inr (Or.inr (Or.inr (Or.inr (Or.inr h))))
set_option maxRecDepth 20000 in
theorem e_tell {lf_huts lf_singers lf_villages lf_dams lf_echoes lf_deep lf_slide vf_deeds sf_facts cf_voices cf_step : Int32} {la_heights la_ladders la_minutes la_echoFrom la_echoTo la_homes la_talls la_known va_kinds va_firsts va_seconds sa_heard sa_huts sa_minutes ca_parts ca_heights : Nat → Int32} {nums td : Nat → Int32} {h s fh fs a b c : Int32} {o w : Nat} {post : (Int32) → (Int32) → (Int32) → (Int32) → (Int32) → (Int32) → (Int32) → (Nat → Int32) → (Nat → Int32) → (Nat → Int32) → (Nat → Int32) → (Nat → Int32) → (Nat → Int32) → (Nat → Int32) → (Nat → Int32) → (Int32) → (Nat → Int32) → (Nat → Int32) → (Nat → Int32) → (Int32) → (Nat → Int32) → (Nat → Int32) → (Nat → Int32) → (Int32) → (Int32) → (Nat → Int32) → (Nat → Int32) → Int32 → Int32 → Prop} (ho : o ≤ 3) (hw : wlo o ≤ w ∧ w < wlo (o + 1)) (hC : CB o td) (hf : fu w td = false) (n0 : nums 0 = a) (c0 : cW w 0 a a = true) (n1 : 2 ≤ nW w → nums 1 = b) (c1 : 2 ≤ nW w → cW w 1 a b = true) (n2 : 3 ≤ nW w → nums 2 = c) (c2 : 3 ≤ nW w → cW w 2 a c = true) (hD : DR o lf_huts lf_singers lf_villages lf_dams lf_echoes lf_deep lf_slide la_heights la_ladders la_minutes la_echoFrom la_echoTo la_homes la_talls la_known vf_deeds va_kinds va_firsts va_seconds sf_facts sa_heard sa_huts sa_minutes cf_voices cf_step ca_parts ca_heights h s td fh fs) (hp : ∀ (lf_huts' : Int32) (lf_singers' : Int32) (lf_villages' : Int32) (lf_dams' : Int32) (lf_echoes' : Int32) (lf_deep' : Int32) (lf_slide' : Int32) (la_heights' : Nat → Int32) (la_ladders' : Nat → Int32) (la_minutes' : Nat → Int32) (la_echoFrom' : Nat → Int32) (la_echoTo' : Nat → Int32) (la_homes' : Nat → Int32) (la_talls' : Nat → Int32) (la_known' : Nat → Int32) (vf_deeds' : Int32) (va_kinds' : Nat → Int32) (va_firsts' : Nat → Int32) (va_seconds' : Nat → Int32) (sf_facts' : Int32) (sa_heard' : Nat → Int32) (sa_huts' : Nat → Int32) (sa_minutes' : Nat → Int32) (cf_voices' : Int32) (cf_step' : Int32) (ca_parts' : Nat → Int32) (ca_heights' : Nat → Int32) (h' s' : Int32), DR o lf_huts' lf_singers' lf_villages' lf_dams' lf_echoes' lf_deep' lf_slide' la_heights' la_ladders' la_minutes' la_echoFrom' la_echoTo' la_homes' la_talls' la_known' vf_deeds' va_kinds' va_firsts' va_seconds' sf_facts' sa_heard' sa_huts' sa_minutes' cf_voices' cf_step' ca_parts' ca_heights' h' s' (lD w true a b c td) (lH w a b fh) (lS w a fs) → post lf_huts' lf_singers' lf_villages' lf_dams' lf_echoes' lf_deep' lf_slide' la_heights' la_ladders' la_minutes' la_echoFrom' la_echoTo' la_homes' la_talls' la_known' vf_deeds' va_kinds' va_firsts' va_seconds' sf_facts' sa_heard' sa_huts' sa_minutes' cf_voices' cf_step' ca_parts' ca_heights' h' s') : q_wr_X4_tell_0 lf_huts lf_singers lf_villages lf_dams lf_echoes lf_deep lf_slide la_heights la_ladders la_minutes la_echoFrom la_echoTo la_homes la_talls la_known vf_deeds va_kinds va_firsts va_seconds sf_facts sa_heard sa_huts sa_minutes cf_voices cf_step ca_parts ca_heights nums h s (nI w) post := by
  have hc : o = 0 ∨ o = 1 ∨ o = 2 ∨ o = 3 := by omega
  rcases hc with rfl | rfl | rfl | rfl
  · have h1 : w < 10 := hw.2
    have h2 : 0 ≤ w := hw.1
    have hc : w = 0 ∨ w = 1 ∨ w = 2 ∨ w = 3 ∨ w = 4 ∨ w = 5 ∨ w = 6 ∨ w = 7 ∨ w = 8 ∨ w = 9 := by omega
    rcases hc with rfl | rfl | rfl | rfl | rfl | rfl | rfl | rfl | rfl | rfl
    · exact e_tell_0 hC hf n0 c0 hD hp
    · exact e_tell_1 hC hf n0 c0 hD hp
    · exact e_tell_2 hC hf n0 c0 hD hp
    · exact e_tell_3 hC hf n0 c0 hD hp
    · exact e_tell_4 hC hf n0 c0 hD hp
    · exact e_tell_5 hC hf n0 c0 (n1 (by decide)) (c1 (by decide)) (n2 (by decide)) (c2 (by decide)) hD hp
    · exact e_tell_6 hC hf n0 c0 (n1 (by decide)) (c1 (by decide)) hD hp
    · exact e_tell_7 hC hf n0 c0 (n1 (by decide)) (c1 (by decide)) hD hp
    · exact e_tell_8 hC hf n0 c0 (n1 (by decide)) (c1 (by decide)) hD hp
    · exact e_tell_9 hC hf n0 c0 (n1 (by decide)) (c1 (by decide)) hD hp
  · have h1 : w < 16 := hw.2
    have h2 : 10 ≤ w := hw.1
    have hc : w = 10 ∨ w = 11 ∨ w = 12 ∨ w = 13 ∨ w = 14 ∨ w = 15 := by omega
    rcases hc with rfl | rfl | rfl | rfl | rfl | rfl
    · exact e_tell_10 hC hf n0 c0 (n1 (by decide)) (c1 (by decide)) hD hp
    · exact e_tell_11 hC hf n0 c0 (n1 (by decide)) (c1 (by decide)) hD hp
    · exact e_tell_12 hC hf n0 c0 (n1 (by decide)) (c1 (by decide)) hD hp
    · exact e_tell_13 hC hf n0 c0 (n1 (by decide)) (c1 (by decide)) hD hp
    · exact e_tell_14 hC hf n0 c0 hD hp
    · exact e_tell_15 hC hf n0 c0 hD hp
  · have h1 : w < 18 := hw.2
    have h2 : 16 ≤ w := hw.1
    have hc : w = 16 ∨ w = 17 := by omega
    rcases hc with rfl | rfl
    · exact e_tell_16 hC hf n0 c0 (n1 (by decide)) (c1 (by decide)) hD hp
    · exact e_tell_17 hC hf n0 c0 (n1 (by decide)) (c1 (by decide)) hD hp
  · have h1 : w < 20 := hw.2
    have h2 : 18 ≤ w := hw.1
    have hc : w = 18 ∨ w = 19 := by omega
    rcases hc with rfl | rfl
    · exact e_tell_18 hC hf n0 c0 (n1 (by decide)) (c1 (by decide)) hD hp
    · exact e_tell_19 hC hf n0 c0 hD hp
theorem mF_0 {c : Bool} {lf f : Int32} (hf : ¬ f = 0) (h : mF c lf f = 0) : c = true ∧ lf = 0 := by
  unfold mF at h
  by_cases hc : c = true
  · rw [if_pos hc] at h
    exact ⟨hc, h⟩
  · rw [if_neg hc] at h
    by_cases hl : lf = 0
    · rw [if_pos hl] at h; exact absurd h hf
    · rw [if_neg hl] at h; exact absurd h hl
theorem mkF_0 {B : Nat → Int32} {n r w : Nat} {td : Nat → Int32} {fa : Int32} : ∀ k, mkF B n r w td fa k = 0 → fa = 0 ∧ fu w td = false ∧ ∀ j, j < k → cW w j (tV B n (ps B n r 1)) (tV B n (ps B n r (j + 1))) = true
  | 0 => fun h => by
    have := mF_0 (by decide) h
    refine ⟨this.2, ?_, fun j hj => absurd hj (by omega)⟩
    have h1 := this.1
    cases hh : fu w td with
    | false => rfl
    | true => rw [hh] at h1; exact absurd h1 (by decide)
  | k + 1 => fun h => by
    have := mF_0 (by decide) h
    obtain ⟨a, b, c⟩ := mkF_0 k this.2
    refine ⟨a, b, fun j hj => ?_⟩
    by_cases hjk : j = k
    · subst hjk; exact this.1
    · exact c j (by omega)
theorem mark_e {fa pl f p : Int32} {c : Bool} {post : Int32 → Int32 → Prop} (hc : c = false) (h : post (mF c fa f) (mP c fa pl p)) : q_wr_X4_mark_0 fa pl f p post := by
  unfold mF mP at h
  rw [hc] at h
  have hb : ¬ (false = true) := by decide
  rw [if_neg hb, if_neg hb] at h
  refine ⟨fun h9 => ?_, fun h9 => ?_⟩
  · rw [if_neg h9, if_neg h9] at h; exact h
  · rw [if_pos h9, if_pos h9] at h; exact h
theorem mF_t {fa f : Int32} : mF true fa f = fa := rfl
theorem mP_t {fa pl p : Int32} : mP true fa pl p = pl := rfl
theorem mF_n {c : Bool} {fa f : Int32} (h : ¬ fa = 0) : mF c fa f = fa := by
  unfold mF
  by_cases hc : c = true
  · rw [if_pos hc]
  · rw [if_neg hc, if_neg h]
theorem mP_n {c : Bool} {fa pl p : Int32} (h : ¬ fa = 0) : mP c fa pl p = pl := by
  unfold mP
  by_cases hc : c = true
  · rw [if_pos hc]
  · rw [if_neg hc, if_neg h]
theorem fu_any {lf_huts lf_singers lf_echoes vf_deeds sf_facts cf_voices : Int32} {w : Nat} {post : Int32 → Prop} (hw : w < 20) (h1 : post 1) (h0 : post 0) : q_wr_X4_isFull_0 lf_huts lf_singers lf_echoes vf_deeds sf_facts cf_voices (nI w) post := e_isFull hw (fun _ => h1) (fun _ => h0)
set_option maxRecDepth 20000 in
theorem e_readLine {tp B : Nat → Int32} {lf_huts lf_singers lf_villages lf_dams lf_echoes lf_deep lf_slide vf_deeds sf_facts cf_voices cf_step : Int32} {la_heights la_ladders la_minutes la_echoFrom la_echoTo la_homes la_talls la_known va_kinds va_firsts va_seconds sa_heard sa_huts sa_minutes ca_parts ca_heights : Nat → Int32} {nums td : Nat → Int32} {h s fh fs fa pl va : Int32} {n r o : Nat} {post : (Int32) → (Int32) → (Int32) → (Int32) → (Int32) → (Int32) → (Int32) → (Nat → Int32) → (Nat → Int32) → (Nat → Int32) → (Nat → Int32) → (Nat → Int32) → (Nat → Int32) → (Nat → Int32) → (Nat → Int32) → (Int32) → (Nat → Int32) → (Nat → Int32) → (Nat → Int32) → (Int32) → (Nat → Int32) → (Nat → Int32) → (Nat → Int32) → (Int32) → (Int32) → (Nat → Int32) → (Nat → Int32) → Int32 → Int32 → (Nat → Int32) → Int32 → Int32 → Int32 → Int32 → Int32 → Int32 → Prop} (hn : n ≤ 600) (hr : r ≤ n) (ho : o ≤ 3) (hB : ∀ j, j < n → tp j = B j) (hv : tK B n r = 2 → va = tV B n r) (hC : CB o td) (hD : fa = 0 → DR o lf_huts lf_singers lf_villages lf_dams lf_echoes lf_deep lf_slide la_heights la_ladders la_minutes la_echoFrom la_echoTo la_homes la_talls la_known vf_deeds va_kinds va_firsts va_seconds sf_facts sa_heard sa_huts sa_minutes cf_voices cf_step ca_parts ca_heights h s td fh fs) (h0 : ¬ lb B n r o = 9 → ∀ (lf_huts' : Int32) (lf_singers' : Int32) (lf_villages' : Int32) (lf_dams' : Int32) (lf_echoes' : Int32) (lf_deep' : Int32) (lf_slide' : Int32) (la_heights' : Nat → Int32) (la_ladders' : Nat → Int32) (la_minutes' : Nat → Int32) (la_echoFrom' : Nat → Int32) (la_echoTo' : Nat → Int32) (la_homes' : Nat → Int32) (la_talls' : Nat → Int32) (la_known' : Nat → Int32) (vf_deeds' : Int32) (va_kinds' : Nat → Int32) (va_firsts' : Nat → Int32) (va_seconds' : Nat → Int32) (sf_facts' : Int32) (sa_heard' : Nat → Int32) (sa_huts' : Nat → Int32) (sa_minutes' : Nat → Int32) (cf_voices' : Int32) (cf_step' : Int32) (ca_parts' : Nat → Int32) (ca_heights' : Nat → Int32) (nums' : Nat → Int32) (b' k' f' va' h' s' : Int32), post lf_huts' lf_singers' lf_villages' lf_dams' lf_echoes' lf_deep' lf_slide' la_heights' la_ladders' la_minutes' la_echoFrom' la_echoTo' la_homes' la_talls' la_known' vf_deeds' va_kinds' va_firsts' va_seconds' sf_facts' sa_heard' sa_huts' sa_minutes' cf_voices' cf_step' ca_parts' ca_heights' 1 (nI (tF B n (ps B n r (lb B n r o)))) nums' b' k' f' va' h' s') (h1 : lb B n r o = 9 → ∀ (lf_huts' : Int32) (lf_singers' : Int32) (lf_villages' : Int32) (lf_dams' : Int32) (lf_echoes' : Int32) (lf_deep' : Int32) (lf_slide' : Int32) (la_heights' : Nat → Int32) (la_ladders' : Nat → Int32) (la_minutes' : Nat → Int32) (la_echoFrom' : Nat → Int32) (la_echoTo' : Nat → Int32) (la_homes' : Nat → Int32) (la_talls' : Nat → Int32) (la_known' : Nat → Int32) (vf_deeds' : Int32) (va_kinds' : Nat → Int32) (va_firsts' : Nat → Int32) (va_seconds' : Nat → Int32) (sf_facts' : Int32) (sa_heard' : Nat → Int32) (sa_huts' : Nat → Int32) (sa_minutes' : Nat → Int32) (cf_voices' : Int32) (cf_step' : Int32) (ca_parts' : Nat → Int32) (ca_heights' : Nat → Int32) (nums' : Nat → Int32) (va' h' s' : Int32), (mkF B n r (wOf B n r o) td fa (nW (wOf B n r o)) = 0 → DR o lf_huts' lf_singers' lf_villages' lf_dams' lf_echoes' lf_deep' lf_slide' la_heights' la_ladders' la_minutes' la_echoFrom' la_echoTo' la_homes' la_talls' la_known' vf_deeds' va_kinds' va_firsts' va_seconds' sf_facts' sa_heard' sa_huts' sa_minutes' cf_voices' cf_step' ca_parts' ca_heights' h' s' (lD (wOf B n r o) true (tV B n (ps B n r 1)) (tV B n (ps B n r 2)) (tV B n (ps B n r 3)) td) (lH (wOf B n r o) (tV B n (ps B n r 1)) (tV B n (ps B n r 2)) fh) (lS (wOf B n r o) (tV B n (ps B n r 1)) fs)) → (tK B n (ps B n r (nW (wOf B n r o) + 2)) = 2 → va' = tV B n (ps B n r (nW (wOf B n r o) + 2))) → post lf_huts' lf_singers' lf_villages' lf_dams' lf_echoes' lf_deep' lf_slide' la_heights' la_ladders' la_minutes' la_echoFrom' la_echoTo' la_homes' la_talls' la_known' vf_deeds' va_kinds' va_firsts' va_seconds' sf_facts' sa_heard' sa_huts' sa_minutes' cf_voices' cf_step' ca_parts' ca_heights' (mkF B n r (wOf B n r o) td fa (nW (wOf B n r o))) (mkP B n r (wOf B n r o) td fa pl (nW (wOf B n r o))) nums' (nI (tN B n (ps B n r (nW (wOf B n r o) + 2)))) (nI (tK B n (ps B n r (nW (wOf B n r o) + 2)))) (nI (tF B n (ps B n r (nW (wOf B n r o) + 2)))) va' h' s') : q_wr_X4_readLine_0 lf_huts lf_singers lf_villages lf_dams lf_echoes lf_deep lf_slide la_heights la_ladders la_minutes la_echoFrom la_echoTo la_homes la_talls la_known vf_deeds va_kinds va_firsts va_seconds sf_facts sa_heard sa_huts sa_minutes cf_voices cf_step ca_parts ca_heights fa pl nums tp (nI n) (nI (tN B n r)) (nI (tK B n r)) (nI (tF B n r)) va h s (nI o) post := by
  have hwc := wd_cases (B := B) (n := n) (r := r) ho
  refine e_wordOf hn hr ho hB (fun hw => ⟨fun h9 => absurd rfl h9, fun _ => ?_⟩) (fun hw hWP => ⟨fun _ => ?_, fun h9 => absurd h9 (nI_nm1 (by omega))⟩)
  · have hl : lb B n r o = 0 := by unfold lb; rw [if_pos hw]
    have g := h0 (by omega)
    rw [hl] at g
    exact g lf_huts lf_singers lf_villages lf_dams lf_echoes lf_deep lf_slide la_heights la_ladders la_minutes la_echoFrom la_echoTo la_homes la_talls la_known vf_deeds va_kinds va_firsts va_seconds sf_facts sa_heard sa_huts sa_minutes cf_voices cf_step ca_parts ca_heights nums _ _ _ _ _ _
  have hlb : lb B n r o = lbr B n r (nW (wOf B n r o)) 0 := by unfold lb; rw [if_neg (by omega)]
  obtain ⟨w, hwe⟩ : ∃ w, w = wOf B n r o := ⟨_, rfl⟩
  rw [← hwe] at hlb h1 hw hWP ⊢
  obtain ⟨hnt, hn1, hn3⟩ := nW_tb w hw
  have hps := ps_le (B := B) hr
  -- behind the word's mark
  have st : q_wr_X4_readLine_33 lf_huts lf_singers lf_villages lf_dams lf_echoes lf_deep lf_slide la_heights la_ladders la_minutes la_echoFrom la_echoTo la_homes la_talls la_known vf_deeds va_kinds va_firsts va_seconds sf_facts sa_heard sa_huts sa_minutes cf_voices cf_step ca_parts ca_heights (mkF B n r w td fa 0) (mkP B n r w td fa pl 0) nums tp (nI n) (nI (tN B n r)) (nI (tK B n r)) (nI (tF B n r)) va h s (nI w) post := by
    refine e_adv (r := tN B n r) hn (tk_le hr).2.1 hB (fun v1 hv1 => ?_)
    intro P hP
    have loop : ∀ d k v (nums' : Nat → Int32), d + k = nW w → lbr B n r d k = lb B n r o → (∀ j, j < k → nums' j = tV B n (ps B n r (j + 1))) → (tK B n (ps B n r (k + 1)) = 2 → v = tV B n (ps B n r (k + 1))) → P (nI k) (mkF B n r w td fa k) (mkP B n r w td fa pl k) nums' (nI (tN B n (ps B n r (k + 1)))) (nI (tK B n (ps B n r (k + 1)))) (nI (tF B n (ps B n r (k + 1)))) v := by
      intro d
      induction d with
      | zero =>
        intro k v nums' hd hl hj hv2
        have hkn : k = nW w := by omega
        have hk4 := (tk_le (B := B) (hps (k + 1)).2).2.2.2.2
        apply hP
        rw [nI_clamp (n := w) (by omega), hnt]
        refine ⟨vp_in_nI (by omega) (by omega), pk_le (nW w) k (fun _ => ?_) (fun h9 => absurd h9 (by omega))⟩
        refine pk_eq (tK B n (ps B n r (k + 1))) 3 (fun h3 => ?_) (fun h3 => ?_)
        · have hl9 : lb B n r o = 9 := by rw [← hl, lbr, if_pos h3]
          refine ⟨fun hf => ?_, fun hf => ?_⟩
          · refine e_adv (r := ps B n r (k + 2)) hn (hps (k + 2)).2 hB (fun v3 hv3 => ?_)
            have g := h1 hl9 lf_huts lf_singers lf_villages lf_dams lf_echoes lf_deep lf_slide la_heights la_ladders la_minutes la_echoFrom la_echoTo la_homes la_talls la_known vf_deeds va_kinds va_firsts va_seconds sf_facts sa_heard sa_huts sa_minutes cf_voices cf_step ca_parts ca_heights nums' v3 h s (fun h9 => absurd (by rw [hkn]; exact h9) hf)
            rw [hkn] at hv3 ⊢
            exact g hv3
          · obtain ⟨z1, z2, z3⟩ := mkF_0 k hf
            refine e_tell (a := tV B n (ps B n r 1)) (b := tV B n (ps B n r 2)) (c := tV B n (ps B n r 3)) ho ⟨hWP.1, hWP.2.1⟩ hC z2 (hj 0 (by omega)) (z3 0 (by omega)) (fun q => hj 1 (by omega)) (fun q => z3 1 (by omega)) (fun q => hj 2 (by omega)) (fun q => z3 2 (by omega)) (hD z1) ?_
            intro lf_huts' lf_singers' lf_villages' lf_dams' lf_echoes' lf_deep' lf_slide' la_heights' la_ladders' la_minutes' la_echoFrom' la_echoTo' la_homes' la_talls' la_known' vf_deeds' va_kinds' va_firsts' va_seconds' sf_facts' sa_heard' sa_huts' sa_minutes' cf_voices' cf_step' ca_parts' ca_heights' h' s' hD'
            refine e_adv (r := ps B n r (k + 2)) hn (hps (k + 2)).2 hB (fun v3 hv3 => ?_)
            have g := h1 hl9 lf_huts' lf_singers' lf_villages' lf_dams' lf_echoes' lf_deep' lf_slide' la_heights' la_ladders' la_minutes' la_echoFrom' la_echoTo' la_homes' la_talls' la_known' vf_deeds' va_kinds' va_firsts' va_seconds' sf_facts' sa_heard' sa_huts' sa_minutes' cf_voices' cf_step' ca_parts' ca_heights' nums' v3 h' s' (fun _ => hD')
            rw [hkn] at hv3 ⊢
            exact g hv3
        · have hl9 : lb B n r o = k + 1 := by rw [← hl, lbr, if_neg h3]
          have g := h0 (by omega) lf_huts lf_singers lf_villages lf_dams lf_echoes lf_deep lf_slide la_heights la_ladders la_minutes la_echoFrom la_echoTo la_homes la_talls la_known vf_deeds va_kinds va_firsts va_seconds sf_facts sa_heard sa_huts sa_minutes cf_voices cf_step ca_parts ca_heights nums' (nI (tN B n (ps B n r (k + 1)))) (nI (tK B n (ps B n r (k + 1)))) (nI (tF B n (ps B n r (k + 1)))) v h s
          rw [hl9] at g
          exact g
      | succ d ih =>
        intro k v nums' hd hl hj hv2
        have hk4 := (tk_le (B := B) (hps (k + 1)).2).2.2.2.2
        apply hP
        rw [nI_clamp (n := w) (by omega), hnt]
        refine ⟨vp_in_nI (by omega) (by omega), pk_le (nW w) k (fun h9 => absurd h9 (by omega)) (fun _ => ?_)⟩
        refine pk_eq (tK B n (ps B n r (k + 1))) 2 (fun h3 => ⟨vp_in_nI (by omega) (by omega), fun t1 e1 => ?_⟩) (fun h3 => ?_)
        · rw [nI_clamp (by omega), hv2 h3] at e1
          have hj2 : ∀ j, j < k + 1 → t1 j = tV B n (ps B n r (j + 1)) := by
            intro j hj3
            rw [e1]
            by_cases hjk : j = k
            · subst hjk; exact up_s
            · rw [up_n hjk]; exact hj j (by omega)
          have hl2 : lbr B n r d (k + 1) = lb B n r o := by rw [← hl, lbr, if_pos h3]
          have nx : ∀ f p, f = mkF B n r w td fa (k + 1) → p = mkP B n r w td fa pl (k + 1) → q_wr_X4_readLine_89 P lf_huts lf_singers lf_villages lf_dams lf_echoes lf_deep lf_slide la_heights la_ladders la_minutes la_echoFrom la_echoTo la_homes la_talls la_known vf_deeds va_kinds va_firsts va_seconds sf_facts sa_heard sa_huts sa_minutes cf_voices cf_step ca_parts ca_heights f p t1 tp (nI n) (nI (tN B n (ps B n r (k + 1)))) (nI (tK B n (ps B n r (k + 1)))) (nI (tF B n (ps B n r (k + 1)))) v h s (nI w) (nI k) post := by
            intro f p hf hp
            refine e_adv (r := ps B n r (k + 2)) hn (hps (k + 2)).2 hB (fun v3 hv3 v4 e4 => ?_)
            rw [e4, nI_1, hf, hp]
            exact ih (k + 1) v3 t1 (by omega) hl2 hj2 hv3
          refine e_canBe (a := tV B n (ps B n r 1)) hw (by omega) (hj2 0 (by omega)) (by rw [hj2 k (by omega)]; exact tV_iv (hps (k + 1)).2 h3) (fun hc => io ?_) (fun hc => zi ?_)
          · rw [hj2 k (by omega)] at hc
            refine nx _ _ ?_ ?_
            · show _ = mF (cW w k (tV B n (ps B n r 1)) (tV B n (ps B n r (k + 1)))) (mkF B n r w td fa k) 2
              rw [hc, mF_t]
            · show _ = mP (cW w k (tV B n (ps B n r 1)) (tV B n (ps B n r (k + 1)))) (mkF B n r w td fa k) (mkP B n r w td fa pl k) (nI (tF B n (ps B n r (k + 1))))
              rw [hc, mP_t]
          · rw [hj2 k (by omega)] at hc
            exact mark_e hc (nx _ _ rfl rfl)
        · have hl9 : lb B n r o = k + 1 := by rw [← hl, lbr, if_neg h3]
          have g := h0 (by omega) lf_huts lf_singers lf_villages lf_dams lf_echoes lf_deep lf_slide la_heights la_ladders la_minutes la_echoFrom la_echoTo la_homes la_talls la_known vf_deeds va_kinds va_firsts va_seconds sf_facts sa_heard sa_huts sa_minutes cf_voices cf_step ca_parts ca_heights nums' (nI (tN B n (ps B n r (k + 1)))) (nI (tK B n (ps B n r (k + 1)))) (nI (tF B n (ps B n r (k + 1)))) v h s
          rw [hl9] at g
          exact g
    exact loop (nW w) 0 v1 nums (by omega) hlb.symm (fun j hj => absurd hj (by omega)) hv1
  by_cases hfa : fa = 0
  · refine e_isFull hw (fun hc => oi ?_) (fun hc => iz ?_)
    · rw [DR_fu ho ⟨hWP.1, hWP.2.1⟩ (hD hfa)] at hc
      exact mark_e (c := !fu w td) (by rw [hc]; rfl) st
    · rw [DR_fu ho ⟨hWP.1, hWP.2.1⟩ (hD hfa)] at hc
      have e1 : mkF B n r w td fa 0 = fa := by show mF (!fu w td) fa 3 = fa; rw [hc]; rfl
      have e2 : mkP B n r w td fa pl 0 = pl := by show mP (!fu w td) fa pl _ = pl; rw [hc]; rfl
      rw [e1, e2] at st
      exact st
  · have e1 : mkF B n r w td fa 0 = fa := mF_n hfa
    have e2 : mkP B n r w td fa pl 0 = pl := mP_n hfa
    rw [e1, e2] at st
    exact fu_any hw (oi ⟨fun _ => st, fun h9 => absurd h9 hfa⟩) (iz st)
end
section
theorem al1 {P : Nat → Prop} (h1 : P 1) : ∀ j, 1 ≤ j → j ≤ 1 → P j := fun j a b => by
  have : j = 1 := by omega
  subst this; exact h1
theorem al2 {P : Nat → Prop} (h1 : P 1) (h2 : P 2) : ∀ j, 1 ≤ j → j ≤ 2 → P j := fun j a b => by
  have : j = 1 ∨ j = 2 := by omega
  rcases this with rfl | rfl
  · exact h1
  · exact h2
theorem al3 {P : Nat → Prop} (h1 : P 1) (h2 : P 2) (h3 : P 3) : ∀ j, 1 ≤ j → j ≤ 3 → P j := fun j a b => by
  have : j = 1 ∨ j = 2 ∨ j = 3 := by omega
  rcases this with rfl | rfl | rfl
  · exact h1
  · exact h2
  · exact h3
theorem be1 {P : Nat → Prop} : ∀ j, 1 ≤ j → j < 1 → P j := fun j a b => absurd b (by omega)
theorem be2 {P : Nat → Prop} (h1 : P 1) : ∀ j, 1 ≤ j → j < 2 → P j := fun j a b => al1 h1 j a (by omega)
theorem be3 {P : Nat → Prop} (h1 : P 1) (h2 : P 2) : ∀ j, 1 ≤ j → j < 3 → P j := fun j a b => al2 h1 h2 j a (by omega)
def gI (b : Bool) : Int32 := if b = true then 1 else 0
theorem sI_2 : ∀ k, k ≤ 4 → (sI k = 2 ↔ k = 1) := by decide
theorem sI_3 : ∀ k, k ≤ 4 → (sI k = 3 ↔ k = 2) := by decide
theorem sI_4 : ∀ k, k ≤ 4 → (sI k = 4 ↔ k = 3) := by decide
theorem sI_0 : ∀ k, k ≤ 4 → (sI k = 0 ↔ k = 0) := by decide
theorem e_later {c : Bool} {lf lp f pl : Int32} {post : Int32 → Int32 → Prop} (hc : c = false) (hlp : ¬ lf = 0 → lp < pl) (h : post (mF c lf f) (mP c lf lp pl)) : q_m_later_0 lf lp f pl post := by
  unfold mF mP at h
  rw [hc] at h
  have hb : ¬ (false = true) := by decide
  rw [if_neg hb, if_neg hb] at h
  refine ⟨fun h9 => ?_, fun h9 => ?_⟩
  · rw [if_pos h9, if_pos h9] at h; exact h
  · rw [if_neg h9, if_neg h9] at h
    have hl := r_lt (hlp h9)
    refine ⟨fun h8 => absurd (r_lt h8) (by omega), fun _ => ⟨fun _ => h, fun h8 => ?_⟩⟩
    rw [h8] at hl
    omega
theorem LP_n {c : Bool} {lf lp f : Int32} {F F' : Nat} (hlp : ¬ lf = 0 → lp < nI F) (h1 : F < F') (h2 : F' ≤ 600) : ¬ mF c lf f = 0 → mP c lf lp (nI F) < nI F' := by
  intro hm
  have hFF : nI F < nI F' := nI_lt h1 (by omega)
  unfold mF at hm
  unfold mP
  by_cases hc : c = true
  · rw [if_pos hc] at hm ⊢
    exact Int32.lt_trans (hlp hm) hFF
  · rw [if_neg hc] at hm ⊢
    by_cases hl : lf = 0
    · rw [if_pos hl]; exact hFF
    · rw [if_neg hl]; exact Int32.lt_trans (hlp hl) hFF
theorem LP_s {lf lp : Int32} {F F' : Nat} (hlp : ¬ lf = 0 → lp < nI F) (h1 : F ≤ F') (h2 : F' ≤ 600) : ¬ lf = 0 → lp < nI F' := fun h => Int32.lt_of_lt_of_le (hlp h) (nI_le h1 (by omega))
theorem tF_nx {B : Nat → Int32} {n p : Nat} (hp : p ≤ n) (hK : ¬ tK B n p = 0) : tF B n p < tF B n (tN B n p) ∧ tF B n (tN B n p) ≤ n := by
  have h := tk_le (B := B) hp
  have h2 := tF_le (B := B) h.2.1
  have := h.2.2.1 hK
  omega
theorem e_greater {a b : Int32} {post : Int32 → Prop} (h : post (gr a b)) : q_m_greater_0 a b post := by
  unfold gr at h
  refine ⟨fun c => ?_, fun c => ?_⟩
  · rw [if_neg (Int32.not_lt.mpr c)] at h; exact h
  · rw [if_pos (Int32.not_le.mp c)] at h; exact h
theorem e_takeBut {tp B rd : Nat → Int32} {n r k i : Nat} {va wr lf lp lo hi but : Int32} {wd : Int64} {g c : Bool} {post : Int32 → Int32 → Int32 → Int32 → Int32 → Int64 → Int32 → Int32 → Int32 → (Nat → Int32) → Int32 → Prop} (hn : n ≤ 600) (hr : r ≤ n) (hB : ∀ j, j < n → tp j = B j) (hb : ∀ j, iv (-128) 127 (B j)) (hv : tK B n (ps B n r k) = 2 → va = (tV B n (ps B n r k))) (hlp : ¬ lf = 0 → lp < (nI (tF B n (ps B n r k)))) (hi3 : i < 3) (hc : c = cb lo hi but (tV B n (ps B n r k)))
    (h0 : ¬ tK B n (ps B n r k) = 2 → post 0 (nI (tN B n (ps B n r k))) (nI (tF B n (ps B n r k))) (sI (tK B n (ps B n r k))) va wd (nI (tF B n (ps B n r k))) lf lp rd (gI g))
    (h1 : tK B n (ps B n r k) = 2 → ∀ (va' : Int32) (wd' : Int64), (tK B n (ps B n r (k + 1)) = 2 → va' = (tV B n (ps B n r (k + 1)))) → (¬ mF c lf 2 = 0 → mP c lf lp (nI (tF B n (ps B n r k))) < (nI (tF B n (ps B n r (k + 1))))) → post 1 (nI (tN B n (ps B n r (k + 1)))) (nI (tF B n (ps B n r (k + 1)))) (sI (tK B n (ps B n r (k + 1)))) va' wd' wr (mF c lf 2) (mP c lf lp (nI (tF B n (ps B n r k)))) (upd rd i (tV B n (ps B n r k))) (gI (g && c))) : q_m_takeBut_0 tp (nI (tN B n (ps B n r k))) (nI n) (nI (tF B n (ps B n r k))) (sI (tK B n (ps B n r k))) va wd wr lf lp rd (gI g) (nI i) lo hi but post := by
  have hps := ps_le (B := B) hr k
  have hk := tk_le (B := B) hps.2
  refine ⟨fun h3 => ?_, fun h3 => ⟨rfl, h0 (fun h9 => h3 ((sI_3 _ hk.2.2.2.2).mpr h9))⟩⟩
  have hK := (sI_3 _ hk.2.2.2.2).mp h3
  have hF := tF_nx (B := B) hps.2 (by omega)
  refine ⟨vp_in_nI hi3 (by omega), fun rd1 e1 => ?_⟩
  rw [nI_clamp (by omega), hv hK] at e1
  rw [hv hK]
  have hgg : c = true → g = (g && c) := fun h => by rw [h, Bool.and_true]
  have hg0 : c = false → (0 : Int32) = gI (g && c) := fun h => by rw [h, Bool.and_false]; rfl
  have bad : c = false → q_m_takeBut_44 tp (nI (tN B n (ps B n r k))) (nI n) (nI (tF B n (ps B n r k))) (sI (tK B n (ps B n r k))) (tV B n (ps B n r k)) wd wr lf lp rd1 (gI g) post := by
    intro hcf
    refine e_later hcf hlp ?_
    refine e_tok (r := tN B n (ps B n r k)) hn hk.2.1 hB hb (fun v w hv2 _ => ?_)
    rw [e1, hg0 hcf]
    exact h1 hK v w hv2 (LP_n hlp hF.1 (Nat.le_trans hF.2 hn))
  refine sp_in (fun hnot => iz (bad (by rw [hc]; exact decide_eq_false (fun h9 => hnot ⟨h9.1, h9.2.1⟩)))) (fun a b => oi ⟨fun hne => ?_, fun he => bad (by rw [hc]; exact decide_eq_false (fun h9 => h9.2.2 he))⟩)
  have hct : c = true := by rw [hc]; exact decide_eq_true ⟨a, b, hne⟩
  refine e_tok (r := tN B n (ps B n r k)) hn hk.2.1 hB hb (fun v w hv2 _ => ?_)
  have g2 := h1 hK v w hv2 (LP_n hlp hF.1 (Nat.le_trans hF.2 hn))
  rw [← hgg hct, hct, mF_t, mP_t] at g2
  rw [e1]
  exact g2
theorem e_take {tp B rd : Nat → Int32} {n r k i : Nat} {va wr lf lp lo hi : Int32} {wd : Int64} {g c : Bool} {post : Int32 → Int32 → Int32 → Int32 → Int32 → Int64 → Int32 → Int32 → Int32 → (Nat → Int32) → Int32 → Prop} (hn : n ≤ 600) (hr : r ≤ n) (hB : ∀ j, j < n → tp j = B j) (hb : ∀ j, iv (-128) 127 (B j)) (hv : tK B n (ps B n r k) = 2 → va = (tV B n (ps B n r k))) (hlp : ¬ lf = 0 → lp < (nI (tF B n (ps B n r k)))) (hi3 : i < 3) (hc : c = cb lo hi (-1) (tV B n (ps B n r k)))
    (h0 : ¬ tK B n (ps B n r k) = 2 → post 0 (nI (tN B n (ps B n r k))) (nI (tF B n (ps B n r k))) (sI (tK B n (ps B n r k))) va wd (nI (tF B n (ps B n r k))) lf lp rd (gI g))
    (h1 : tK B n (ps B n r k) = 2 → ∀ (va' : Int32) (wd' : Int64), (tK B n (ps B n r (k + 1)) = 2 → va' = (tV B n (ps B n r (k + 1)))) → (¬ mF c lf 2 = 0 → mP c lf lp (nI (tF B n (ps B n r k))) < (nI (tF B n (ps B n r (k + 1))))) → post 1 (nI (tN B n (ps B n r (k + 1)))) (nI (tF B n (ps B n r (k + 1)))) (sI (tK B n (ps B n r (k + 1)))) va' wd' wr (mF c lf 2) (mP c lf lp (nI (tF B n (ps B n r k)))) (upd rd i (tV B n (ps B n r k))) (gI (g && c))) : q_m_take_0 tp (nI (tN B n (ps B n r k))) (nI n) (nI (tF B n (ps B n r k))) (sI (tK B n (ps B n r k))) va wd wr lf lp rd (gI g) (nI i) lo hi post :=
  e_takeBut hn hr hB hb hv hlp hi3 hc (fun h => ⟨rfl, h0 h⟩) (fun h v w a b => ⟨rfl, h1 h v w a b⟩)
theorem e_takeHut {tp B rd : Nat → Int32} {n r k i : Nat} {va wr lf lp fh but : Int32} {wd : Int64} {g c : Bool} {post : Int32 → Int32 → Int32 → Int32 → Int32 → Int64 → Int32 → Int32 → Int32 → (Nat → Int32) → Int32 → Int32 → Prop} (hn : n ≤ 600) (hr : r ≤ n) (hB : ∀ j, j < n → tp j = B j) (hb : ∀ j, iv (-128) 127 (B j)) (hv : tK B n (ps B n r k) = 2 → va = (tV B n (ps B n r k))) (hlp : ¬ lf = 0 → lp < (nI (tF B n (ps B n r k)))) (hi3 : i < 3) (hc : c = cb 0 8 but (tV B n (ps B n r k)))
    (h0 : ¬ tK B n (ps B n r k) = 2 → post 0 (nI (tN B n (ps B n r k))) (nI (tF B n (ps B n r k))) (sI (tK B n (ps B n r k))) va wd (nI (tF B n (ps B n r k))) lf lp rd fh (gI g))
    (h1 : tK B n (ps B n r k) = 2 → ∀ (va' : Int32) (wd' : Int64), (tK B n (ps B n r (k + 1)) = 2 → va' = (tV B n (ps B n r (k + 1)))) → (¬ mF c lf 2 = 0 → mP c lf lp (nI (tF B n (ps B n r k))) < (nI (tF B n (ps B n r (k + 1))))) → post 1 (nI (tN B n (ps B n r (k + 1)))) (nI (tF B n (ps B n r (k + 1)))) (sI (tK B n (ps B n r (k + 1)))) va' wd' wr (mF c lf 2) (mP c lf lp (nI (tF B n (ps B n r k)))) (upd rd i (tV B n (ps B n r k))) (gr fh (tV B n (ps B n r k))) (gI (g && c))) : q_m_takeHut_0 tp (nI (tN B n (ps B n r k))) (nI n) (nI (tF B n (ps B n r k))) (sI (tK B n (ps B n r k))) va wd wr lf lp rd fh (gI g) (nI i) but post := by
  refine e_takeBut hn hr hB hb hv hlp hi3 hc (fun h => zi (h0 h)) (fun h v w a b => io ⟨vp_in_nI hi3 (by omega), ?_⟩)
  rw [nI_clamp (by omega), up_s]
  exact e_greater (h1 h v w a b)
theorem e_further {td : Nat → Int32} {c : Nat} {M : Int32} {post : Int32 → (Nat → Int32) → Prop} (hc : c < 132) (h0 : td c = M → post (-1) td) (h1 : ¬ td c = M → post (td c) (upd td c (td c + 1))) : q_m_further_0 td (nI c) M post := by
  have hin : vp_in (nI c) 132 := vp_in_nI hc (by omega)
  refine ⟨hin, fun v e => ?_⟩
  rw [nI_clamp (by omega)] at e ⊢
  subst e
  refine ⟨fun h => ⟨hin, fun v2 e2 => ⟨hin, fun t e3 => ?_⟩⟩, fun h => h0 h⟩
  subst e2 e3
  exact h1 h
theorem e_full {td : Nat → Int32} {c : Nat} {M lf lp x : Int32} {b : Bool} {post : Int32 → Int32 → Prop} (hc : c < 132) (hb : b = decide (td c = M)) (hlp : ¬ lf = 0 → lp < x) (h : post (mF (!b) lf 3) (mP (!b) lf lp x)) : q_m_full_0 lf lp td (nI c) M x post := by
  refine ⟨vp_in_nI hc (by omega), ?_⟩
  rw [nI_clamp (by omega)]
  refine ⟨fun h9 => ?_, fun h9 => ?_⟩
  · have e : b = false := by rw [hb]; exact decide_eq_false h9
    rw [e] at h
    exact h
  · have e : b = true := by rw [hb]; exact decide_eq_true h9
    rw [e] at h
    exact e_later (c := !true) rfl hlp h
def kp (td rd : Nat → Int32) (W : Nat) : Nat → Nat → Int32
  | 0 => upd td 0 (td 0 + 1)
  | i + 1 => upd (kp td rd W i) (Int32.toNatClampNeg ((1 + nI W * td 0) + nI i)) (rd i)
theorem e_keep {td rd : Nat → Int32} {W : Nat} {M : Int32} {post : (Nat → Int32) → Prop} (hW : W ≤ 3) (hM : iv 0 40 (td 0)) (h0 : td 0 = M → post td) (h1 : ¬ td 0 = M → post (kp td rd W W)) : q_m_keep_0 td rd (nI W) M post := by
  refine e_further (c := 0) (by omega) (fun h => ?_) (fun h => ?_)
  · intro P hP
    apply hP
    exact pk_le W 0 (fun _ => h0 h) (fun _ => ⟨fun _ => h0 h, fun h9 => absurd rfl h9⟩)
  · have hm : ¬ td 0 = -1 := fun h9 => by
      have := hM.1
      rw [h9] at this
      exact absurd this (by decide)
    obtain ⟨k, hk, -, hk2, -⟩ := iv_nI hM (by decide)
    intro P hP
    have loop : ∀ d i, d + i = W → P (nI i) (kp td rd W i) := by
      intro d
      induction d with
      | zero =>
        intro i hd
        apply hP
        refine pk_le W i (fun _ => ?_) (fun h9 => absurd h9 (by omega))
        have e : i = W := by omega
        rw [e]
        exact h1 h
      | succ d ih =>
        intro i hd
        apply hP
        have hix : ((1 : Int32) + nI W * td 0) + nI i = nI (1 + W * k + i) := by rw [hk]; exact jx2 1 W k i
        have hlt : 1 + W * k + i < 132 := by
          have : W * k ≤ 3 * 40 := Nat.mul_le_mul hW (by omega)
          omega
        refine pk_le W i (fun h9 => absurd h9 (by omega)) (fun _ => ⟨fun h9 => absurd h9 hm, fun _ => ⟨vp_in_nI (by omega) (by omega), fun v e => ⟨by rw [hix]; exact vp_in_nI hlt (by omega), fun t e2 v2 e3 => ?_⟩⟩⟩)
        rw [nI_clamp (by omega)] at e
        rw [e3, nI_1, e2, e]
        exact ih (i + 1) (by omega)
    exact loop W 0 (by omega)
set_option maxRecDepth 20000 in
theorem e_hutLine {tp B rd td : Nat → Int32} {n r : Nat} {va wr fa pl : Int32} {wd : Int64} {post : Int32 → Int32 → Int32 → Int32 → Int32 → Int64 → Int32 → Int32 → Int32 → (Nat → Int32) → (Nat → Int32) → Int32 → Prop} (hn : n ≤ 600) (hr : r ≤ n) (hB : ∀ j, j < n → tp j = B j) (hb : ∀ j, iv (-128) 127 (B j)) (hv : tK B n (ps B n r 1) = 2 → va = (tV B n (ps B n r 1))) (hlp : ¬ mkF B n r 0 td fa 0 = 0 → mkP B n r 0 td fa pl 0 < (nI (tF B n (ps B n r 1)))) (hC : iv 0 9 (td 0))
    (hF : ∀ j, 1 ≤ j → j ≤ 1 → ¬ tK B n (ps B n r j) = 2 → (∀ i, 1 ≤ i → i < j → tK B n (ps B n r i) = 2) → ∀ (re be so va : Int32) (wd : Int64) (lf lp : Int32) (td rd : Nat → Int32) (gd : Int32), post 0 re be so va wd (nI (tF B n (ps B n r j))) lf lp td rd gd)
    (hT : (∀ j, 1 ≤ j → j ≤ 1 → tK B n (ps B n r j) = 2) → ∀ (va' : Int32) (wd' : Int64) (rd' : Nat → Int32) (gd' : Int32), (¬ mkF B n r 0 td fa 1 = 0 → mkP B n r 0 td fa pl 1 < (nI (tF B n (ps B n r 2)))) → post 1 (nI (tN B n (ps B n r 2))) (nI (tF B n (ps B n r 2))) (sI (tK B n (ps B n r 2))) va' wd' wr (mkF B n r 0 td fa 1) (mkP B n r 0 td fa pl 1) (lD 0 (gd B n r 0 1) (tV B n (ps B n r 1)) (tV B n (ps B n r 2)) (tV B n (ps B n r 3)) td) rd' gd') : q_m_hutLine_0 tp (nI (tN B n (ps B n r 1))) (nI n) (nI (tF B n (ps B n r 1))) (sI (tK B n (ps B n r 1))) va wd wr (mkF B n r 0 td fa 0) (mkP B n r 0 td fa pl 0) td rd 1 post := by
  refine e_take (k := 1) (i := 0) (c := cW 0 0 (tV B n (ps B n r 1)) (tV B n (ps B n r 1))) (g := gd B n r 0 0) hn hr hB hb hv hlp (by omega) rfl (fun hk => zi (hF 1 (by omega) (by omega) hk (be1 (P := fun j => tK B n (ps B n r j) = 2)) _ _ _ _ _ _ _ _ _ _)) (fun k1 va1 wd1 hv1 hl1 => io ?_)
  have g := hT (al1 (P := fun j => tK B n (ps B n r j) = 2) k1) va1 wd1 (upd rd 0 (tV B n (ps B n r 1))) (gI (gd B n r 0 1)) hl1
  rw [show lD 0 (gd B n r 0 1) (tV B n (ps B n r 1)) (tV B n (ps B n r 2)) (tV B n (ps B n r 3)) td = (if td 0 = 9 then td else upd (upd td 0 (td 0 + 1)) (Int32.toNatClampNeg (7 + td 0)) (tV B n (ps B n r 1))) from rfl] at g
  refine e_further (c := 0) (by omega) (fun h => ⟨fun _ => ?_, fun h9 => absurd rfl h9⟩) (fun h => ⟨fun h9 => ?_, fun _ v e => ⟨iv_in (iv_add (l := 7) (h := 16) (iv_lit (x := 7) (l := 7) (h := 7) (by decide)) hC (by decide)) (by decide), fun t2 e2 => ?_⟩⟩)
  · rw [if_pos h] at g; exact g
  · have := hC.1
    rw [h9] at this
    exact absurd this (by decide)
  · rw [if_neg h] at g
    rw [c_0, up_s] at e
    rw [e2, e]
    exact g
set_option maxRecDepth 20000 in
theorem e_plainLine_3 {tp B rd td : Nat → Int32} {n r : Nat} {va wr fa pl : Int32} {wd : Int64} {post : Int32 → Int32 → Int32 → Int32 → Int32 → Int64 → Int32 → Int32 → Int32 → (Nat → Int32) → (Nat → Int32) → Int32 → Prop} (hn : n ≤ 600) (hr : r ≤ n) (hB : ∀ j, j < n → tp j = B j) (hb : ∀ j, iv (-128) 127 (B j)) (hv : tK B n (ps B n r 1) = 2 → va = (tV B n (ps B n r 1))) (hlp : ¬ mkF B n r 3 td fa 0 = 0 → mkP B n r 3 td fa pl 0 < (nI (tF B n (ps B n r 1)))) 
    (hF : ∀ j, 1 ≤ j → j ≤ 1 → ¬ tK B n (ps B n r j) = 2 → (∀ i, 1 ≤ i → i < j → tK B n (ps B n r i) = 2) → ∀ (re be so va : Int32) (wd : Int64) (lf lp : Int32) (td rd : Nat → Int32) (gd : Int32), post 0 re be so va wd (nI (tF B n (ps B n r j))) lf lp td rd gd)
    (hT : (∀ j, 1 ≤ j → j ≤ 1 → tK B n (ps B n r j) = 2) → ∀ (va' : Int32) (wd' : Int64) (rd' : Nat → Int32) (gd' : Int32), (¬ mkF B n r 3 td fa 1 = 0 → mkP B n r 3 td fa pl 1 < (nI (tF B n (ps B n r 2)))) → post 1 (nI (tN B n (ps B n r 2))) (nI (tF B n (ps B n r 2))) (sI (tK B n (ps B n r 2))) va' wd' wr (mkF B n r 3 td fa 1) (mkP B n r 3 td fa pl 1) (lD 3 (gd B n r 3 1) (tV B n (ps B n r 1)) (tV B n (ps B n r 2)) (tV B n (ps B n r 3)) td) rd' gd') : q_m_plainLine_0 tp (nI (tN B n (ps B n r 1))) (nI n) (nI (tF B n (ps B n r 1))) (sI (tK B n (ps B n r 1))) va wd wr (mkF B n r 3 td fa 0) (mkP B n r 3 td fa pl 0) td rd 1 5 1 9 post := by
  refine e_take (k := 1) (i := 0) (c := cW 3 0 (tV B n (ps B n r 1)) (tV B n (ps B n r 1))) (g := gd B n r 3 0) hn hr hB hb hv hlp (by omega) rfl (fun hk => zi (hF 1 (by omega) (by omega) hk (be1 (P := fun j => tK B n (ps B n r j) = 2)) _ _ _ _ _ _ _ _ _ _)) (fun k1 va1 wd1 hv1 hl1 => io ?_)
  have g := hT (al1 (P := fun j => tK B n (ps B n r j) = 2) k1) va1 wd1 (upd rd 0 (tV B n (ps B n r 1))) (gI (gd B n r 3 1)) hl1
  refine fun v e => ⟨vp_in_nI (n := 5) (by decide) (by decide), fun t2 e2 => ?_⟩
  rw [c_0, up_s] at e
  rw [e2, e]
  exact g
set_option maxRecDepth 20000 in
theorem e_plainLine_4 {tp B rd td : Nat → Int32} {n r : Nat} {va wr fa pl : Int32} {wd : Int64} {post : Int32 → Int32 → Int32 → Int32 → Int32 → Int64 → Int32 → Int32 → Int32 → (Nat → Int32) → (Nat → Int32) → Int32 → Prop} (hn : n ≤ 600) (hr : r ≤ n) (hB : ∀ j, j < n → tp j = B j) (hb : ∀ j, iv (-128) 127 (B j)) (hv : tK B n (ps B n r 1) = 2 → va = (tV B n (ps B n r 1))) (hlp : ¬ mkF B n r 4 td fa 0 = 0 → mkP B n r 4 td fa pl 0 < (nI (tF B n (ps B n r 1)))) 
    (hF : ∀ j, 1 ≤ j → j ≤ 1 → ¬ tK B n (ps B n r j) = 2 → (∀ i, 1 ≤ i → i < j → tK B n (ps B n r i) = 2) → ∀ (re be so va : Int32) (wd : Int64) (lf lp : Int32) (td rd : Nat → Int32) (gd : Int32), post 0 re be so va wd (nI (tF B n (ps B n r j))) lf lp td rd gd)
    (hT : (∀ j, 1 ≤ j → j ≤ 1 → tK B n (ps B n r j) = 2) → ∀ (va' : Int32) (wd' : Int64) (rd' : Nat → Int32) (gd' : Int32), (¬ mkF B n r 4 td fa 1 = 0 → mkP B n r 4 td fa pl 1 < (nI (tF B n (ps B n r 2)))) → post 1 (nI (tN B n (ps B n r 2))) (nI (tF B n (ps B n r 2))) (sI (tK B n (ps B n r 2))) va' wd' wr (mkF B n r 4 td fa 1) (mkP B n r 4 td fa pl 1) (lD 4 (gd B n r 4 1) (tV B n (ps B n r 1)) (tV B n (ps B n r 2)) (tV B n (ps B n r 3)) td) rd' gd') : q_m_plainLine_0 tp (nI (tN B n (ps B n r 1))) (nI n) (nI (tF B n (ps B n r 1))) (sI (tK B n (ps B n r 1))) va wd wr (mkF B n r 4 td fa 0) (mkP B n r 4 td fa pl 0) td rd 1 6 0 10 post := by
  refine e_take (k := 1) (i := 0) (c := cW 4 0 (tV B n (ps B n r 1)) (tV B n (ps B n r 1))) (g := gd B n r 4 0) hn hr hB hb hv hlp (by omega) rfl (fun hk => zi (hF 1 (by omega) (by omega) hk (be1 (P := fun j => tK B n (ps B n r j) = 2)) _ _ _ _ _ _ _ _ _ _)) (fun k1 va1 wd1 hv1 hl1 => io ?_)
  have g := hT (al1 (P := fun j => tK B n (ps B n r j) = 2) k1) va1 wd1 (upd rd 0 (tV B n (ps B n r 1))) (gI (gd B n r 4 1)) hl1
  refine fun v e => ⟨vp_in_nI (n := 6) (by decide) (by decide), fun t2 e2 => ?_⟩
  rw [c_0, up_s] at e
  rw [e2, e]
  exact g
set_option maxRecDepth 20000 in
theorem e_plainLine_19 {tp B rd td : Nat → Int32} {n r : Nat} {va wr fa pl : Int32} {wd : Int64} {post : Int32 → Int32 → Int32 → Int32 → Int32 → Int64 → Int32 → Int32 → Int32 → (Nat → Int32) → (Nat → Int32) → Int32 → Prop} (hn : n ≤ 600) (hr : r ≤ n) (hB : ∀ j, j < n → tp j = B j) (hb : ∀ j, iv (-128) 127 (B j)) (hv : tK B n (ps B n r 1) = 2 → va = (tV B n (ps B n r 1))) (hlp : ¬ mkF B n r 19 td fa 0 = 0 → mkP B n r 19 td fa pl 0 < (nI (tF B n (ps B n r 1)))) 
    (hF : ∀ j, 1 ≤ j → j ≤ 1 → ¬ tK B n (ps B n r j) = 2 → (∀ i, 1 ≤ i → i < j → tK B n (ps B n r i) = 2) → ∀ (re be so va : Int32) (wd : Int64) (lf lp : Int32) (td rd : Nat → Int32) (gd : Int32), post 0 re be so va wd (nI (tF B n (ps B n r j))) lf lp td rd gd)
    (hT : (∀ j, 1 ≤ j → j ≤ 1 → tK B n (ps B n r j) = 2) → ∀ (va' : Int32) (wd' : Int64) (rd' : Nat → Int32) (gd' : Int32), (¬ mkF B n r 19 td fa 1 = 0 → mkP B n r 19 td fa pl 1 < (nI (tF B n (ps B n r 2)))) → post 1 (nI (tN B n (ps B n r 2))) (nI (tF B n (ps B n r 2))) (sI (tK B n (ps B n r 2))) va' wd' wr (mkF B n r 19 td fa 1) (mkP B n r 19 td fa pl 1) (lD 19 (gd B n r 19 1) (tV B n (ps B n r 1)) (tV B n (ps B n r 2)) (tV B n (ps B n r 3)) td) rd' gd') : q_m_plainLine_0 tp (nI (tN B n (ps B n r 1))) (nI n) (nI (tF B n (ps B n r 1))) (sI (tK B n (ps B n r 1))) va wd wr (mkF B n r 19 td fa 0) (mkP B n r 19 td fa pl 0) td rd 1 19 0 9 post := by
  refine e_take (k := 1) (i := 0) (c := cW 19 0 (tV B n (ps B n r 1)) (tV B n (ps B n r 1))) (g := gd B n r 19 0) hn hr hB hb hv hlp (by omega) rfl (fun hk => zi (hF 1 (by omega) (by omega) hk (be1 (P := fun j => tK B n (ps B n r j) = 2)) _ _ _ _ _ _ _ _ _ _)) (fun k1 va1 wd1 hv1 hl1 => io ?_)
  have g := hT (al1 (P := fun j => tK B n (ps B n r j) = 2) k1) va1 wd1 (upd rd 0 (tV B n (ps B n r 1))) (gI (gd B n r 19 1)) hl1
  refine fun v e => ⟨vp_in_nI (n := 19) (by decide) (by decide), fun t2 e2 => ?_⟩
  rw [c_0, up_s] at e
  rw [e2, e]
  exact g
set_option maxRecDepth 20000 in
theorem e_bitLine_1 {tp B rd td : Nat → Int32} {n r : Nat} {va wr fa pl fh : Int32} {wd : Int64} {post : Int32 → Int32 → Int32 → Int32 → Int32 → Int64 → Int32 → Int32 → Int32 → (Nat → Int32) → (Nat → Int32) → Int32 → Int32 → Prop} (hn : n ≤ 600) (hr : r ≤ n) (hB : ∀ j, j < n → tp j = B j) (hb : ∀ j, iv (-128) 127 (B j)) (hv : tK B n (ps B n r 1) = 2 → va = (tV B n (ps B n r 1))) (hlp : ¬ mkF B n r 1 td fa 0 = 0 → mkP B n r 1 td fa pl 0 < (nI (tF B n (ps B n r 1)))) 
    (hF : ∀ j, 1 ≤ j → j ≤ 1 → ¬ tK B n (ps B n r j) = 2 → (∀ i, 1 ≤ i → i < j → tK B n (ps B n r i) = 2) → ∀ (re be so va : Int32) (wd : Int64) (lf lp : Int32) (td rd : Nat → Int32) (fh : Int32) (gd : Int32), post 0 re be so va wd (nI (tF B n (ps B n r j))) lf lp td rd fh gd)
    (hT : (∀ j, 1 ≤ j → j ≤ 1 → tK B n (ps B n r j) = 2) → ∀ (va' : Int32) (wd' : Int64) (rd' : Nat → Int32) (gd' : Int32), (¬ mkF B n r 1 td fa 1 = 0 → mkP B n r 1 td fa pl 1 < (nI (tF B n (ps B n r 2)))) → post 1 (nI (tN B n (ps B n r 2))) (nI (tF B n (ps B n r 2))) (sI (tK B n (ps B n r 2))) va' wd' wr (mkF B n r 1 td fa 1) (mkP B n r 1 td fa pl 1) (lD 1 (gd B n r 1 1) (tV B n (ps B n r 1)) (tV B n (ps B n r 2)) (tV B n (ps B n r 3)) td) rd' (lH 1 (tV B n (ps B n r 1)) (tV B n (ps B n r 2)) fh) gd') : q_m_bitLine_0 tp (nI (tN B n (ps B n r 1))) (nI n) (nI (tF B n (ps B n r 1))) (sI (tK B n (ps B n r 1))) va wd wr (mkF B n r 1 td fa 0) (mkP B n r 1 td fa pl 0) td rd fh 1 2 post := by
  refine e_takeHut (k := 1) (i := 0) (c := cW 1 0 (tV B n (ps B n r 1)) (tV B n (ps B n r 1))) (g := gd B n r 1 0) hn hr hB hb hv hlp (by omega) rfl (fun hk => zi (hF 1 (by omega) (by omega) hk (be1 (P := fun j => tK B n (ps B n r j) = 2)) _ _ _ _ _ _ _ _ _ _ _)) (fun k1 va1 wd1 hv1 hl1 => io ?_)
  have g := hT (al1 (P := fun j => tK B n (ps B n r j) = 2) k1) va1 wd1 (upd rd 0 (tV B n (ps B n r 1))) (gI (gd B n r 1 1)) hl1
  rw [show lD 1 (gd B n r 1 1) (tV B n (ps B n r 1)) (tV B n (ps B n r 2)) (tV B n (ps B n r 3)) td = upd td 2 (td 2 ||| (if gd B n r 1 1 = true then 1 <<< ((tV B n (ps B n r 1)) &&& 31) else 0)) from rfl] at g
  refine ⟨vp_in_nI (n := 2) (by decide) (by decide), fun h => ?_, fun h => ?_⟩
  · have hg : ¬ gd B n r 1 1 = true := fun h9 => by
      have h8 : gI (gd B n r 1 1) = 0 := h
      rw [h9] at h8
      exact absurd h8 (by decide)
    rw [if_neg hg] at g
    intro v e
    refine ⟨vp_in_nI (n := 2) (by decide) (by decide), fun t2 e2 => ?_⟩
    rw [e2, e]
    exact g
  · have hg : gd B n r 1 1 = true := by
      cases hh : gd B n r 1 1 with
      | true => rfl
      | false =>
        have h8 : ¬ gI (gd B n r 1 1) = 0 := h
        rw [hh] at h8
        exact absurd rfl h8
    rw [if_pos hg] at g
    rw [c_0, up_s]
    intro v e
    refine ⟨vp_in_nI (n := 2) (by decide) (by decide), fun t2 e2 => ?_⟩
    rw [e2, e]
    exact g
set_option maxRecDepth 20000 in
theorem e_bitLine_2 {tp B rd td : Nat → Int32} {n r : Nat} {va wr fa pl fh : Int32} {wd : Int64} {post : Int32 → Int32 → Int32 → Int32 → Int32 → Int64 → Int32 → Int32 → Int32 → (Nat → Int32) → (Nat → Int32) → Int32 → Int32 → Prop} (hn : n ≤ 600) (hr : r ≤ n) (hB : ∀ j, j < n → tp j = B j) (hb : ∀ j, iv (-128) 127 (B j)) (hv : tK B n (ps B n r 1) = 2 → va = (tV B n (ps B n r 1))) (hlp : ¬ mkF B n r 2 td fa 0 = 0 → mkP B n r 2 td fa pl 0 < (nI (tF B n (ps B n r 1)))) 
    (hF : ∀ j, 1 ≤ j → j ≤ 1 → ¬ tK B n (ps B n r j) = 2 → (∀ i, 1 ≤ i → i < j → tK B n (ps B n r i) = 2) → ∀ (re be so va : Int32) (wd : Int64) (lf lp : Int32) (td rd : Nat → Int32) (fh : Int32) (gd : Int32), post 0 re be so va wd (nI (tF B n (ps B n r j))) lf lp td rd fh gd)
    (hT : (∀ j, 1 ≤ j → j ≤ 1 → tK B n (ps B n r j) = 2) → ∀ (va' : Int32) (wd' : Int64) (rd' : Nat → Int32) (gd' : Int32), (¬ mkF B n r 2 td fa 1 = 0 → mkP B n r 2 td fa pl 1 < (nI (tF B n (ps B n r 2)))) → post 1 (nI (tN B n (ps B n r 2))) (nI (tF B n (ps B n r 2))) (sI (tK B n (ps B n r 2))) va' wd' wr (mkF B n r 2 td fa 1) (mkP B n r 2 td fa pl 1) (lD 2 (gd B n r 2 1) (tV B n (ps B n r 1)) (tV B n (ps B n r 2)) (tV B n (ps B n r 3)) td) rd' (lH 2 (tV B n (ps B n r 1)) (tV B n (ps B n r 2)) fh) gd') : q_m_bitLine_0 tp (nI (tN B n (ps B n r 1))) (nI n) (nI (tF B n (ps B n r 1))) (sI (tK B n (ps B n r 1))) va wd wr (mkF B n r 2 td fa 0) (mkP B n r 2 td fa pl 0) td rd fh 1 3 post := by
  refine e_takeHut (k := 1) (i := 0) (c := cW 2 0 (tV B n (ps B n r 1)) (tV B n (ps B n r 1))) (g := gd B n r 2 0) hn hr hB hb hv hlp (by omega) rfl (fun hk => zi (hF 1 (by omega) (by omega) hk (be1 (P := fun j => tK B n (ps B n r j) = 2)) _ _ _ _ _ _ _ _ _ _ _)) (fun k1 va1 wd1 hv1 hl1 => io ?_)
  have g := hT (al1 (P := fun j => tK B n (ps B n r j) = 2) k1) va1 wd1 (upd rd 0 (tV B n (ps B n r 1))) (gI (gd B n r 2 1)) hl1
  rw [show lD 2 (gd B n r 2 1) (tV B n (ps B n r 1)) (tV B n (ps B n r 2)) (tV B n (ps B n r 3)) td = upd td 3 (td 3 ||| (if gd B n r 2 1 = true then 1 <<< ((tV B n (ps B n r 1)) &&& 31) else 0)) from rfl] at g
  refine ⟨vp_in_nI (n := 3) (by decide) (by decide), fun h => ?_, fun h => ?_⟩
  · have hg : ¬ gd B n r 2 1 = true := fun h9 => by
      have h8 : gI (gd B n r 2 1) = 0 := h
      rw [h9] at h8
      exact absurd h8 (by decide)
    rw [if_neg hg] at g
    intro v e
    refine ⟨vp_in_nI (n := 3) (by decide) (by decide), fun t2 e2 => ?_⟩
    rw [e2, e]
    exact g
  · have hg : gd B n r 2 1 = true := by
      cases hh : gd B n r 2 1 with
      | true => rfl
      | false =>
        have h8 : ¬ gI (gd B n r 2 1) = 0 := h
        rw [hh] at h8
        exact absurd rfl h8
    rw [if_pos hg] at g
    rw [c_0, up_s]
    intro v e
    refine ⟨vp_in_nI (n := 3) (by decide) (by decide), fun t2 e2 => ?_⟩
    rw [e2, e]
    exact g
theorem gd_c {B : Nat → Int32} {n r w : Nat} : ∀ k, gd B n r w k = true → ∀ j, j < k → cW w j (tV B n (ps B n r 1)) (tV B n (ps B n r (j + 1))) = true
  | 0 => fun _ j hj => absurd hj (by omega)
  | k + 1 => fun h j hj => by
    have h2 : (gd B n r w k && cW w k (tV B n (ps B n r 1)) (tV B n (ps B n r (k + 1)))) = true := h
    rw [Bool.and_eq_true] at h2
    by_cases hjk : j = k
    · subst hjk; exact h2.2
    · exact gd_c k h2.1 j (by omega)
set_option maxRecDepth 20000 in
theorem e_wayLine {tp B rd td : Nat → Int32} {n r : Nat} {va wr fa pl fh : Int32} {wd : Int64} {post : Int32 → Int32 → Int32 → Int32 → Int32 → Int64 → Int32 → Int32 → Int32 → (Nat → Int32) → (Nat → Int32) → Int32 → Int32 → Prop} (hn : n ≤ 600) (hr : r ≤ n) (hB : ∀ j, j < n → tp j = B j) (hb : ∀ j, iv (-128) 127 (B j)) (hv : tK B n (ps B n r 1) = 2 → va = (tV B n (ps B n r 1))) (hlp : ¬ mkF B n r 5 td fa 0 = 0 → mkP B n r 5 td fa pl 0 < (nI (tF B n (ps B n r 1)))) 
    (hF : ∀ j, 1 ≤ j → j ≤ 3 → ¬ tK B n (ps B n r j) = 2 → (∀ i, 1 ≤ i → i < j → tK B n (ps B n r i) = 2) → ∀ (re be so va : Int32) (wd : Int64) (lf lp : Int32) (td rd : Nat → Int32) (fh : Int32) (gd : Int32), post 0 re be so va wd (nI (tF B n (ps B n r j))) lf lp td rd fh gd)
    (hT : (∀ j, 1 ≤ j → j ≤ 3 → tK B n (ps B n r j) = 2) → ∀ (va' : Int32) (wd' : Int64) (rd' : Nat → Int32) (gd' : Int32), (¬ mkF B n r 5 td fa 3 = 0 → mkP B n r 5 td fa pl 3 < (nI (tF B n (ps B n r 4)))) → post 1 (nI (tN B n (ps B n r 4))) (nI (tF B n (ps B n r 4))) (sI (tK B n (ps B n r 4))) va' wd' wr (mkF B n r 5 td fa 3) (mkP B n r 5 td fa pl 3) (lD 5 (gd B n r 5 3) (tV B n (ps B n r 1)) (tV B n (ps B n r 2)) (tV B n (ps B n r 3)) td) rd' (lH 5 (tV B n (ps B n r 1)) (tV B n (ps B n r 2)) fh) gd') : q_m_wayLine_0 tp (nI (tN B n (ps B n r 1))) (nI n) (nI (tF B n (ps B n r 1))) (sI (tK B n (ps B n r 1))) va wd wr (mkF B n r 5 td fa 0) (mkP B n r 5 td fa pl 0) td rd fh 1 post := by
  refine e_takeHut (k := 1) (i := 0) (c := cW 5 0 (tV B n (ps B n r 1)) (tV B n (ps B n r 1))) (g := gd B n r 5 0) hn hr hB hb hv hlp (by omega) rfl (fun hk => iz (hF 1 (by omega) (by omega) hk (be1 (P := fun j => tK B n (ps B n r j) = 2)) _ _ _ _ _ _ _ _ _ _ _)) (fun k1 va1 wd1 hv1 hl1 => oi ?_)
  refine e_takeHut (k := 2) (i := 1) (c := cW 5 1 (tV B n (ps B n r 1)) (tV B n (ps B n r 2))) (g := gd B n r 5 1) hn hr hB hb hv1 hl1 (by omega) (by rw [c_0, up_s]; rfl) (fun hk => iz (hF 2 (by omega) (by omega) hk (be2 (P := fun j => tK B n (ps B n r j) = 2) k1) _ _ _ _ _ _ _ _ _ _ _)) (fun k2 va2 wd2 hv2 hl2 => oi ?_)
  refine e_take (k := 3) (i := 2) (c := cW 5 2 (tV B n (ps B n r 1)) (tV B n (ps B n r 3))) (g := gd B n r 5 2) hn hr hB hb hv2 hl2 (by omega) rfl (fun hk => zi (hF 3 (by omega) (by omega) hk (be3 (P := fun j => tK B n (ps B n r j) = 2) k1 k2) _ _ _ _ _ _ _ _ _ _ _)) (fun k3 va3 wd3 hv3 hl3 => io ?_)
  have hgt : ¬ gI (gd B n r 5 3) = 0 → gd B n r 5 3 = true := fun h => by
    cases hh : gd B n r 5 3 with
    | true => rfl
    | false => rw [hh] at h; exact absurd rfl h
  have hgf : gI (gd B n r 5 3) = 0 → ¬ gd B n r 5 3 = true := fun h h9 => by
    rw [h9] at h
    exact absurd h (by decide)
  have g := hT (al3 (P := fun j => tK B n (ps B n r j) = 2) k1 k2 k3) va3 wd3 (upd (upd (upd rd 0 (tV B n (ps B n r 1))) 1 (tV B n (ps B n r 2))) 2 (tV B n (ps B n r 3))) (gI (gd B n r 5 3)) hl3
  rw [show lD 5 (gd B n r 5 3) (tV B n (ps B n r 1)) (tV B n (ps B n r 2)) (tV B n (ps B n r 3)) td = (if gd B n r 5 3 = true then upd (upd td (Int32.toNatClampNeg ((51 + 9 * (tV B n (ps B n r 1))) + (tV B n (ps B n r 2)))) (tV B n (ps B n r 3))) (Int32.toNatClampNeg ((51 + 9 * (tV B n (ps B n r 2))) + (tV B n (ps B n r 1)))) (tV B n (ps B n r 3)) else td) from rfl] at g
  have r0 : (upd (upd (upd rd 0 (tV B n (ps B n r 1))) 1 (tV B n (ps B n r 2))) 2 (tV B n (ps B n r 3))) 0 = (tV B n (ps B n r 1)) := by rw [up_n (by omega), up_n (by omega), up_s]
  have r1 : (upd (upd (upd rd 0 (tV B n (ps B n r 1))) 1 (tV B n (ps B n r 2))) 2 (tV B n (ps B n r 3))) 1 = (tV B n (ps B n r 2)) := by rw [up_n (by omega), up_s]
  have r2 : (upd (upd (upd rd 0 (tV B n (ps B n r 1))) 1 (tV B n (ps B n r 2))) 2 (tV B n (ps B n r 3))) 2 = (tV B n (ps B n r 3)) := up_s
  refine ⟨fun h => ?_, fun h => ?_⟩
  · rw [if_neg (hgf h)] at g; exact g
  · have hg := hgt h
    rw [if_pos hg] at g
    rw [c_0, c_1, c_2, r0, r1, r2]
    have i1 : iv 0 8 (tV B n (ps B n r 1)) := iv_w (cW_iv (gd_c 3 hg 0 (by omega))) (by decide +kernel)
    have i2 : iv 0 8 (tV B n (ps B n r 2)) := iv_w (cW_iv (gd_c 3 hg 1 (by omega))) (by decide +kernel)
    have m1 : iv 0 72 (9 * (tV B n (ps B n r 1))) := iv_mul (l := 0) (h := 72) (iv_lit (x := 9) (l := 9) (h := 9) (by decide)) i1 (by decide)
    have m2 : iv 0 72 (9 * (tV B n (ps B n r 2))) := iv_mul (l := 0) (h := 72) (iv_lit (x := 9) (l := 9) (h := 9) (by decide)) i2 (by decide)
    have s1 : iv 51 131 ((51 + 9 * (tV B n (ps B n r 1))) + (tV B n (ps B n r 2))) := iv_add (l := 51) (h := 131) (iv_add (l := 51) (h := 123) (iv_lit (x := 51) (l := 51) (h := 51) (by decide)) m1 (by decide)) i2 (by decide)
    have s2 : iv 51 131 ((51 + 9 * (tV B n (ps B n r 2))) + (tV B n (ps B n r 1))) := iv_add (l := 51) (h := 131) (iv_add (l := 51) (h := 123) (iv_lit (x := 51) (l := 51) (h := 51) (by decide)) m2 (by decide)) i1 (by decide)
    refine fun v e => ⟨iv_in s1 (by decide), fun t1 e1 v2 e2 => ⟨iv_in s2 (by decide), fun t2 e3 => ?_⟩⟩
    rw [e3, e2, e1, e]
    exact g
set_option maxRecDepth 20000 in
theorem e_echoLine {tp B rd td : Nat → Int32} {n r : Nat} {va wr fa pl fh : Int32} {wd : Int64} {post : Int32 → Int32 → Int32 → Int32 → Int32 → Int64 → Int32 → Int32 → Int32 → (Nat → Int32) → (Nat → Int32) → Int32 → Int32 → Prop} (hn : n ≤ 600) (hr : r ≤ n) (hB : ∀ j, j < n → tp j = B j) (hb : ∀ j, iv (-128) 127 (B j)) (hv : tK B n (ps B n r 1) = 2 → va = (tV B n (ps B n r 1))) (hlp : ¬ mkF B n r 6 td fa 0 = 0 → mkP B n r 6 td fa pl 0 < (nI (tF B n (ps B n r 1)))) (hC : iv 0 4 (td 4))
    (hF : ∀ j, 1 ≤ j → j ≤ 2 → ¬ tK B n (ps B n r j) = 2 → (∀ i, 1 ≤ i → i < j → tK B n (ps B n r i) = 2) → ∀ (re be so va : Int32) (wd : Int64) (lf lp : Int32) (td rd : Nat → Int32) (fh : Int32) (gd : Int32), post 0 re be so va wd (nI (tF B n (ps B n r j))) lf lp td rd fh gd)
    (hT : (∀ j, 1 ≤ j → j ≤ 2 → tK B n (ps B n r j) = 2) → ∀ (va' : Int32) (wd' : Int64) (rd' : Nat → Int32) (gd' : Int32), (¬ mkF B n r 6 td fa 2 = 0 → mkP B n r 6 td fa pl 2 < (nI (tF B n (ps B n r 3)))) → post 1 (nI (tN B n (ps B n r 3))) (nI (tF B n (ps B n r 3))) (sI (tK B n (ps B n r 3))) va' wd' wr (mkF B n r 6 td fa 2) (mkP B n r 6 td fa pl 2) (lD 6 (gd B n r 6 2) (tV B n (ps B n r 1)) (tV B n (ps B n r 2)) (tV B n (ps B n r 3)) td) rd' (lH 6 (tV B n (ps B n r 1)) (tV B n (ps B n r 2)) fh) gd') : q_m_echoLine_0 tp (nI (tN B n (ps B n r 1))) (nI n) (nI (tF B n (ps B n r 1))) (sI (tK B n (ps B n r 1))) va wd wr (mkF B n r 6 td fa 0) (mkP B n r 6 td fa pl 0) td rd fh 1 post := by
  refine e_takeHut (k := 1) (i := 0) (c := cW 6 0 (tV B n (ps B n r 1)) (tV B n (ps B n r 1))) (g := gd B n r 6 0) hn hr hB hb hv hlp (by omega) rfl (fun hk => iz (hF 1 (by omega) (by omega) hk (be1 (P := fun j => tK B n (ps B n r j) = 2)) _ _ _ _ _ _ _ _ _ _ _)) (fun k1 va1 wd1 hv1 hl1 => oi ?_)
  refine e_takeHut (k := 2) (i := 1) (c := cW 6 1 (tV B n (ps B n r 1)) (tV B n (ps B n r 2))) (g := gd B n r 6 1) hn hr hB hb hv1 hl1 (by omega) (by rw [c_0, up_s]; rfl) (fun hk => zi (hF 2 (by omega) (by omega) hk (be2 (P := fun j => tK B n (ps B n r j) = 2) k1) _ _ _ _ _ _ _ _ _ _ _)) (fun k2 va2 wd2 hv2 hl2 => io ?_)
  have r0 : (upd (upd rd 0 (tV B n (ps B n r 1))) 1 (tV B n (ps B n r 2))) 0 = (tV B n (ps B n r 1)) := by rw [up_n (by omega), up_s]
  have r1 : (upd (upd rd 0 (tV B n (ps B n r 1))) 1 (tV B n (ps B n r 2))) 1 = (tV B n (ps B n r 2)) := up_s
  have g := hT (al2 (P := fun j => tK B n (ps B n r j) = 2) k1 k2) va2 wd2 (upd (upd rd 0 (tV B n (ps B n r 1))) 1 (tV B n (ps B n r 2))) (gI (gd B n r 6 2)) hl2
  rw [show lD 6 (gd B n r 6 2) (tV B n (ps B n r 1)) (tV B n (ps B n r 2)) (tV B n (ps B n r 3)) td = (if td 4 = 4 then td else upd (upd (upd td 4 (td 4 + 1)) (Int32.toNatClampNeg (43 + 2 * td 4)) (tV B n (ps B n r 1))) (Int32.toNatClampNeg ((43 + 2 * td 4) + 1)) (tV B n (ps B n r 2))) from rfl] at g
  have m1 : iv 0 8 (2 * td 4) := iv_mul (l := 0) (h := 8) (iv_lit (x := 2) (l := 2) (h := 2) (by decide)) hC (by decide)
  have s1 : iv 43 51 (43 + 2 * td 4) := iv_add (l := 43) (h := 51) (iv_lit (x := 43) (l := 43) (h := 43) (by decide)) m1 (by decide)
  have s2 : iv 44 52 ((43 + 2 * td 4) + 1) := iv_add (l := 44) (h := 52) s1 (iv_lit (x := 1) (l := 1) (h := 1) (by decide)) (by decide)
  refine e_further (c := 4) (by omega) (fun h => ⟨fun _ => ?_, fun h9 => absurd rfl h9⟩) (fun h => ⟨fun h9 => ?_, fun _ v e => ⟨iv_in s1 (by decide), fun t2 e2 v2 e3 => ⟨iv_in s2 (by decide), fun t3 e4 => ?_⟩⟩⟩)
  · rw [if_pos h] at g; exact g
  · have := hC.1
    rw [h9] at this
    exact absurd this (by decide)
  · rw [if_neg h] at g
    rw [c_0, r0] at e
    rw [c_1, r1] at e3
    rw [e4, e3, e2, e]
    exact g
set_option maxRecDepth 20000 in
theorem e_singerLine {tp B rd td : Nat → Int32} {n r : Nat} {va wr fa pl fh : Int32} {wd : Int64} {post : Int32 → Int32 → Int32 → Int32 → Int32 → Int64 → Int32 → Int32 → Int32 → (Nat → Int32) → (Nat → Int32) → Int32 → Int32 → Prop} (hn : n ≤ 600) (hr : r ≤ n) (hB : ∀ j, j < n → tp j = B j) (hb : ∀ j, iv (-128) 127 (B j)) (hv : tK B n (ps B n r 1) = 2 → va = (tV B n (ps B n r 1))) (hlp : ¬ mkF B n r 8 td fa 0 = 0 → mkP B n r 8 td fa pl 0 < (nI (tF B n (ps B n r 1)))) (hC : iv 0 6 (td 1))
    (hF : ∀ j, 1 ≤ j → j ≤ 2 → ¬ tK B n (ps B n r j) = 2 → (∀ i, 1 ≤ i → i < j → tK B n (ps B n r i) = 2) → ∀ (re be so va : Int32) (wd : Int64) (lf lp : Int32) (td rd : Nat → Int32) (fh : Int32) (gd : Int32), post 0 re be so va wd (nI (tF B n (ps B n r j))) lf lp td rd fh gd)
    (hT : (∀ j, 1 ≤ j → j ≤ 2 → tK B n (ps B n r j) = 2) → ∀ (va' : Int32) (wd' : Int64) (rd' : Nat → Int32) (gd' : Int32), (¬ mkF B n r 8 td fa 2 = 0 → mkP B n r 8 td fa pl 2 < (nI (tF B n (ps B n r 3)))) → post 1 (nI (tN B n (ps B n r 3))) (nI (tF B n (ps B n r 3))) (sI (tK B n (ps B n r 3))) va' wd' wr (mkF B n r 8 td fa 2) (mkP B n r 8 td fa pl 2) (lD 8 (gd B n r 8 2) (tV B n (ps B n r 1)) (tV B n (ps B n r 2)) (tV B n (ps B n r 3)) td) rd' (lH 8 (tV B n (ps B n r 1)) (tV B n (ps B n r 2)) fh) gd') : q_m_singerLine_0 tp (nI (tN B n (ps B n r 1))) (nI n) (nI (tF B n (ps B n r 1))) (sI (tK B n (ps B n r 1))) va wd wr (mkF B n r 8 td fa 0) (mkP B n r 8 td fa pl 0) td rd fh 1 post := by
  refine e_takeHut (k := 1) (i := 0) (c := cW 8 0 (tV B n (ps B n r 1)) (tV B n (ps B n r 1))) (g := gd B n r 8 0) hn hr hB hb hv hlp (by omega) rfl (fun hk => iz (hF 1 (by omega) (by omega) hk (be1 (P := fun j => tK B n (ps B n r j) = 2)) _ _ _ _ _ _ _ _ _ _ _)) (fun k1 va1 wd1 hv1 hl1 => oi ?_)
  refine e_take (k := 2) (i := 1) (c := cW 8 1 (tV B n (ps B n r 1)) (tV B n (ps B n r 2))) (g := gd B n r 8 1) hn hr hB hb hv1 hl1 (by omega) rfl (fun hk => zi (hF 2 (by omega) (by omega) hk (be2 (P := fun j => tK B n (ps B n r j) = 2) k1) _ _ _ _ _ _ _ _ _ _ _)) (fun k2 va2 wd2 hv2 hl2 => io ?_)
  have r0 : (upd (upd rd 0 (tV B n (ps B n r 1))) 1 (tV B n (ps B n r 2))) 0 = (tV B n (ps B n r 1)) := by rw [up_n (by omega), up_s]
  have r1 : (upd (upd rd 0 (tV B n (ps B n r 1))) 1 (tV B n (ps B n r 2))) 1 = (tV B n (ps B n r 2)) := up_s
  have g := hT (al2 (P := fun j => tK B n (ps B n r j) = 2) k1 k2) va2 wd2 (upd (upd rd 0 (tV B n (ps B n r 1))) 1 (tV B n (ps B n r 2))) (gI (gd B n r 8 2)) hl2
  rw [show lD 8 (gd B n r 8 2) (tV B n (ps B n r 1)) (tV B n (ps B n r 2)) (tV B n (ps B n r 3)) td = (if td 1 = 6 then td else upd (upd (upd td 1 (td 1 + 1)) (Int32.toNatClampNeg (25 + td 1)) (tV B n (ps B n r 1))) (Int32.toNatClampNeg (31 + td 1)) (tV B n (ps B n r 2))) from rfl] at g
  have s1 : iv 25 31 (25 + td 1) := iv_add (l := 25) (h := 31) (iv_lit (x := 25) (l := 25) (h := 25) (by decide)) hC (by decide)
  have s2 : iv 31 37 (31 + td 1) := iv_add (l := 31) (h := 37) (iv_lit (x := 31) (l := 31) (h := 31) (by decide)) hC (by decide)
  refine e_further (c := 1) (by omega) (fun h => ⟨fun _ => ?_, fun h9 => absurd rfl h9⟩) (fun h => ⟨fun h9 => ?_, fun _ v e => ⟨iv_in s1 (by decide), fun t2 e2 v2 e3 => ⟨iv_in s2 (by decide), fun t3 e4 => ?_⟩⟩⟩)
  · rw [if_pos h] at g; exact g
  · have := hC.1
    rw [h9] at this
    exact absurd this (by decide)
  · rw [if_neg h] at g
    rw [c_0, r0] at e
    rw [c_1, r1] at e3
    rw [e4, e3, e2, e]
    exact g
set_option maxRecDepth 20000 in
theorem e_ladderLine {tp B rd td : Nat → Int32} {n r : Nat} {va wr fa pl fh : Int32} {wd : Int64} {post : Int32 → Int32 → Int32 → Int32 → Int32 → Int64 → Int32 → Int32 → Int32 → (Nat → Int32) → (Nat → Int32) → Int32 → Int32 → Prop} (hn : n ≤ 600) (hr : r ≤ n) (hB : ∀ j, j < n → tp j = B j) (hb : ∀ j, iv (-128) 127 (B j)) (hv : tK B n (ps B n r 1) = 2 → va = (tV B n (ps B n r 1))) (hlp : ¬ mkF B n r 7 td fa 0 = 0 → mkP B n r 7 td fa pl 0 < (nI (tF B n (ps B n r 1)))) 
    (hF : ∀ j, 1 ≤ j → j ≤ 2 → ¬ tK B n (ps B n r j) = 2 → (∀ i, 1 ≤ i → i < j → tK B n (ps B n r i) = 2) → ∀ (re be so va : Int32) (wd : Int64) (lf lp : Int32) (td rd : Nat → Int32) (fh : Int32) (gd : Int32), post 0 re be so va wd (nI (tF B n (ps B n r j))) lf lp td rd fh gd)
    (hT : (∀ j, 1 ≤ j → j ≤ 2 → tK B n (ps B n r j) = 2) → ∀ (va' : Int32) (wd' : Int64) (rd' : Nat → Int32) (gd' : Int32), (¬ mkF B n r 7 td fa 2 = 0 → mkP B n r 7 td fa pl 2 < (nI (tF B n (ps B n r 3)))) → post 1 (nI (tN B n (ps B n r 3))) (nI (tF B n (ps B n r 3))) (sI (tK B n (ps B n r 3))) va' wd' wr (mkF B n r 7 td fa 2) (mkP B n r 7 td fa pl 2) (lD 7 (gd B n r 7 2) (tV B n (ps B n r 1)) (tV B n (ps B n r 2)) (tV B n (ps B n r 3)) td) rd' (lH 7 (tV B n (ps B n r 1)) (tV B n (ps B n r 2)) fh) gd') : q_m_ladderLine_0 tp (nI (tN B n (ps B n r 1))) (nI n) (nI (tF B n (ps B n r 1))) (sI (tK B n (ps B n r 1))) va wd wr (mkF B n r 7 td fa 0) (mkP B n r 7 td fa pl 0) td rd fh 1 post := by
  refine e_takeHut (k := 1) (i := 0) (c := cW 7 0 (tV B n (ps B n r 1)) (tV B n (ps B n r 1))) (g := gd B n r 7 0) hn hr hB hb hv hlp (by omega) rfl (fun hk => iz (hF 1 (by omega) (by omega) hk (be1 (P := fun j => tK B n (ps B n r j) = 2)) _ _ _ _ _ _ _ _ _ _ _)) (fun k1 va1 wd1 hv1 hl1 => oi ?_)
  refine e_take (k := 2) (i := 1) (c := cW 7 1 (tV B n (ps B n r 1)) (tV B n (ps B n r 2))) (g := gd B n r 7 1) hn hr hB hb hv1 hl1 (by omega) rfl (fun hk => zi (hF 2 (by omega) (by omega) hk (be2 (P := fun j => tK B n (ps B n r j) = 2) k1) _ _ _ _ _ _ _ _ _ _ _)) (fun k2 va2 wd2 hv2 hl2 => io ?_)
  have r0 : (upd (upd rd 0 (tV B n (ps B n r 1))) 1 (tV B n (ps B n r 2))) 0 = (tV B n (ps B n r 1)) := by rw [up_n (by omega), up_s]
  have r1 : (upd (upd rd 0 (tV B n (ps B n r 1))) 1 (tV B n (ps B n r 2))) 1 = (tV B n (ps B n r 2)) := up_s
  have hgt : ¬ gI (gd B n r 7 2) = 0 → gd B n r 7 2 = true := fun h => by
    cases hh : gd B n r 7 2 with
    | true => rfl
    | false => rw [hh] at h; exact absurd rfl h
  have hgf : gI (gd B n r 7 2) = 0 → ¬ gd B n r 7 2 = true := fun h h9 => by
    rw [h9] at h
    exact absurd h (by decide)
  have g := hT (al2 (P := fun j => tK B n (ps B n r j) = 2) k1 k2) va2 wd2 (upd (upd rd 0 (tV B n (ps B n r 1))) 1 (tV B n (ps B n r 2))) (gI (gd B n r 7 2)) hl2
  rw [show lD 7 (gd B n r 7 2) (tV B n (ps B n r 1)) (tV B n (ps B n r 2)) (tV B n (ps B n r 3)) td = (if gd B n r 7 2 = true then upd td (Int32.toNatClampNeg (16 + (tV B n (ps B n r 1)))) (tV B n (ps B n r 2)) else td) from rfl] at g
  refine ⟨fun h => ?_, fun h => ?_⟩
  · rw [if_neg (hgf h)] at g; exact g
  · have hg := hgt h
    rw [if_pos hg] at g
    rw [c_0, c_1, r0, r1]
    have i1 : iv 0 8 (tV B n (ps B n r 1)) := iv_w (cW_iv (gd_c 2 hg 0 (by omega))) (by decide +kernel)
    refine fun v e => ⟨iv_in (iv_add (l := 16) (h := 24) (iv_lit (x := 16) (l := 16) (h := 16) (by decide)) i1 (by decide)) (by decide), fun t1 e1 => ?_⟩
    rw [e1, e]
    exact g
set_option maxRecDepth 20000 in
theorem e_knowsLine {tp B rd td : Nat → Int32} {n r : Nat} {va wr fa pl fs : Int32} {wd : Int64} {post : Int32 → Int32 → Int32 → Int32 → Int32 → Int64 → Int32 → Int32 → Int32 → (Nat → Int32) → (Nat → Int32) → Int32 → Int32 → Prop} (hn : n ≤ 600) (hr : r ≤ n) (hB : ∀ j, j < n → tp j = B j) (hb : ∀ j, iv (-128) 127 (B j)) (hv : tK B n (ps B n r 1) = 2 → va = (tV B n (ps B n r 1))) (hlp : ¬ mkF B n r 9 td fa 0 = 0 → mkP B n r 9 td fa pl 0 < (nI (tF B n (ps B n r 1)))) 
    (hF : ∀ j, 1 ≤ j → j ≤ 2 → ¬ tK B n (ps B n r j) = 2 → (∀ i, 1 ≤ i → i < j → tK B n (ps B n r i) = 2) → ∀ (re be so va : Int32) (wd : Int64) (lf lp : Int32) (td rd : Nat → Int32) (fs : Int32) (gd : Int32), post 0 re be so va wd (nI (tF B n (ps B n r j))) lf lp td rd fs gd)
    (hT : (∀ j, 1 ≤ j → j ≤ 2 → tK B n (ps B n r j) = 2) → ∀ (va' : Int32) (wd' : Int64) (rd' : Nat → Int32) (gd' : Int32), (¬ mkF B n r 9 td fa 2 = 0 → mkP B n r 9 td fa pl 2 < (nI (tF B n (ps B n r 3)))) → post 1 (nI (tN B n (ps B n r 3))) (nI (tF B n (ps B n r 3))) (sI (tK B n (ps B n r 3))) va' wd' wr (mkF B n r 9 td fa 2) (mkP B n r 9 td fa pl 2) (lD 9 (gd B n r 9 2) (tV B n (ps B n r 1)) (tV B n (ps B n r 2)) (tV B n (ps B n r 3)) td) rd' (lS 9 (tV B n (ps B n r 1)) fs) gd') : q_m_knowsLine_0 tp (nI (tN B n (ps B n r 1))) (nI n) (nI (tF B n (ps B n r 1))) (sI (tK B n (ps B n r 1))) va wd wr (mkF B n r 9 td fa 0) (mkP B n r 9 td fa pl 0) td rd fs 1 post := by
  refine e_take (k := 1) (i := 0) (c := cW 9 0 (tV B n (ps B n r 1)) (tV B n (ps B n r 1))) (g := gd B n r 9 0) hn hr hB hb hv hlp (by omega) rfl (fun hk => iz (hF 1 (by omega) (by omega) hk (be1 (P := fun j => tK B n (ps B n r j) = 2)) _ _ _ _ _ _ _ _ _ _ _)) (fun k1 va1 wd1 hv1 hl1 => oi ?_)
  refine e_take (k := 2) (i := 1) (c := cW 9 1 (tV B n (ps B n r 1)) (tV B n (ps B n r 2))) (g := gd B n r 9 1) hn hr hB hb hv1 hl1 (by omega) rfl (fun hk => zi (hF 2 (by omega) (by omega) hk (be2 (P := fun j => tK B n (ps B n r j) = 2) k1) _ _ _ _ _ _ _ _ _ _ _)) (fun k2 va2 wd2 hv2 hl2 => io ?_)
  have r0 : (upd (upd rd 0 (tV B n (ps B n r 1))) 1 (tV B n (ps B n r 2))) 0 = (tV B n (ps B n r 1)) := by rw [up_n (by omega), up_s]
  have r1 : (upd (upd rd 0 (tV B n (ps B n r 1))) 1 (tV B n (ps B n r 2))) 1 = (tV B n (ps B n r 2)) := up_s
  have hgt : ¬ gI (gd B n r 9 2) = 0 → gd B n r 9 2 = true := fun h => by
    cases hh : gd B n r 9 2 with
    | true => rfl
    | false => rw [hh] at h; exact absurd rfl h
  have hgf : gI (gd B n r 9 2) = 0 → ¬ gd B n r 9 2 = true := fun h h9 => by
    rw [h9] at h
    exact absurd h (by decide)
  have g := hT (al2 (P := fun j => tK B n (ps B n r j) = 2) k1 k2) va2 wd2 (upd (upd rd 0 (tV B n (ps B n r 1))) 1 (tV B n (ps B n r 2))) (gI (gd B n r 9 2)) hl2
  rw [show lD 9 (gd B n r 9 2) (tV B n (ps B n r 1)) (tV B n (ps B n r 2)) (tV B n (ps B n r 3)) td = (if gd B n r 9 2 = true then upd td (Int32.toNatClampNeg (37 + (tV B n (ps B n r 1)))) (td (Int32.toNatClampNeg (37 + (tV B n (ps B n r 1)))) ||| 1 <<< ((tV B n (ps B n r 2)) &&& 31)) else td) from rfl] at g
  rw [c_0, c_1, r0, r1]
  refine e_greater ⟨fun h => ?_, fun h => ?_⟩
  · rw [if_neg (hgf h)] at g; exact g
  · have hg := hgt h
    rw [if_pos hg] at g
    have i1 : iv 0 5 (tV B n (ps B n r 1)) := iv_w (cW_iv (gd_c 2 hg 0 (by omega))) (by decide +kernel)
    have hin := iv_in (n := 132) (iv_add (l := 37) (h := 42) (iv_lit (x := 37) (l := 37) (h := 37) (by decide)) i1 (by decide)) (by decide)
    refine ⟨hin, fun v e => ⟨hin, fun t1 e1 => ?_⟩⟩
    rw [e1, e]
    exact g
end
section
set_option maxRecDepth 20000 in
theorem e_land_0 {tp B rd td : Nat → Int32} {n r : Nat} {va wr fa pl fh fs : Int32} {wd : Int64} {post : Int32 → Int32 → Int32 → Int32 → Int32 → Int64 → Int32 → Int32 → Int32 → (Nat → Int32) → (Nat → Int32) → Int32 → Int32 → Int32 → Prop} (hn : n ≤ 600) (hr : r ≤ n) (hB : ∀ j, j < n → tp j = B j) (hb : ∀ j, iv (-128) 127 (B j)) (hlp : ¬ fa = 0 → pl < (nI (tF B n r))) (hK0 : ¬ tK B n r = 0) (hC : CB 0 td)
    (hF : ∀ j, 1 ≤ j → j ≤ 1 → ¬ tK B n (ps B n r j) = 2 → (∀ i, 1 ≤ i → i < j → tK B n (ps B n r i) = 2) → ∀ (re be so va : Int32) (wd : Int64) (lf lp : Int32) (td rd : Nat → Int32) (fh fs : Int32) (gd : Int32), post 0 re be so va wd (nI (tF B n (ps B n r j))) lf lp td rd fh fs gd)
    (hT : (∀ j, 1 ≤ j → j ≤ 1 → tK B n (ps B n r j) = 2) → ∀ (va' : Int32) (wd' : Int64) (rd' : Nat → Int32) (gd' : Int32), (¬ mkF B n r 0 td fa 1 = 0 → mkP B n r 0 td fa pl 1 < (nI (tF B n (ps B n r 2)))) → post 1 (nI (tN B n (ps B n r 2))) (nI (tF B n (ps B n r 2))) (sI (tK B n (ps B n r 2))) va' wd' wr (mkF B n r 0 td fa 1) (mkP B n r 0 td fa pl 1) (lD 0 (gd B n r 0 1) (tV B n (ps B n r 1)) (tV B n (ps B n r 2)) (tV B n (ps B n r 3)) td) rd' (lH 0 (tV B n (ps B n r 1)) (tV B n (ps B n r 2)) fh) (lS 0 (tV B n (ps B n r 1)) fs) gd') : q_m_landLine_0 tp (nI (tN B n r)) (nI n) (nI (tF B n r)) (sI (tK B n r)) va wd wr fa pl td rd fh fs 1 (lN 6845812) (nI (tF B n r)) post := by
  have hF1 := tF_nx hr hK0
  have htk := tk_le (B := B) hr
  have hl1 : ¬ mkF B n r 0 td fa 0 = 0 → mkP B n r 0 td fa pl 0 < nI (tF B n (tN B n r)) := LP_n hlp hF1.1 (by omega)
  have st : q_m_landLine_60 tp (nI (tN B n r)) (nI n) (nI (tF B n r)) (sI (tK B n r)) va wd wr (mkF B n r 0 td fa 0) (mkP B n r 0 td fa pl 0) td rd fh fs 1 (lN 6845812) post := by
    refine e_tok (r := tN B n r) hn htk.2.1 hB hb (fun v1 w1 hv1 _ => ?_)
    refine ⟨fun h9 => absurd h9 (by decide +kernel), fun _ => ?_⟩
    exact e_hutLine hn hr hB hb hv1 hl1 hC.1 (fun j a b c d re be so va wd lf lp td rd gd => ⟨rfl, hF j a b c d re be so va wd lf lp td rd fh fs gd⟩) (fun hk va2 wd2 rd2 gd2 hl => ⟨rfl, hT hk va2 wd2 rd2 gd2 hl⟩)
  exact ⟨fun _ => io ⟨fun h9 => absurd h9 (by decide +kernel), fun _ => e_full (c := 0) (b := fu 0 td) (by omega) (by simp [fu]) hlp ⟨fun _ => ⟨fun _ => st, fun h9 => absurd h9 (by decide +kernel)⟩, fun h9 => absurd h9 (by decide +kernel)⟩⟩, fun h9 => absurd h9 (by decide +kernel)⟩
set_option maxRecDepth 20000 in
theorem e_land_1 {tp B rd td : Nat → Int32} {n r : Nat} {va wr fa pl fh fs : Int32} {wd : Int64} {post : Int32 → Int32 → Int32 → Int32 → Int32 → Int64 → Int32 → Int32 → Int32 → (Nat → Int32) → (Nat → Int32) → Int32 → Int32 → Int32 → Prop} (hn : n ≤ 600) (hr : r ≤ n) (hB : ∀ j, j < n → tp j = B j) (hb : ∀ j, iv (-128) 127 (B j)) (hlp : ¬ fa = 0 → pl < (nI (tF B n r))) (hK0 : ¬ tK B n r = 0) (hC : CB 0 td)
    (hF : ∀ j, 1 ≤ j → j ≤ 1 → ¬ tK B n (ps B n r j) = 2 → (∀ i, 1 ≤ i → i < j → tK B n (ps B n r i) = 2) → ∀ (re be so va : Int32) (wd : Int64) (lf lp : Int32) (td rd : Nat → Int32) (fh fs : Int32) (gd : Int32), post 0 re be so va wd (nI (tF B n (ps B n r j))) lf lp td rd fh fs gd)
    (hT : (∀ j, 1 ≤ j → j ≤ 1 → tK B n (ps B n r j) = 2) → ∀ (va' : Int32) (wd' : Int64) (rd' : Nat → Int32) (gd' : Int32), (¬ mkF B n r 1 td fa 1 = 0 → mkP B n r 1 td fa pl 1 < (nI (tF B n (ps B n r 2)))) → post 1 (nI (tN B n (ps B n r 2))) (nI (tF B n (ps B n r 2))) (sI (tK B n (ps B n r 2))) va' wd' wr (mkF B n r 1 td fa 1) (mkP B n r 1 td fa pl 1) (lD 1 (gd B n r 1 1) (tV B n (ps B n r 1)) (tV B n (ps B n r 2)) (tV B n (ps B n r 3)) td) rd' (lH 1 (tV B n (ps B n r 1)) (tV B n (ps B n r 2)) fh) (lS 1 (tV B n (ps B n r 1)) fs) gd') : q_m_landLine_0 tp (nI (tN B n r)) (nI n) (nI (tF B n r)) (sI (tK B n r)) va wd wr fa pl td rd fh fs 1 (lN 33329961647564645) (nI (tF B n r)) post := by
  have hF1 := tF_nx hr hK0
  have htk := tk_le (B := B) hr
  have hl1 : ¬ mkF B n r 1 td fa 0 = 0 → mkP B n r 1 td fa pl 0 < nI (tF B n (tN B n r)) := LP_n hlp hF1.1 (by omega)
  have st : q_m_landLine_60 tp (nI (tN B n r)) (nI n) (nI (tF B n r)) (sI (tK B n r)) va wd wr (mkF B n r 1 td fa 0) (mkP B n r 1 td fa pl 0) td rd fh fs 1 (lN 33329961647564645) post := by
    refine e_tok (r := tN B n r) hn htk.2.1 hB hb (fun v1 w1 hv1 _ => ?_)
    refine ⟨fun _ => ⟨fun _ => ⟨fun h9 => absurd h9 (by decide +kernel), fun _ => ?_⟩, fun h9 => absurd h9 (by decide +kernel)⟩, fun h9 => absurd h9 (by decide +kernel)⟩
    exact e_bitLine_1 hn hr hB hb hv1 hl1 (fun j a b c d re be so va wd lf lp td rd fh gd => ⟨rfl, hF j a b c d re be so va wd lf lp td rd fh fs gd⟩) (fun hk va2 wd2 rd2 gd2 hl => ⟨rfl, hT hk va2 wd2 rd2 gd2 hl⟩)
  have hfu : fu 1 td = false := by simp [fu]
  have e1 : mkF B n r 1 td fa 0 = fa := by show mF (!fu 1 td) fa 3 = fa; rw [hfu]; rfl
  have e2 : mkP B n r 1 td fa pl 0 = pl := by show mP (!fu 1 td) fa pl _ = pl; rw [hfu]; rfl
  rw [e1, e2] at st
  exact ⟨fun h9 => absurd h9 (by decide +kernel), fun _ => ⟨fun _ => io ⟨fun _ => ⟨fun _ => ⟨fun _ => st, fun h9 => absurd h9 (by decide +kernel)⟩, fun h9 => absurd h9 (by decide +kernel)⟩, fun h9 => absurd h9 (by decide +kernel)⟩, fun h9 => absurd h9 (by decide +kernel)⟩⟩
set_option maxRecDepth 20000 in
theorem e_land_2 {tp B rd td : Nat → Int32} {n r : Nat} {va wr fa pl fh fs : Int32} {wd : Int64} {post : Int32 → Int32 → Int32 → Int32 → Int32 → Int64 → Int32 → Int32 → Int32 → (Nat → Int32) → (Nat → Int32) → Int32 → Int32 → Int32 → Prop} (hn : n ≤ 600) (hr : r ≤ n) (hB : ∀ j, j < n → tp j = B j) (hb : ∀ j, iv (-128) 127 (B j)) (hlp : ¬ fa = 0 → pl < (nI (tF B n r))) (hK0 : ¬ tK B n r = 0) (hC : CB 0 td)
    (hF : ∀ j, 1 ≤ j → j ≤ 1 → ¬ tK B n (ps B n r j) = 2 → (∀ i, 1 ≤ i → i < j → tK B n (ps B n r i) = 2) → ∀ (re be so va : Int32) (wd : Int64) (lf lp : Int32) (td rd : Nat → Int32) (fh fs : Int32) (gd : Int32), post 0 re be so va wd (nI (tF B n (ps B n r j))) lf lp td rd fh fs gd)
    (hT : (∀ j, 1 ≤ j → j ≤ 1 → tK B n (ps B n r j) = 2) → ∀ (va' : Int32) (wd' : Int64) (rd' : Nat → Int32) (gd' : Int32), (¬ mkF B n r 2 td fa 1 = 0 → mkP B n r 2 td fa pl 1 < (nI (tF B n (ps B n r 2)))) → post 1 (nI (tN B n (ps B n r 2))) (nI (tF B n (ps B n r 2))) (sI (tK B n (ps B n r 2))) va' wd' wr (mkF B n r 2 td fa 1) (mkP B n r 2 td fa pl 1) (lD 2 (gd B n r 2 1) (tV B n (ps B n r 1)) (tV B n (ps B n r 2)) (tV B n (ps B n r 3)) td) rd' (lH 2 (tV B n (ps B n r 1)) (tV B n (ps B n r 2)) fh) (lS 2 (tV B n (ps B n r 1)) fs) gd') : q_m_landLine_0 tp (nI (tN B n r)) (nI n) (nI (tF B n r)) (sI (tK B n r)) va wd wr fa pl td rd fh fs 1 (lN 6578541) (nI (tF B n r)) post := by
  have hF1 := tF_nx hr hK0
  have htk := tk_le (B := B) hr
  have hl1 : ¬ mkF B n r 2 td fa 0 = 0 → mkP B n r 2 td fa pl 0 < nI (tF B n (tN B n r)) := LP_n hlp hF1.1 (by omega)
  have st : q_m_landLine_60 tp (nI (tN B n r)) (nI n) (nI (tF B n r)) (sI (tK B n r)) va wd wr (mkF B n r 2 td fa 0) (mkP B n r 2 td fa pl 0) td rd fh fs 1 (lN 6578541) post := by
    refine e_tok (r := tN B n r) hn htk.2.1 hB hb (fun v1 w1 hv1 _ => ?_)
    refine ⟨fun _ => ⟨fun h9 => absurd h9 (by decide +kernel), fun _ => ⟨fun h9 => absurd h9 (by decide +kernel), fun _ => ⟨fun _ => ?_, fun h9 => absurd h9 (by decide +kernel)⟩⟩⟩, fun h9 => absurd h9 (by decide +kernel)⟩
    exact e_bitLine_2 hn hr hB hb hv1 hl1 (fun j a b c d re be so va wd lf lp td rd fh gd => ⟨rfl, hF j a b c d re be so va wd lf lp td rd fh fs gd⟩) (fun hk va2 wd2 rd2 gd2 hl => ⟨rfl, hT hk va2 wd2 rd2 gd2 hl⟩)
  have hfu : fu 2 td = false := by simp [fu]
  have e1 : mkF B n r 2 td fa 0 = fa := by show mF (!fu 2 td) fa 3 = fa; rw [hfu]; rfl
  have e2 : mkP B n r 2 td fa pl 0 = pl := by show mP (!fu 2 td) fa pl _ = pl; rw [hfu]; rfl
  rw [e1, e2] at st
  exact ⟨fun h9 => absurd h9 (by decide +kernel), fun _ => ⟨fun h9 => absurd h9 (by decide +kernel), fun _ => ⟨fun _ => io ⟨fun _ => ⟨fun _ => ⟨fun _ => st, fun h9 => absurd h9 (by decide +kernel)⟩, fun h9 => absurd h9 (by decide +kernel)⟩, fun h9 => absurd h9 (by decide +kernel)⟩, fun h9 => absurd h9 (by decide +kernel)⟩⟩⟩
set_option maxRecDepth 20000 in
theorem e_land_3 {tp B rd td : Nat → Int32} {n r : Nat} {va wr fa pl fh fs : Int32} {wd : Int64} {post : Int32 → Int32 → Int32 → Int32 → Int32 → Int64 → Int32 → Int32 → Int32 → (Nat → Int32) → (Nat → Int32) → Int32 → Int32 → Int32 → Prop} (hn : n ≤ 600) (hr : r ≤ n) (hB : ∀ j, j < n → tp j = B j) (hb : ∀ j, iv (-128) 127 (B j)) (hlp : ¬ fa = 0 → pl < (nI (tF B n r))) (hK0 : ¬ tK B n r = 0) (hC : CB 0 td)
    (hF : ∀ j, 1 ≤ j → j ≤ 1 → ¬ tK B n (ps B n r j) = 2 → (∀ i, 1 ≤ i → i < j → tK B n (ps B n r i) = 2) → ∀ (re be so va : Int32) (wd : Int64) (lf lp : Int32) (td rd : Nat → Int32) (fh fs : Int32) (gd : Int32), post 0 re be so va wd (nI (tF B n (ps B n r j))) lf lp td rd fh fs gd)
    (hT : (∀ j, 1 ≤ j → j ≤ 1 → tK B n (ps B n r j) = 2) → ∀ (va' : Int32) (wd' : Int64) (rd' : Nat → Int32) (gd' : Int32), (¬ mkF B n r 3 td fa 1 = 0 → mkP B n r 3 td fa pl 1 < (nI (tF B n (ps B n r 2)))) → post 1 (nI (tN B n (ps B n r 2))) (nI (tF B n (ps B n r 2))) (sI (tK B n (ps B n r 2))) va' wd' wr (mkF B n r 3 td fa 1) (mkP B n r 3 td fa pl 1) (lD 3 (gd B n r 3 1) (tV B n (ps B n r 1)) (tV B n (ps B n r 2)) (tV B n (ps B n r 3)) td) rd' (lH 3 (tV B n (ps B n r 1)) (tV B n (ps B n r 2)) fh) (lS 3 (tV B n (ps B n r 1)) fs) gd') : q_m_landLine_0 tp (nI (tN B n r)) (nI n) (nI (tF B n r)) (sI (tK B n r)) va wd wr fa pl td rd fh fs 1 (lN 1684366704) (nI (tF B n r)) post := by
  have hF1 := tF_nx hr hK0
  have htk := tk_le (B := B) hr
  have hl1 : ¬ mkF B n r 3 td fa 0 = 0 → mkP B n r 3 td fa pl 0 < nI (tF B n (tN B n r)) := LP_n hlp hF1.1 (by omega)
  have st : q_m_landLine_60 tp (nI (tN B n r)) (nI n) (nI (tF B n r)) (sI (tK B n r)) va wd wr (mkF B n r 3 td fa 0) (mkP B n r 3 td fa pl 0) td rd fh fs 1 (lN 1684366704) post := by
    refine e_tok (r := tN B n r) hn htk.2.1 hB hb (fun v1 w1 hv1 _ => ?_)
    refine ⟨fun _ => ⟨fun h9 => absurd h9 (by decide +kernel), fun _ => ⟨fun _ => ⟨fun h9 => absurd h9 (by decide +kernel), fun _ => ?_⟩, fun h9 => absurd h9 (by decide +kernel)⟩⟩, fun h9 => absurd h9 (by decide +kernel)⟩
    exact e_plainLine_3 hn hr hB hb hv1 hl1 (fun j a b c d re be so va wd lf lp td rd gd => ⟨rfl, hF j a b c d re be so va wd lf lp td rd fh fs gd⟩) (fun hk va2 wd2 rd2 gd2 hl => ⟨rfl, hT hk va2 wd2 rd2 gd2 hl⟩)
  have hfu : fu 3 td = false := by simp [fu]
  have e1 : mkF B n r 3 td fa 0 = fa := by show mF (!fu 3 td) fa 3 = fa; rw [hfu]; rfl
  have e2 : mkP B n r 3 td fa pl 0 = pl := by show mP (!fu 3 td) fa pl _ = pl; rw [hfu]; rfl
  rw [e1, e2] at st
  exact ⟨fun h9 => absurd h9 (by decide +kernel), fun _ => ⟨fun h9 => absurd h9 (by decide +kernel), fun _ => ⟨fun h9 => absurd h9 (by decide +kernel), fun _ => ⟨fun _ => io ⟨fun _ => ⟨fun _ => ⟨fun _ => st, fun h9 => absurd h9 (by decide +kernel)⟩, fun h9 => absurd h9 (by decide +kernel)⟩, fun h9 => absurd h9 (by decide +kernel)⟩, fun h9 => absurd h9 (by decide +kernel)⟩⟩⟩⟩
set_option maxRecDepth 20000 in
theorem e_land_4 {tp B rd td : Nat → Int32} {n r : Nat} {va wr fa pl fh fs : Int32} {wd : Int64} {post : Int32 → Int32 → Int32 → Int32 → Int32 → Int64 → Int32 → Int32 → Int32 → (Nat → Int32) → (Nat → Int32) → Int32 → Int32 → Int32 → Prop} (hn : n ≤ 600) (hr : r ≤ n) (hB : ∀ j, j < n → tp j = B j) (hb : ∀ j, iv (-128) 127 (B j)) (hlp : ¬ fa = 0 → pl < (nI (tF B n r))) (hK0 : ¬ tK B n r = 0) (hC : CB 0 td)
    (hF : ∀ j, 1 ≤ j → j ≤ 1 → ¬ tK B n (ps B n r j) = 2 → (∀ i, 1 ≤ i → i < j → tK B n (ps B n r i) = 2) → ∀ (re be so va : Int32) (wd : Int64) (lf lp : Int32) (td rd : Nat → Int32) (fh fs : Int32) (gd : Int32), post 0 re be so va wd (nI (tF B n (ps B n r j))) lf lp td rd fh fs gd)
    (hT : (∀ j, 1 ≤ j → j ≤ 1 → tK B n (ps B n r j) = 2) → ∀ (va' : Int32) (wd' : Int64) (rd' : Nat → Int32) (gd' : Int32), (¬ mkF B n r 4 td fa 1 = 0 → mkP B n r 4 td fa pl 1 < (nI (tF B n (ps B n r 2)))) → post 1 (nI (tN B n (ps B n r 2))) (nI (tF B n (ps B n r 2))) (sI (tK B n (ps B n r 2))) va' wd' wr (mkF B n r 4 td fa 1) (mkP B n r 4 td fa pl 1) (lD 4 (gd B n r 4 1) (tV B n (ps B n r 1)) (tV B n (ps B n r 2)) (tV B n (ps B n r 3)) td) rd' (lH 4 (tV B n (ps B n r 1)) (tV B n (ps B n r 2)) fh) (lS 4 (tV B n (ps B n r 1)) fs) gd') : q_m_landLine_0 tp (nI (tN B n r)) (nI n) (nI (tF B n r)) (sI (tK B n r)) va wd wr fa pl td rd fh fs 1 (lN 495740085349) (nI (tF B n r)) post := by
  have hF1 := tF_nx hr hK0
  have htk := tk_le (B := B) hr
  have hl1 : ¬ mkF B n r 4 td fa 0 = 0 → mkP B n r 4 td fa pl 0 < nI (tF B n (tN B n r)) := LP_n hlp hF1.1 (by omega)
  have st : q_m_landLine_60 tp (nI (tN B n r)) (nI n) (nI (tF B n r)) (sI (tK B n r)) va wd wr (mkF B n r 4 td fa 0) (mkP B n r 4 td fa pl 0) td rd fh fs 1 (lN 495740085349) post := by
    refine e_tok (r := tN B n r) hn htk.2.1 hB hb (fun v1 w1 hv1 _ => ?_)
    refine ⟨fun _ => ⟨fun h9 => absurd h9 (by decide +kernel), fun _ => ⟨fun _ => ⟨fun _ => ⟨fun h9 => absurd h9 (by decide +kernel), fun _ => ?_⟩, fun h9 => absurd h9 (by decide +kernel)⟩, fun h9 => absurd h9 (by decide +kernel)⟩⟩, fun h9 => absurd h9 (by decide +kernel)⟩
    exact e_plainLine_4 hn hr hB hb hv1 hl1 (fun j a b c d re be so va wd lf lp td rd gd => ⟨rfl, hF j a b c d re be so va wd lf lp td rd fh fs gd⟩) (fun hk va2 wd2 rd2 gd2 hl => ⟨rfl, hT hk va2 wd2 rd2 gd2 hl⟩)
  have hfu : fu 4 td = false := by simp [fu]
  have e1 : mkF B n r 4 td fa 0 = fa := by show mF (!fu 4 td) fa 3 = fa; rw [hfu]; rfl
  have e2 : mkP B n r 4 td fa pl 0 = pl := by show mP (!fu 4 td) fa pl _ = pl; rw [hfu]; rfl
  rw [e1, e2] at st
  exact ⟨fun h9 => absurd h9 (by decide +kernel), fun _ => ⟨fun h9 => absurd h9 (by decide +kernel), fun _ => ⟨fun h9 => absurd h9 (by decide +kernel), fun _ => ⟨fun h9 => absurd h9 (by decide +kernel), fun _ => ⟨fun _ => io ⟨fun _ => ⟨fun _ => ⟨fun _ => st, fun h9 => absurd h9 (by decide +kernel)⟩, fun h9 => absurd h9 (by decide +kernel)⟩, fun h9 => absurd h9 (by decide +kernel)⟩, fun h9 => absurd h9 (by decide +kernel)⟩⟩⟩⟩⟩
set_option maxRecDepth 20000 in
theorem e_land_5 {tp B rd td : Nat → Int32} {n r : Nat} {va wr fa pl fh fs : Int32} {wd : Int64} {post : Int32 → Int32 → Int32 → Int32 → Int32 → Int64 → Int32 → Int32 → Int32 → (Nat → Int32) → (Nat → Int32) → Int32 → Int32 → Int32 → Prop} (hn : n ≤ 600) (hr : r ≤ n) (hB : ∀ j, j < n → tp j = B j) (hb : ∀ j, iv (-128) 127 (B j)) (hlp : ¬ fa = 0 → pl < (nI (tF B n r))) (hK0 : ¬ tK B n r = 0) (hC : CB 0 td)
    (hF : ∀ j, 1 ≤ j → j ≤ 3 → ¬ tK B n (ps B n r j) = 2 → (∀ i, 1 ≤ i → i < j → tK B n (ps B n r i) = 2) → ∀ (re be so va : Int32) (wd : Int64) (lf lp : Int32) (td rd : Nat → Int32) (fh fs : Int32) (gd : Int32), post 0 re be so va wd (nI (tF B n (ps B n r j))) lf lp td rd fh fs gd)
    (hT : (∀ j, 1 ≤ j → j ≤ 3 → tK B n (ps B n r j) = 2) → ∀ (va' : Int32) (wd' : Int64) (rd' : Nat → Int32) (gd' : Int32), (¬ mkF B n r 5 td fa 3 = 0 → mkP B n r 5 td fa pl 3 < (nI (tF B n (ps B n r 4)))) → post 1 (nI (tN B n (ps B n r 4))) (nI (tF B n (ps B n r 4))) (sI (tK B n (ps B n r 4))) va' wd' wr (mkF B n r 5 td fa 3) (mkP B n r 5 td fa pl 3) (lD 5 (gd B n r 5 3) (tV B n (ps B n r 1)) (tV B n (ps B n r 2)) (tV B n (ps B n r 3)) td) rd' (lH 5 (tV B n (ps B n r 1)) (tV B n (ps B n r 2)) fh) (lS 5 (tV B n (ps B n r 1)) fs) gd') : q_m_landLine_0 tp (nI (tN B n r)) (nI n) (nI (tF B n r)) (sI (tK B n r)) va wd wr fa pl td rd fh fs 1 (lN 7823737) (nI (tF B n r)) post := by
  have hF1 := tF_nx hr hK0
  have htk := tk_le (B := B) hr
  have hl1 : ¬ mkF B n r 5 td fa 0 = 0 → mkP B n r 5 td fa pl 0 < nI (tF B n (tN B n r)) := LP_n hlp hF1.1 (by omega)
  have st : q_m_landLine_60 tp (nI (tN B n r)) (nI n) (nI (tF B n r)) (sI (tK B n r)) va wd wr (mkF B n r 5 td fa 0) (mkP B n r 5 td fa pl 0) td rd fh fs 1 (lN 7823737) post := by
    refine e_tok (r := tN B n r) hn htk.2.1 hB hb (fun v1 w1 hv1 _ => ?_)
    refine ⟨fun _ => ⟨fun h9 => absurd h9 (by decide +kernel), fun _ => ⟨fun _ => ⟨fun _ => ⟨fun _ => ⟨fun h9 => absurd h9 (by decide +kernel), fun _ => ?_⟩, fun h9 => absurd h9 (by decide +kernel)⟩, fun h9 => absurd h9 (by decide +kernel)⟩, fun h9 => absurd h9 (by decide +kernel)⟩⟩, fun h9 => absurd h9 (by decide +kernel)⟩
    exact e_wayLine hn hr hB hb hv1 hl1 (fun j a b c d re be so va wd lf lp td rd fh gd => ⟨rfl, hF j a b c d re be so va wd lf lp td rd fh fs gd⟩) (fun hk va2 wd2 rd2 gd2 hl => ⟨rfl, hT hk va2 wd2 rd2 gd2 hl⟩)
  have hfu : fu 5 td = false := by simp [fu]
  have e1 : mkF B n r 5 td fa 0 = fa := by show mF (!fu 5 td) fa 3 = fa; rw [hfu]; rfl
  have e2 : mkP B n r 5 td fa pl 0 = pl := by show mP (!fu 5 td) fa pl _ = pl; rw [hfu]; rfl
  rw [e1, e2] at st
  exact ⟨fun h9 => absurd h9 (by decide +kernel), fun _ => ⟨fun h9 => absurd h9 (by decide +kernel), fun _ => ⟨fun h9 => absurd h9 (by decide +kernel), fun _ => ⟨fun h9 => absurd h9 (by decide +kernel), fun _ => ⟨fun h9 => absurd h9 (by decide +kernel), fun _ => ⟨fun _ => io ⟨fun _ => ⟨fun _ => ⟨fun _ => st, fun h9 => absurd h9 (by decide +kernel)⟩, fun h9 => absurd h9 (by decide +kernel)⟩, fun h9 => absurd h9 (by decide +kernel)⟩, fun h9 => absurd h9 (by decide +kernel)⟩⟩⟩⟩⟩⟩
set_option maxRecDepth 20000 in
theorem e_land_6 {tp B rd td : Nat → Int32} {n r : Nat} {va wr fa pl fh fs : Int32} {wd : Int64} {post : Int32 → Int32 → Int32 → Int32 → Int32 → Int64 → Int32 → Int32 → Int32 → (Nat → Int32) → (Nat → Int32) → Int32 → Int32 → Int32 → Prop} (hn : n ≤ 600) (hr : r ≤ n) (hB : ∀ j, j < n → tp j = B j) (hb : ∀ j, iv (-128) 127 (B j)) (hlp : ¬ fa = 0 → pl < (nI (tF B n r))) (hK0 : ¬ tK B n r = 0) (hC : CB 0 td)
    (hF : ∀ j, 1 ≤ j → j ≤ 2 → ¬ tK B n (ps B n r j) = 2 → (∀ i, 1 ≤ i → i < j → tK B n (ps B n r i) = 2) → ∀ (re be so va : Int32) (wd : Int64) (lf lp : Int32) (td rd : Nat → Int32) (fh fs : Int32) (gd : Int32), post 0 re be so va wd (nI (tF B n (ps B n r j))) lf lp td rd fh fs gd)
    (hT : (∀ j, 1 ≤ j → j ≤ 2 → tK B n (ps B n r j) = 2) → ∀ (va' : Int32) (wd' : Int64) (rd' : Nat → Int32) (gd' : Int32), (¬ mkF B n r 6 td fa 2 = 0 → mkP B n r 6 td fa pl 2 < (nI (tF B n (ps B n r 3)))) → post 1 (nI (tN B n (ps B n r 3))) (nI (tF B n (ps B n r 3))) (sI (tK B n (ps B n r 3))) va' wd' wr (mkF B n r 6 td fa 2) (mkP B n r 6 td fa pl 2) (lD 6 (gd B n r 6 2) (tV B n (ps B n r 1)) (tV B n (ps B n r 2)) (tV B n (ps B n r 3)) td) rd' (lH 6 (tV B n (ps B n r 1)) (tV B n (ps B n r 2)) fh) (lS 6 (tV B n (ps B n r 1)) fs) gd') : q_m_landLine_0 tp (nI (tN B n r)) (nI n) (nI (tF B n r)) (sI (tK B n r)) va wd wr fa pl td rd fh fs 1 (lN 1701013615) (nI (tF B n r)) post := by
  have hF1 := tF_nx hr hK0
  have htk := tk_le (B := B) hr
  have hl1 : ¬ mkF B n r 6 td fa 0 = 0 → mkP B n r 6 td fa pl 0 < nI (tF B n (tN B n r)) := LP_n hlp hF1.1 (by omega)
  have st : q_m_landLine_60 tp (nI (tN B n r)) (nI n) (nI (tF B n r)) (sI (tK B n r)) va wd wr (mkF B n r 6 td fa 0) (mkP B n r 6 td fa pl 0) td rd fh fs 1 (lN 1701013615) post := by
    refine e_tok (r := tN B n r) hn htk.2.1 hB hb (fun v1 w1 hv1 _ => ?_)
    refine ⟨fun _ => ⟨fun h9 => absurd h9 (by decide +kernel), fun _ => ⟨fun _ => ⟨fun _ => ⟨fun _ => ⟨fun _ => ⟨fun h9 => absurd h9 (by decide +kernel), fun _ => ?_⟩, fun h9 => absurd h9 (by decide +kernel)⟩, fun h9 => absurd h9 (by decide +kernel)⟩, fun h9 => absurd h9 (by decide +kernel)⟩, fun h9 => absurd h9 (by decide +kernel)⟩⟩, fun h9 => absurd h9 (by decide +kernel)⟩
    exact e_echoLine hn hr hB hb hv1 hl1 (hC.2 rfl).2 (fun j a b c d re be so va wd lf lp td rd fh gd => ⟨rfl, hF j a b c d re be so va wd lf lp td rd fh fs gd⟩) (fun hk va2 wd2 rd2 gd2 hl => ⟨rfl, hT hk va2 wd2 rd2 gd2 hl⟩)
  exact ⟨fun h9 => absurd h9 (by decide +kernel), fun _ => ⟨fun h9 => absurd h9 (by decide +kernel), fun _ => ⟨fun h9 => absurd h9 (by decide +kernel), fun _ => ⟨fun h9 => absurd h9 (by decide +kernel), fun _ => ⟨fun h9 => absurd h9 (by decide +kernel), fun _ => ⟨fun h9 => absurd h9 (by decide +kernel), fun _ => ⟨fun _ => io ⟨fun _ => ⟨fun h9 => absurd h9 (by decide +kernel), fun _ => e_full (c := 4) (b := fu 6 td) (by omega) (by simp [fu]) hlp ⟨fun _ => st, fun h9 => absurd h9 (by decide +kernel)⟩⟩, fun h9 => absurd h9 (by decide +kernel)⟩, fun h9 => absurd h9 (by decide +kernel)⟩⟩⟩⟩⟩⟩⟩
set_option maxRecDepth 20000 in
theorem e_land_7 {tp B rd td : Nat → Int32} {n r : Nat} {va wr fa pl fh fs : Int32} {wd : Int64} {post : Int32 → Int32 → Int32 → Int32 → Int32 → Int64 → Int32 → Int32 → Int32 → (Nat → Int32) → (Nat → Int32) → Int32 → Int32 → Int32 → Prop} (hn : n ≤ 600) (hr : r ≤ n) (hB : ∀ j, j < n → tp j = B j) (hb : ∀ j, iv (-128) 127 (B j)) (hlp : ¬ fa = 0 → pl < (nI (tF B n r))) (hK0 : ¬ tK B n r = 0) (hC : CB 0 td)
    (hF : ∀ j, 1 ≤ j → j ≤ 2 → ¬ tK B n (ps B n r j) = 2 → (∀ i, 1 ≤ i → i < j → tK B n (ps B n r i) = 2) → ∀ (re be so va : Int32) (wd : Int64) (lf lp : Int32) (td rd : Nat → Int32) (fh fs : Int32) (gd : Int32), post 0 re be so va wd (nI (tF B n (ps B n r j))) lf lp td rd fh fs gd)
    (hT : (∀ j, 1 ≤ j → j ≤ 2 → tK B n (ps B n r j) = 2) → ∀ (va' : Int32) (wd' : Int64) (rd' : Nat → Int32) (gd' : Int32), (¬ mkF B n r 7 td fa 2 = 0 → mkP B n r 7 td fa pl 2 < (nI (tF B n (ps B n r 3)))) → post 1 (nI (tN B n (ps B n r 3))) (nI (tF B n (ps B n r 3))) (sI (tK B n (ps B n r 3))) va' wd' wr (mkF B n r 7 td fa 2) (mkP B n r 7 td fa pl 2) (lD 7 (gd B n r 7 2) (tV B n (ps B n r 1)) (tV B n (ps B n r 2)) (tV B n (ps B n r 3)) td) rd' (lH 7 (tV B n (ps B n r 1)) (tV B n (ps B n r 2)) fh) (lS 7 (tV B n (ps B n r 1)) fs) gd') : q_m_landLine_0 tp (nI (tN B n r)) (nI n) (nI (tF B n r)) (sI (tK B n r)) va wd wr fa pl td rd fh fs 1 (lN 119165551928690) (nI (tF B n r)) post := by
  have hF1 := tF_nx hr hK0
  have htk := tk_le (B := B) hr
  have hl1 : ¬ mkF B n r 7 td fa 0 = 0 → mkP B n r 7 td fa pl 0 < nI (tF B n (tN B n r)) := LP_n hlp hF1.1 (by omega)
  have st : q_m_landLine_60 tp (nI (tN B n r)) (nI n) (nI (tF B n r)) (sI (tK B n r)) va wd wr (mkF B n r 7 td fa 0) (mkP B n r 7 td fa pl 0) td rd fh fs 1 (lN 119165551928690) post := by
    refine e_tok (r := tN B n r) hn htk.2.1 hB hb (fun v1 w1 hv1 _ => ?_)
    refine ⟨fun _ => ⟨fun h9 => absurd h9 (by decide +kernel), fun _ => ⟨fun _ => ⟨fun _ => ⟨fun _ => ⟨fun _ => ⟨fun _ => ⟨fun h9 => absurd h9 (by decide +kernel), fun _ => ?_⟩, fun h9 => absurd h9 (by decide +kernel)⟩, fun h9 => absurd h9 (by decide +kernel)⟩, fun h9 => absurd h9 (by decide +kernel)⟩, fun h9 => absurd h9 (by decide +kernel)⟩, fun h9 => absurd h9 (by decide +kernel)⟩⟩, fun h9 => absurd h9 (by decide +kernel)⟩
    exact e_ladderLine hn hr hB hb hv1 hl1 (fun j a b c d re be so va wd lf lp td rd fh gd => ⟨rfl, hF j a b c d re be so va wd lf lp td rd fh fs gd⟩) (fun hk va2 wd2 rd2 gd2 hl => ⟨rfl, hT hk va2 wd2 rd2 gd2 hl⟩)
  have hfu : fu 7 td = false := by simp [fu]
  have e1 : mkF B n r 7 td fa 0 = fa := by show mF (!fu 7 td) fa 3 = fa; rw [hfu]; rfl
  have e2 : mkP B n r 7 td fa pl 0 = pl := by show mP (!fu 7 td) fa pl _ = pl; rw [hfu]; rfl
  rw [e1, e2] at st
  exact ⟨fun h9 => absurd h9 (by decide +kernel), fun _ => ⟨fun h9 => absurd h9 (by decide +kernel), fun _ => ⟨fun h9 => absurd h9 (by decide +kernel), fun _ => ⟨fun h9 => absurd h9 (by decide +kernel), fun _ => ⟨fun h9 => absurd h9 (by decide +kernel), fun _ => ⟨fun h9 => absurd h9 (by decide +kernel), fun _ => ⟨fun h9 => absurd h9 (by decide +kernel), fun _ => ⟨fun _ => io ⟨fun _ => ⟨fun _ => ⟨fun _ => st, fun h9 => absurd h9 (by decide +kernel)⟩, fun h9 => absurd h9 (by decide +kernel)⟩, fun h9 => absurd h9 (by decide +kernel)⟩, fun h9 => absurd h9 (by decide +kernel)⟩⟩⟩⟩⟩⟩⟩⟩
set_option maxRecDepth 20000 in
theorem e_land_8 {tp B rd td : Nat → Int32} {n r : Nat} {va wr fa pl fh fs : Int32} {wd : Int64} {post : Int32 → Int32 → Int32 → Int32 → Int32 → Int64 → Int32 → Int32 → Int32 → (Nat → Int32) → (Nat → Int32) → Int32 → Int32 → Int32 → Prop} (hn : n ≤ 600) (hr : r ≤ n) (hB : ∀ j, j < n → tp j = B j) (hb : ∀ j, iv (-128) 127 (B j)) (hlp : ¬ fa = 0 → pl < (nI (tF B n r))) (hK0 : ¬ tK B n r = 0) (hC : CB 0 td)
    (hF : ∀ j, 1 ≤ j → j ≤ 2 → ¬ tK B n (ps B n r j) = 2 → (∀ i, 1 ≤ i → i < j → tK B n (ps B n r i) = 2) → ∀ (re be so va : Int32) (wd : Int64) (lf lp : Int32) (td rd : Nat → Int32) (fh fs : Int32) (gd : Int32), post 0 re be so va wd (nI (tF B n (ps B n r j))) lf lp td rd fh fs gd)
    (hT : (∀ j, 1 ≤ j → j ≤ 2 → tK B n (ps B n r j) = 2) → ∀ (va' : Int32) (wd' : Int64) (rd' : Nat → Int32) (gd' : Int32), (¬ mkF B n r 8 td fa 2 = 0 → mkP B n r 8 td fa pl 2 < (nI (tF B n (ps B n r 3)))) → post 1 (nI (tN B n (ps B n r 3))) (nI (tF B n (ps B n r 3))) (sI (tK B n (ps B n r 3))) va' wd' wr (mkF B n r 8 td fa 2) (mkP B n r 8 td fa pl 2) (lD 8 (gd B n r 8 2) (tV B n (ps B n r 1)) (tV B n (ps B n r 2)) (tV B n (ps B n r 3)) td) rd' (lH 8 (tV B n (ps B n r 1)) (tV B n (ps B n r 2)) fh) (lS 8 (tV B n (ps B n r 1)) fs) gd') : q_m_landLine_0 tp (nI (tN B n r)) (nI n) (nI (tF B n r)) (sI (tK B n r)) va wd wr fa pl td rd fh fs 1 (lN 126896661030258) (nI (tF B n r)) post := by
  have hF1 := tF_nx hr hK0
  have htk := tk_le (B := B) hr
  have hl1 : ¬ mkF B n r 8 td fa 0 = 0 → mkP B n r 8 td fa pl 0 < nI (tF B n (tN B n r)) := LP_n hlp hF1.1 (by omega)
  have st : q_m_landLine_60 tp (nI (tN B n r)) (nI n) (nI (tF B n r)) (sI (tK B n r)) va wd wr (mkF B n r 8 td fa 0) (mkP B n r 8 td fa pl 0) td rd fh fs 1 (lN 126896661030258) post := by
    refine e_tok (r := tN B n r) hn htk.2.1 hB hb (fun v1 w1 hv1 _ => ?_)
    refine ⟨fun _ => ⟨fun h9 => absurd h9 (by decide +kernel), fun _ => ⟨fun _ => ⟨fun _ => ⟨fun _ => ⟨fun _ => ⟨fun _ => ⟨fun _ => ⟨fun h9 => absurd h9 (by decide +kernel), fun _ => ?_⟩, fun h9 => absurd h9 (by decide +kernel)⟩, fun h9 => absurd h9 (by decide +kernel)⟩, fun h9 => absurd h9 (by decide +kernel)⟩, fun h9 => absurd h9 (by decide +kernel)⟩, fun h9 => absurd h9 (by decide +kernel)⟩, fun h9 => absurd h9 (by decide +kernel)⟩⟩, fun h9 => absurd h9 (by decide +kernel)⟩
    exact e_singerLine hn hr hB hb hv1 hl1 (hC.2 rfl).1 (fun j a b c d re be so va wd lf lp td rd fh gd => ⟨rfl, hF j a b c d re be so va wd lf lp td rd fh fs gd⟩) (fun hk va2 wd2 rd2 gd2 hl => ⟨rfl, hT hk va2 wd2 rd2 gd2 hl⟩)
  exact ⟨fun h9 => absurd h9 (by decide +kernel), fun _ => ⟨fun h9 => absurd h9 (by decide +kernel), fun _ => ⟨fun h9 => absurd h9 (by decide +kernel), fun _ => ⟨fun h9 => absurd h9 (by decide +kernel), fun _ => ⟨fun h9 => absurd h9 (by decide +kernel), fun _ => ⟨fun h9 => absurd h9 (by decide +kernel), fun _ => ⟨fun h9 => absurd h9 (by decide +kernel), fun _ => ⟨fun h9 => absurd h9 (by decide +kernel), fun _ => ⟨fun _ => io ⟨fun _ => ⟨fun _ => ⟨fun h9 => absurd h9 (by decide +kernel), fun _ => e_full (c := 1) (b := fu 8 td) (by omega) (by simp [fu]) hlp st⟩, fun h9 => absurd h9 (by decide +kernel)⟩, fun h9 => absurd h9 (by decide +kernel)⟩, fun h9 => absurd h9 (by decide +kernel)⟩⟩⟩⟩⟩⟩⟩⟩⟩
set_option maxRecDepth 20000 in
theorem e_land_9 {tp B rd td : Nat → Int32} {n r : Nat} {va wr fa pl fh fs : Int32} {wd : Int64} {post : Int32 → Int32 → Int32 → Int32 → Int32 → Int64 → Int32 → Int32 → Int32 → (Nat → Int32) → (Nat → Int32) → Int32 → Int32 → Int32 → Prop} (hn : n ≤ 600) (hr : r ≤ n) (hB : ∀ j, j < n → tp j = B j) (hb : ∀ j, iv (-128) 127 (B j)) (hlp : ¬ fa = 0 → pl < (nI (tF B n r))) (hK0 : ¬ tK B n r = 0) (hC : CB 0 td)
    (hF : ∀ j, 1 ≤ j → j ≤ 2 → ¬ tK B n (ps B n r j) = 2 → (∀ i, 1 ≤ i → i < j → tK B n (ps B n r i) = 2) → ∀ (re be so va : Int32) (wd : Int64) (lf lp : Int32) (td rd : Nat → Int32) (fh fs : Int32) (gd : Int32), post 0 re be so va wd (nI (tF B n (ps B n r j))) lf lp td rd fh fs gd)
    (hT : (∀ j, 1 ≤ j → j ≤ 2 → tK B n (ps B n r j) = 2) → ∀ (va' : Int32) (wd' : Int64) (rd' : Nat → Int32) (gd' : Int32), (¬ mkF B n r 9 td fa 2 = 0 → mkP B n r 9 td fa pl 2 < (nI (tF B n (ps B n r 3)))) → post 1 (nI (tN B n (ps B n r 3))) (nI (tF B n (ps B n r 3))) (sI (tK B n (ps B n r 3))) va' wd' wr (mkF B n r 9 td fa 2) (mkP B n r 9 td fa pl 2) (lD 9 (gd B n r 9 2) (tV B n (ps B n r 1)) (tV B n (ps B n r 2)) (tV B n (ps B n r 3)) td) rd' (lH 9 (tV B n (ps B n r 1)) (tV B n (ps B n r 2)) fh) (lS 9 (tV B n (ps B n r 1)) fs) gd') : q_m_landLine_0 tp (nI (tN B n r)) (nI n) (nI (tF B n r)) (sI (tK B n r)) va wd wr fa pl td rd fh fs 1 (lN 461414299507) (nI (tF B n r)) post := by
  have hF1 := tF_nx hr hK0
  have htk := tk_le (B := B) hr
  have hl1 : ¬ mkF B n r 9 td fa 0 = 0 → mkP B n r 9 td fa pl 0 < nI (tF B n (tN B n r)) := LP_n hlp hF1.1 (by omega)
  have st : q_m_landLine_60 tp (nI (tN B n r)) (nI n) (nI (tF B n r)) (sI (tK B n r)) va wd wr (mkF B n r 9 td fa 0) (mkP B n r 9 td fa pl 0) td rd fh fs 1 (lN 461414299507) post := by
    refine e_tok (r := tN B n r) hn htk.2.1 hB hb (fun v1 w1 hv1 _ => ?_)
    refine ⟨fun _ => ⟨fun h9 => absurd h9 (by decide +kernel), fun _ => ⟨fun _ => ⟨fun _ => ⟨fun _ => ⟨fun _ => ⟨fun _ => ⟨fun _ => ⟨fun _ => ?_, fun h9 => absurd h9 (by decide +kernel)⟩, fun h9 => absurd h9 (by decide +kernel)⟩, fun h9 => absurd h9 (by decide +kernel)⟩, fun h9 => absurd h9 (by decide +kernel)⟩, fun h9 => absurd h9 (by decide +kernel)⟩, fun h9 => absurd h9 (by decide +kernel)⟩, fun h9 => absurd h9 (by decide +kernel)⟩⟩, fun h9 => absurd h9 (by decide +kernel)⟩
    exact e_knowsLine hn hr hB hb hv1 hl1 (fun j a b c d re be so va wd lf lp td rd fs gd => ⟨rfl, hF j a b c d re be so va wd lf lp td rd fh fs gd⟩) (fun hk va2 wd2 rd2 gd2 hl => ⟨rfl, hT hk va2 wd2 rd2 gd2 hl⟩)
  have hfu : fu 9 td = false := by simp [fu]
  have e1 : mkF B n r 9 td fa 0 = fa := by show mF (!fu 9 td) fa 3 = fa; rw [hfu]; rfl
  have e2 : mkP B n r 9 td fa pl 0 = pl := by show mP (!fu 9 td) fa pl _ = pl; rw [hfu]; rfl
  rw [e1, e2] at st
  exact ⟨fun h9 => absurd h9 (by decide +kernel), fun _ => ⟨fun h9 => absurd h9 (by decide +kernel), fun _ => ⟨fun h9 => absurd h9 (by decide +kernel), fun _ => ⟨fun h9 => absurd h9 (by decide +kernel), fun _ => ⟨fun h9 => absurd h9 (by decide +kernel), fun _ => ⟨fun h9 => absurd h9 (by decide +kernel), fun _ => ⟨fun h9 => absurd h9 (by decide +kernel), fun _ => ⟨fun h9 => absurd h9 (by decide +kernel), fun _ => ⟨fun h9 => absurd h9 (by decide +kernel), fun _ => ⟨fun h9 => absurd h9 (by decide +kernel), fun _ => io ⟨fun _ => ⟨fun _ => ⟨fun _ => st, fun h9 => absurd h9 (by decide +kernel)⟩, fun h9 => absurd h9 (by decide +kernel)⟩, fun h9 => absurd h9 (by decide +kernel)⟩⟩⟩⟩⟩⟩⟩⟩⟩⟩⟩
theorem e_landNo {tp td rd : Nat → Int32} {re n be so va wr lf lp fh fs gd a : Int32} {x wd : Int64} {post : Int32 → Int32 → Int32 → Int32 → Int32 → Int64 → Int32 → Int32 → Int32 → (Nat → Int32) → (Nat → Int32) → Int32 → Int32 → Int32 → Prop} (hx : ∀ j, 0 ≤ j → j < 10 → ¬ x = lN (wC.getD j 0)) (hp : post 0 re be so va wd be lf lp td rd fh fs gd) : q_m_landLine_0 tp re n be so va wd wr lf lp td rd fh fs gd x a post :=
  ⟨fun h9 => absurd ((lg_cmp_eq _ _).mp h9) (hx 0 (by omega) (by omega)), fun _ => ⟨fun h9 => absurd ((lg_cmp_eq _ _).mp h9) (hx 1 (by omega) (by omega)), fun _ => ⟨fun h9 => absurd ((lg_cmp_eq _ _).mp h9) (hx 2 (by omega) (by omega)), fun _ => ⟨fun h9 => absurd ((lg_cmp_eq _ _).mp h9) (hx 3 (by omega) (by omega)), fun _ => ⟨fun h9 => absurd ((lg_cmp_eq _ _).mp h9) (hx 4 (by omega) (by omega)), fun _ => ⟨fun h9 => absurd ((lg_cmp_eq _ _).mp h9) (hx 5 (by omega) (by omega)), fun _ => ⟨fun h9 => absurd ((lg_cmp_eq _ _).mp h9) (hx 6 (by omega) (by omega)), fun _ => ⟨fun h9 => absurd ((lg_cmp_eq _ _).mp h9) (hx 7 (by omega) (by omega)), fun _ => ⟨fun h9 => absurd ((lg_cmp_eq _ _).mp h9) (hx 8 (by omega) (by omega)), fun _ => ⟨fun _ => zi ⟨rfl, hp⟩, fun h9 => absurd ((lg_cmp_eq _ _).mp h9) (hx 9 (by omega) (by omega))⟩⟩⟩⟩⟩⟩⟩⟩⟩⟩
theorem e_eveNo {tp td rd : Nat → Int32} {re n be so va wr lf lp gd a : Int32} {x wd : Int64} {post : Int32 → Int32 → Int32 → Int32 → Int32 → Int64 → Int32 → Int32 → Int32 → (Nat → Int32) → (Nat → Int32) → Int32 → Prop} (hx : ∀ j, 10 ≤ j → j < 16 → ¬ x = lN (wC.getD j 0)) (hp : post 0 re be so va wd be lf lp td rd gd) : q_m_eveningLine_0 tp re n be so va wd wr lf lp td rd gd x a post :=
  ⟨fun _ => ⟨fun _ => ⟨fun _ => ⟨fun _ => ⟨fun _ => ⟨fun _ => ⟨fun h9 => absurd rfl h9, fun _ => ⟨rfl, hp⟩⟩, fun h9 => absurd ((lg_cmp_eq _ _).mp h9) (hx 15 (by omega) (by omega))⟩, fun h9 => absurd ((lg_cmp_eq _ _).mp h9) (hx 14 (by omega) (by omega))⟩, fun h9 => absurd ((lg_cmp_eq _ _).mp h9) (hx 13 (by omega) (by omega))⟩, fun h9 => absurd ((lg_cmp_eq _ _).mp h9) (hx 12 (by omega) (by omega))⟩, fun h9 => absurd ((lg_cmp_eq _ _).mp h9) (hx 11 (by omega) (by omega))⟩, fun h9 => absurd ((lg_cmp_eq _ _).mp h9) (hx 10 (by omega) (by omega))⟩
theorem e_sigNo {tp td rd : Nat → Int32} {re n be so va wr lf lp gd a : Int32} {x wd : Int64} {post : Int32 → Int32 → Int32 → Int32 → Int32 → Int64 → Int32 → Int32 → Int32 → (Nat → Int32) → (Nat → Int32) → Int32 → Prop} (hx : ∀ j, 16 ≤ j → j < 18 → ¬ x = lN (wC.getD j 0)) (hp : post 0 re be so va wd be lf lp td rd gd) : q_m_sightLine_0 tp re n be so va wd wr lf lp td rd gd x a post :=
  ⟨fun h9 => absurd ((lg_cmp_eq _ _).mp h9) (hx 16 (by omega) (by omega)), fun _ => ⟨fun h9 => absurd ((lg_cmp_eq _ _).mp h9) (hx 17 (by omega) (by omega)), fun _ => ⟨rfl, hp⟩⟩⟩
theorem e_choNo {tp td rd : Nat → Int32} {re n be so va wr lf lp gd a : Int32} {x wd : Int64} {post : Int32 → Int32 → Int32 → Int32 → Int32 → Int64 → Int32 → Int32 → Int32 → (Nat → Int32) → (Nat → Int32) → Int32 → Prop} (hx : ∀ j, 18 ≤ j → j < 20 → ¬ x = lN (wC.getD j 0)) (hp : post 0 re be so va wd be lf lp td rd gd) : q_m_choirLine_0 tp re n be so va wd wr lf lp td rd gd x a post :=
  ⟨fun h9 => absurd ((lg_cmp_eq _ _).mp h9) (hx 18 (by omega) (by omega)), fun _ => ⟨fun h9 => absurd ((lg_cmp_eq _ _).mp h9) (hx 19 (by omega) (by omega)), fun _ => ⟨rfl, hp⟩⟩⟩
set_option maxRecDepth 20000 in
theorem e_eve_10 {tp B rd td : Nat → Int32} {n r : Nat} {va wr fa pl : Int32} {wd : Int64} {post : Int32 → Int32 → Int32 → Int32 → Int32 → Int64 → Int32 → Int32 → Int32 → (Nat → Int32) → (Nat → Int32) → Int32 → Prop} (hn : n ≤ 600) (hr : r ≤ n) (hB : ∀ j, j < n → tp j = B j) (hb : ∀ j, iv (-128) 127 (B j)) (hlp : ¬ fa = 0 → pl < (nI (tF B n r))) (hK0 : ¬ tK B n r = 0) (hC : CB 1 td)
    (hF : ∀ j, 1 ≤ j → j ≤ 2 → ¬ tK B n (ps B n r j) = 2 → (∀ i, 1 ≤ i → i < j → tK B n (ps B n r i) = 2) → ∀ (re be so va : Int32) (wd : Int64) (lf lp : Int32) (td rd : Nat → Int32) (gd : Int32), post 0 re be so va wd (nI (tF B n (ps B n r j))) lf lp td rd gd)
    (hT : (∀ j, 1 ≤ j → j ≤ 2 → tK B n (ps B n r j) = 2) → ∀ (va' : Int32) (wd' : Int64) (rd' : Nat → Int32) (gd' : Int32), (¬ mkF B n r 10 td fa 2 = 0 → mkP B n r 10 td fa pl 2 < (nI (tF B n (ps B n r 3)))) → post 1 (nI (tN B n (ps B n r 3))) (nI (tF B n (ps B n r 3))) (sI (tK B n (ps B n r 3))) va' wd' wr (mkF B n r 10 td fa 2) (mkP B n r 10 td fa pl 2) (lD 10 (gd B n r 10 2) (tV B n (ps B n r 1)) (tV B n (ps B n r 2)) (tV B n (ps B n r 3)) td) rd' gd') : q_m_eveningLine_0 tp (nI (tN B n r)) (nI n) (nI (tF B n r)) (sI (tK B n r)) va wd wr fa pl td rd 1 (lN 422608071022) (nI (tF B n r)) post := by
  have hF1 := tF_nx hr hK0
  have htk := tk_le (B := B) hr
  have hl1 : ¬ mkF B n r 10 td fa 0 = 0 → mkP B n r 10 td fa pl 0 < nI (tF B n (tN B n r)) := LP_n hlp hF1.1 (by omega)
  refine ⟨fun h9 => absurd h9 (by decide +kernel), fun _ => ⟨fun _ => e_full (c := 0) (b := fu 10 td) (by omega) (by simp [fu]) hlp (e_tok (r := tN B n r) hn htk.2.1 hB hb (fun v1 w1 hv1 _ => ?_)), fun h9 => absurd h9 (by decide +kernel)⟩⟩
  intro rd1 e1
  rw [c_2] at e1
  refine e_take (k := 1) (i := 1) (c := cW 10 0 (tV B n (ps B n r 1)) (tV B n (ps B n r 1))) (rd := rd1) (g := gd B n r 10 0) hn hr hB hb hv1 hl1 (by omega) rfl (fun hk => iz (hF 1 (by omega) (by omega) hk (be1 (P := fun j => tK B n (ps B n r j) = 2)) _ _ _ _ _ _ _ _ _ _)) (fun k1 va1 wd1 hv2 hl2 => oi ?_)
  refine ⟨fun h9 => absurd h9 (by decide +kernel), fun _ => ⟨fun _ => ?_, fun h9 => absurd h9 (by decide +kernel)⟩⟩
  refine e_take (k := 2) (i := 2) (c := cW 10 1 (tV B n (ps B n r 1)) (tV B n (ps B n r 2))) (g := gd B n r 10 1) hn hr hB hb hv2 hl2 (by omega) rfl (fun hk => zi (hF 2 (by omega) (by omega) hk (be2 (P := fun j => tK B n (ps B n r j) = 2) k1) _ _ _ _ _ _ _ _ _ _)) (fun k2 va2 wd2 hv3 hl3 => io ?_)
  intro rd3 e3
  rw [c_0, e1] at e3
  have g := hT (al2 (P := fun j => tK B n (ps B n r j) = 2) k1 k2) va2 wd2 rd3 (gI (gd B n r 10 2)) hl3
  rw [show lD 10 (gd B n r 10 2) (tV B n (ps B n r 1)) (tV B n (ps B n r 2)) (tV B n (ps B n r 3)) td = (if td 0 = 40 then td else upd (upd (upd (upd td 0 (td 0 + 1)) (Int32.toNatClampNeg ((1 + 3 * td 0) + 0)) 0) (Int32.toNatClampNeg ((1 + 3 * td 0) + 1)) (tV B n (ps B n r 1))) (Int32.toNatClampNeg ((1 + 3 * td 0) + 2)) (tV B n (ps B n r 2))) from rfl] at g
  have r0 : rd3 0 = 0 := by rw [e3]; exact up_s
  have r1 : rd3 1 = (tV B n (ps B n r 1)) := by rw [e3, up_n (by omega), up_n (by omega), up_s]
  have r2 : rd3 2 = (tV B n (ps B n r 2)) := by rw [e3, up_n (by omega), up_s]
  refine e_keep (W := 3) (by omega) hC.1 (fun h => ?_) (fun h => ?_)
  · rw [if_pos h] at g; exact g
  · rw [if_neg h] at g
    have e : kp td rd3 3 3 = upd (upd (upd (upd td 0 (td 0 + 1)) (Int32.toNatClampNeg ((1 + 3 * td 0) + 0)) (rd3 0)) (Int32.toNatClampNeg ((1 + 3 * td 0) + 1)) (rd3 1)) (Int32.toNatClampNeg ((1 + 3 * td 0) + 2)) (rd3 2) := rfl
    rw [e, r0, r1, r2]
    exact g
set_option maxRecDepth 20000 in
theorem e_eve_11 {tp B rd td : Nat → Int32} {n r : Nat} {va wr fa pl : Int32} {wd : Int64} {post : Int32 → Int32 → Int32 → Int32 → Int32 → Int64 → Int32 → Int32 → Int32 → (Nat → Int32) → (Nat → Int32) → Int32 → Prop} (hn : n ≤ 600) (hr : r ≤ n) (hB : ∀ j, j < n → tp j = B j) (hb : ∀ j, iv (-128) 127 (B j)) (hlp : ¬ fa = 0 → pl < (nI (tF B n r))) (hK0 : ¬ tK B n r = 0) (hC : CB 1 td)
    (hF : ∀ j, 1 ≤ j → j ≤ 2 → ¬ tK B n (ps B n r j) = 2 → (∀ i, 1 ≤ i → i < j → tK B n (ps B n r i) = 2) → ∀ (re be so va : Int32) (wd : Int64) (lf lp : Int32) (td rd : Nat → Int32) (gd : Int32), post 0 re be so va wd (nI (tF B n (ps B n r j))) lf lp td rd gd)
    (hT : (∀ j, 1 ≤ j → j ≤ 2 → tK B n (ps B n r j) = 2) → ∀ (va' : Int32) (wd' : Int64) (rd' : Nat → Int32) (gd' : Int32), (¬ mkF B n r 11 td fa 2 = 0 → mkP B n r 11 td fa pl 2 < (nI (tF B n (ps B n r 3)))) → post 1 (nI (tN B n (ps B n r 3))) (nI (tF B n (ps B n r 3))) (sI (tK B n (ps B n r 3))) va' wd' wr (mkF B n r 11 td fa 2) (mkP B n r 11 td fa pl 2) (lD 11 (gd B n r 11 2) (tV B n (ps B n r 1)) (tV B n (ps B n r 2)) (tV B n (ps B n r 3)) td) rd' gd') : q_m_eveningLine_0 tp (nI (tN B n r)) (nI n) (nI (tF B n r)) (sI (tK B n r)) va wd wr fa pl td rd 1 (lN 1936289383) (nI (tF B n r)) post := by
  have hF1 := tF_nx hr hK0
  have htk := tk_le (B := B) hr
  have hl1 : ¬ mkF B n r 11 td fa 0 = 0 → mkP B n r 11 td fa pl 0 < nI (tF B n (tN B n r)) := LP_n hlp hF1.1 (by omega)
  refine ⟨fun _ => ⟨fun h9 => absurd h9 (by decide +kernel), fun _ => ⟨fun _ => e_full (c := 0) (b := fu 11 td) (by omega) (by simp [fu]) hlp (e_tok (r := tN B n r) hn htk.2.1 hB hb (fun v1 w1 hv1 _ => ?_)), fun h9 => absurd h9 (by decide +kernel)⟩⟩, fun h9 => absurd h9 (by decide +kernel)⟩
  intro rd1 e1
  rw [c_2] at e1
  refine e_take (k := 1) (i := 1) (c := cW 11 0 (tV B n (ps B n r 1)) (tV B n (ps B n r 1))) (rd := rd1) (g := gd B n r 11 0) hn hr hB hb hv1 hl1 (by omega) rfl (fun hk => iz (hF 1 (by omega) (by omega) hk (be1 (P := fun j => tK B n (ps B n r j) = 2)) _ _ _ _ _ _ _ _ _ _)) (fun k1 va1 wd1 hv2 hl2 => oi ?_)
  refine ⟨fun h9 => absurd h9 (by decide +kernel), fun _ => ⟨fun _ => ?_, fun h9 => absurd h9 (by decide +kernel)⟩⟩
  refine e_take (k := 2) (i := 2) (c := cW 11 1 (tV B n (ps B n r 1)) (tV B n (ps B n r 2))) (g := gd B n r 11 1) hn hr hB hb hv2 hl2 (by omega) rfl (fun hk => zi (hF 2 (by omega) (by omega) hk (be2 (P := fun j => tK B n (ps B n r j) = 2) k1) _ _ _ _ _ _ _ _ _ _)) (fun k2 va2 wd2 hv3 hl3 => io ?_)
  intro rd3 e3
  rw [c_0, e1] at e3
  have g := hT (al2 (P := fun j => tK B n (ps B n r j) = 2) k1 k2) va2 wd2 rd3 (gI (gd B n r 11 2)) hl3
  rw [show lD 11 (gd B n r 11 2) (tV B n (ps B n r 1)) (tV B n (ps B n r 2)) (tV B n (ps B n r 3)) td = (if td 0 = 40 then td else upd (upd (upd (upd td 0 (td 0 + 1)) (Int32.toNatClampNeg ((1 + 3 * td 0) + 0)) 1) (Int32.toNatClampNeg ((1 + 3 * td 0) + 1)) (tV B n (ps B n r 1))) (Int32.toNatClampNeg ((1 + 3 * td 0) + 2)) (tV B n (ps B n r 2))) from rfl] at g
  have r0 : rd3 0 = 1 := by rw [e3]; exact up_s
  have r1 : rd3 1 = (tV B n (ps B n r 1)) := by rw [e3, up_n (by omega), up_n (by omega), up_s]
  have r2 : rd3 2 = (tV B n (ps B n r 2)) := by rw [e3, up_n (by omega), up_s]
  refine e_keep (W := 3) (by omega) hC.1 (fun h => ?_) (fun h => ?_)
  · rw [if_pos h] at g; exact g
  · rw [if_neg h] at g
    have e : kp td rd3 3 3 = upd (upd (upd (upd td 0 (td 0 + 1)) (Int32.toNatClampNeg ((1 + 3 * td 0) + 0)) (rd3 0)) (Int32.toNatClampNeg ((1 + 3 * td 0) + 1)) (rd3 1)) (Int32.toNatClampNeg ((1 + 3 * td 0) + 2)) (rd3 2) := rfl
    rw [e, r0, r1, r2]
    exact g
set_option maxRecDepth 20000 in
theorem e_eve_12 {tp B rd td : Nat → Int32} {n r : Nat} {va wr fa pl : Int32} {wd : Int64} {post : Int32 → Int32 → Int32 → Int32 → Int32 → Int64 → Int32 → Int32 → Int32 → (Nat → Int32) → (Nat → Int32) → Int32 → Prop} (hn : n ≤ 600) (hr : r ≤ n) (hB : ∀ j, j < n → tp j = B j) (hb : ∀ j, iv (-128) 127 (B j)) (hlp : ¬ fa = 0 → pl < (nI (tF B n r))) (hK0 : ¬ tK B n r = 0) (hC : CB 1 td)
    (hF : ∀ j, 1 ≤ j → j ≤ 2 → ¬ tK B n (ps B n r j) = 2 → (∀ i, 1 ≤ i → i < j → tK B n (ps B n r i) = 2) → ∀ (re be so va : Int32) (wd : Int64) (lf lp : Int32) (td rd : Nat → Int32) (gd : Int32), post 0 re be so va wd (nI (tF B n (ps B n r j))) lf lp td rd gd)
    (hT : (∀ j, 1 ≤ j → j ≤ 2 → tK B n (ps B n r j) = 2) → ∀ (va' : Int32) (wd' : Int64) (rd' : Nat → Int32) (gd' : Int32), (¬ mkF B n r 12 td fa 2 = 0 → mkP B n r 12 td fa pl 2 < (nI (tF B n (ps B n r 3)))) → post 1 (nI (tN B n (ps B n r 3))) (nI (tF B n (ps B n r 3))) (sI (tK B n (ps B n r 3))) va' wd' wr (mkF B n r 12 td fa 2) (mkP B n r 12 td fa pl 2) (lD 12 (gd B n r 12 2) (tV B n (ps B n r 1)) (tV B n (ps B n r 2)) (tV B n (ps B n r 3)) td) rd' gd') : q_m_eveningLine_0 tp (nI (tN B n r)) (nI n) (nI (tF B n r)) (sI (tK B n r)) va wd wr fa pl td rd 1 (lN 33610324346432613) (nI (tF B n r)) post := by
  have hF1 := tF_nx hr hK0
  have htk := tk_le (B := B) hr
  have hl1 : ¬ mkF B n r 12 td fa 0 = 0 → mkP B n r 12 td fa pl 0 < nI (tF B n (tN B n r)) := LP_n hlp hF1.1 (by omega)
  refine ⟨fun _ => ⟨fun _ => ⟨fun h9 => absurd h9 (by decide +kernel), fun _ => ⟨fun _ => e_full (c := 0) (b := fu 12 td) (by omega) (by simp [fu]) hlp (e_tok (r := tN B n r) hn htk.2.1 hB hb (fun v1 w1 hv1 _ => ?_)), fun h9 => absurd h9 (by decide +kernel)⟩⟩, fun h9 => absurd h9 (by decide +kernel)⟩, fun h9 => absurd h9 (by decide +kernel)⟩
  intro rd1 e1
  rw [c_2] at e1
  refine e_take (k := 1) (i := 1) (c := cW 12 0 (tV B n (ps B n r 1)) (tV B n (ps B n r 1))) (rd := rd1) (g := gd B n r 12 0) hn hr hB hb hv1 hl1 (by omega) rfl (fun hk => iz (hF 1 (by omega) (by omega) hk (be1 (P := fun j => tK B n (ps B n r j) = 2)) _ _ _ _ _ _ _ _ _ _)) (fun k1 va1 wd1 hv2 hl2 => oi ?_)
  refine ⟨fun h9 => absurd h9 (by decide +kernel), fun _ => ⟨fun _ => ?_, fun h9 => absurd h9 (by decide +kernel)⟩⟩
  refine e_take (k := 2) (i := 2) (c := cW 12 1 (tV B n (ps B n r 1)) (tV B n (ps B n r 2))) (g := gd B n r 12 1) hn hr hB hb hv2 hl2 (by omega) rfl (fun hk => zi (hF 2 (by omega) (by omega) hk (be2 (P := fun j => tK B n (ps B n r j) = 2) k1) _ _ _ _ _ _ _ _ _ _)) (fun k2 va2 wd2 hv3 hl3 => io ?_)
  intro rd3 e3
  rw [c_0, e1] at e3
  have g := hT (al2 (P := fun j => tK B n (ps B n r j) = 2) k1 k2) va2 wd2 rd3 (gI (gd B n r 12 2)) hl3
  rw [show lD 12 (gd B n r 12 2) (tV B n (ps B n r 1)) (tV B n (ps B n r 2)) (tV B n (ps B n r 3)) td = (if td 0 = 40 then td else upd (upd (upd (upd td 0 (td 0 + 1)) (Int32.toNatClampNeg ((1 + 3 * td 0) + 0)) 2) (Int32.toNatClampNeg ((1 + 3 * td 0) + 1)) (tV B n (ps B n r 1))) (Int32.toNatClampNeg ((1 + 3 * td 0) + 2)) (tV B n (ps B n r 2))) from rfl] at g
  have r0 : rd3 0 = 2 := by rw [e3]; exact up_s
  have r1 : rd3 1 = (tV B n (ps B n r 1)) := by rw [e3, up_n (by omega), up_n (by omega), up_s]
  have r2 : rd3 2 = (tV B n (ps B n r 2)) := by rw [e3, up_n (by omega), up_s]
  refine e_keep (W := 3) (by omega) hC.1 (fun h => ?_) (fun h => ?_)
  · rw [if_pos h] at g; exact g
  · rw [if_neg h] at g
    have e : kp td rd3 3 3 = upd (upd (upd (upd td 0 (td 0 + 1)) (Int32.toNatClampNeg ((1 + 3 * td 0) + 0)) (rd3 0)) (Int32.toNatClampNeg ((1 + 3 * td 0) + 1)) (rd3 1)) (Int32.toNatClampNeg ((1 + 3 * td 0) + 2)) (rd3 2) := rfl
    rw [e, r0, r1, r2]
    exact g
set_option maxRecDepth 20000 in
theorem e_eve_13 {tp B rd td : Nat → Int32} {n r : Nat} {va wr fa pl : Int32} {wd : Int64} {post : Int32 → Int32 → Int32 → Int32 → Int32 → Int64 → Int32 → Int32 → Int32 → (Nat → Int32) → (Nat → Int32) → Int32 → Prop} (hn : n ≤ 600) (hr : r ≤ n) (hB : ∀ j, j < n → tp j = B j) (hb : ∀ j, iv (-128) 127 (B j)) (hlp : ¬ fa = 0 → pl < (nI (tF B n r))) (hK0 : ¬ tK B n r = 0) (hC : CB 1 td)
    (hF : ∀ j, 1 ≤ j → j ≤ 2 → ¬ tK B n (ps B n r j) = 2 → (∀ i, 1 ≤ i → i < j → tK B n (ps B n r i) = 2) → ∀ (re be so va : Int32) (wd : Int64) (lf lp : Int32) (td rd : Nat → Int32) (gd : Int32), post 0 re be so va wd (nI (tF B n (ps B n r j))) lf lp td rd gd)
    (hT : (∀ j, 1 ≤ j → j ≤ 2 → tK B n (ps B n r j) = 2) → ∀ (va' : Int32) (wd' : Int64) (rd' : Nat → Int32) (gd' : Int32), (¬ mkF B n r 13 td fa 2 = 0 → mkP B n r 13 td fa pl 2 < (nI (tF B n (ps B n r 3)))) → post 1 (nI (tN B n (ps B n r 3))) (nI (tF B n (ps B n r 3))) (sI (tK B n (ps B n r 3))) va' wd' wr (mkF B n r 13 td fa 2) (mkP B n r 13 td fa pl 2) (lD 13 (gd B n r 13 2) (tV B n (ps B n r 1)) (tV B n (ps B n r 2)) (tV B n (ps B n r 3)) td) rd' gd') : q_m_eveningLine_0 tp (nI (tN B n r)) (nI n) (nI (tF B n r)) (sI (tK B n r)) va wd wr fa pl td rd 1 (lN 2002873451) (nI (tF B n r)) post := by
  have hF1 := tF_nx hr hK0
  have htk := tk_le (B := B) hr
  have hl1 : ¬ mkF B n r 13 td fa 0 = 0 → mkP B n r 13 td fa pl 0 < nI (tF B n (tN B n r)) := LP_n hlp hF1.1 (by omega)
  refine ⟨fun _ => ⟨fun _ => ⟨fun _ => ⟨fun h9 => absurd h9 (by decide +kernel), fun _ => ⟨fun _ => e_full (c := 0) (b := fu 13 td) (by omega) (by simp [fu]) hlp (e_tok (r := tN B n r) hn htk.2.1 hB hb (fun v1 w1 hv1 _ => ?_)), fun h9 => absurd h9 (by decide +kernel)⟩⟩, fun h9 => absurd h9 (by decide +kernel)⟩, fun h9 => absurd h9 (by decide +kernel)⟩, fun h9 => absurd h9 (by decide +kernel)⟩
  intro rd1 e1
  rw [c_2] at e1
  refine e_take (k := 1) (i := 1) (c := cW 13 0 (tV B n (ps B n r 1)) (tV B n (ps B n r 1))) (rd := rd1) (g := gd B n r 13 0) hn hr hB hb hv1 hl1 (by omega) rfl (fun hk => iz (hF 1 (by omega) (by omega) hk (be1 (P := fun j => tK B n (ps B n r j) = 2)) _ _ _ _ _ _ _ _ _ _)) (fun k1 va1 wd1 hv2 hl2 => oi ?_)
  refine ⟨fun h9 => absurd h9 (by decide +kernel), fun _ => ⟨fun h9 => absurd h9 (by decide +kernel), fun _ => ?_⟩⟩
  refine e_take (k := 2) (i := 2) (c := cW 13 1 (tV B n (ps B n r 1)) (tV B n (ps B n r 2))) (g := gd B n r 13 1) hn hr hB hb hv2 hl2 (by omega) rfl (fun hk => zi (hF 2 (by omega) (by omega) hk (be2 (P := fun j => tK B n (ps B n r j) = 2) k1) _ _ _ _ _ _ _ _ _ _)) (fun k2 va2 wd2 hv3 hl3 => io ?_)
  intro rd3 e3
  rw [c_0, e1] at e3
  have g := hT (al2 (P := fun j => tK B n (ps B n r j) = 2) k1 k2) va2 wd2 rd3 (gI (gd B n r 13 2)) hl3
  rw [show lD 13 (gd B n r 13 2) (tV B n (ps B n r 1)) (tV B n (ps B n r 2)) (tV B n (ps B n r 3)) td = (if td 0 = 40 then td else upd (upd (upd (upd td 0 (td 0 + 1)) (Int32.toNatClampNeg ((1 + 3 * td 0) + 0)) 3) (Int32.toNatClampNeg ((1 + 3 * td 0) + 1)) (tV B n (ps B n r 1))) (Int32.toNatClampNeg ((1 + 3 * td 0) + 2)) (tV B n (ps B n r 2))) from rfl] at g
  have r0 : rd3 0 = 3 := by rw [e3]; exact up_s
  have r1 : rd3 1 = (tV B n (ps B n r 1)) := by rw [e3, up_n (by omega), up_n (by omega), up_s]
  have r2 : rd3 2 = (tV B n (ps B n r 2)) := by rw [e3, up_n (by omega), up_s]
  refine e_keep (W := 3) (by omega) hC.1 (fun h => ?_) (fun h => ?_)
  · rw [if_pos h] at g; exact g
  · rw [if_neg h] at g
    have e : kp td rd3 3 3 = upd (upd (upd (upd td 0 (td 0 + 1)) (Int32.toNatClampNeg ((1 + 3 * td 0) + 0)) (rd3 0)) (Int32.toNatClampNeg ((1 + 3 * td 0) + 1)) (rd3 1)) (Int32.toNatClampNeg ((1 + 3 * td 0) + 2)) (rd3 2) := rfl
    rw [e, r0, r1, r2]
    exact g
set_option maxRecDepth 20000 in
theorem e_eve_14 {tp B rd td : Nat → Int32} {n r : Nat} {va wr fa pl : Int32} {wd : Int64} {post : Int32 → Int32 → Int32 → Int32 → Int32 → Int64 → Int32 → Int32 → Int32 → (Nat → Int32) → (Nat → Int32) → Int32 → Prop} (hn : n ≤ 600) (hr : r ≤ n) (hB : ∀ j, j < n → tp j = B j) (hb : ∀ j, iv (-128) 127 (B j)) (hlp : ¬ fa = 0 → pl < (nI (tF B n r))) (hK0 : ¬ tK B n r = 0) (hC : CB 1 td)
    (hF : ∀ j, 1 ≤ j → j ≤ 1 → ¬ tK B n (ps B n r j) = 2 → (∀ i, 1 ≤ i → i < j → tK B n (ps B n r i) = 2) → ∀ (re be so va : Int32) (wd : Int64) (lf lp : Int32) (td rd : Nat → Int32) (gd : Int32), post 0 re be so va wd (nI (tF B n (ps B n r j))) lf lp td rd gd)
    (hT : (∀ j, 1 ≤ j → j ≤ 1 → tK B n (ps B n r j) = 2) → ∀ (va' : Int32) (wd' : Int64) (rd' : Nat → Int32) (gd' : Int32), (¬ mkF B n r 14 td fa 1 = 0 → mkP B n r 14 td fa pl 1 < (nI (tF B n (ps B n r 2)))) → post 1 (nI (tN B n (ps B n r 2))) (nI (tF B n (ps B n r 2))) (sI (tK B n (ps B n r 2))) va' wd' wr (mkF B n r 14 td fa 1) (mkP B n r 14 td fa pl 1) (lD 14 (gd B n r 14 1) (tV B n (ps B n r 1)) (tV B n (ps B n r 2)) (tV B n (ps B n r 3)) td) rd' gd') : q_m_eveningLine_0 tp (nI (tN B n r)) (nI n) (nI (tF B n r)) (sI (tK B n r)) va wd wr fa pl td rd 1 (lN 427020610914) (nI (tF B n r)) post := by
  have hF1 := tF_nx hr hK0
  have htk := tk_le (B := B) hr
  have hl1 : ¬ mkF B n r 14 td fa 0 = 0 → mkP B n r 14 td fa pl 0 < nI (tF B n (tN B n r)) := LP_n hlp hF1.1 (by omega)
  refine ⟨fun _ => ⟨fun _ => ⟨fun _ => ⟨fun _ => ⟨fun h9 => absurd h9 (by decide +kernel), fun _ => ⟨fun _ => e_full (c := 0) (b := fu 14 td) (by omega) (by simp [fu]) hlp (e_tok (r := tN B n r) hn htk.2.1 hB hb (fun v1 w1 hv1 _ => ?_)), fun h9 => absurd h9 (by decide +kernel)⟩⟩, fun h9 => absurd h9 (by decide +kernel)⟩, fun h9 => absurd h9 (by decide +kernel)⟩, fun h9 => absurd h9 (by decide +kernel)⟩, fun h9 => absurd h9 (by decide +kernel)⟩
  intro rd1 e1
  rw [c_2] at e1
  refine e_take (k := 1) (i := 1) (c := cW 14 0 (tV B n (ps B n r 1)) (tV B n (ps B n r 1))) (rd := rd1) (g := gd B n r 14 0) hn hr hB hb hv1 hl1 (by omega) rfl (fun hk => iz (hF 1 (by omega) (by omega) hk (be1 (P := fun j => tK B n (ps B n r j) = 2)) _ _ _ _ _ _ _ _ _ _)) (fun k1 va1 wd1 hv2 hl2 => oi ?_)
  refine ⟨fun _ => ?_, fun h9 => absurd h9 (by decide +kernel)⟩
  intro rd3 e3
  rw [c_0, e1] at e3
  have g := hT (al1 (P := fun j => tK B n (ps B n r j) = 2) k1) va1 wd1 rd3 (gI (gd B n r 14 1)) hl2
  rw [show lD 14 (gd B n r 14 1) (tV B n (ps B n r 1)) (tV B n (ps B n r 2)) (tV B n (ps B n r 3)) td = (if td 0 = 40 then td else upd (upd (upd (upd td 0 (td 0 + 1)) (Int32.toNatClampNeg ((1 + 3 * td 0) + 0)) 4) (Int32.toNatClampNeg ((1 + 3 * td 0) + 1)) (tV B n (ps B n r 1))) (Int32.toNatClampNeg ((1 + 3 * td 0) + 2)) (-1)) from rfl] at g
  have r0 : rd3 0 = 4 := by rw [e3]; exact up_s
  have r1 : rd3 1 = (tV B n (ps B n r 1)) := by rw [e3, up_n (by omega), up_s]
  have r2 : rd3 2 = (-1) := by rw [e3, up_n (by omega), up_n (by omega), up_s]
  refine e_keep (W := 3) (by omega) hC.1 (fun h => ?_) (fun h => ?_)
  · rw [if_pos h] at g; exact g
  · rw [if_neg h] at g
    have e : kp td rd3 3 3 = upd (upd (upd (upd td 0 (td 0 + 1)) (Int32.toNatClampNeg ((1 + 3 * td 0) + 0)) (rd3 0)) (Int32.toNatClampNeg ((1 + 3 * td 0) + 1)) (rd3 1)) (Int32.toNatClampNeg ((1 + 3 * td 0) + 2)) (rd3 2) := rfl
    rw [e, r0, r1, r2]
    exact g
set_option maxRecDepth 20000 in
theorem e_eve_15 {tp B rd td : Nat → Int32} {n r : Nat} {va wr fa pl : Int32} {wd : Int64} {post : Int32 → Int32 → Int32 → Int32 → Int32 → Int64 → Int32 → Int32 → Int32 → (Nat → Int32) → (Nat → Int32) → Int32 → Prop} (hn : n ≤ 600) (hr : r ≤ n) (hB : ∀ j, j < n → tp j = B j) (hb : ∀ j, iv (-128) 127 (B j)) (hlp : ¬ fa = 0 → pl < (nI (tF B n r))) (hK0 : ¬ tK B n r = 0) (hC : CB 1 td)
    (hF : ∀ j, 1 ≤ j → j ≤ 1 → ¬ tK B n (ps B n r j) = 2 → (∀ i, 1 ≤ i → i < j → tK B n (ps B n r i) = 2) → ∀ (re be so va : Int32) (wd : Int64) (lf lp : Int32) (td rd : Nat → Int32) (gd : Int32), post 0 re be so va wd (nI (tF B n (ps B n r j))) lf lp td rd gd)
    (hT : (∀ j, 1 ≤ j → j ≤ 1 → tK B n (ps B n r j) = 2) → ∀ (va' : Int32) (wd' : Int64) (rd' : Nat → Int32) (gd' : Int32), (¬ mkF B n r 15 td fa 1 = 0 → mkP B n r 15 td fa pl 1 < (nI (tF B n (ps B n r 2)))) → post 1 (nI (tN B n (ps B n r 2))) (nI (tF B n (ps B n r 2))) (sI (tK B n (ps B n r 2))) va' wd' wr (mkF B n r 15 td fa 1) (mkP B n r 15 td fa pl 1) (lD 15 (gd B n r 15 1) (tV B n (ps B n r 1)) (tV B n (ps B n r 2)) (tV B n (ps B n r 3)) td) rd' gd') : q_m_eveningLine_0 tp (nI (tN B n r)) (nI n) (nI (tF B n r)) (sI (tK B n r)) va wd wr fa pl td rd 1 (lN 28259043934301796) (nI (tF B n r)) post := by
  have hF1 := tF_nx hr hK0
  have htk := tk_le (B := B) hr
  have hl1 : ¬ mkF B n r 15 td fa 0 = 0 → mkP B n r 15 td fa pl 0 < nI (tF B n (tN B n r)) := LP_n hlp hF1.1 (by omega)
  refine ⟨fun _ => ⟨fun _ => ⟨fun _ => ⟨fun _ => ⟨fun _ => ⟨fun h9 => absurd h9 (by decide +kernel), fun _ => ⟨fun _ => e_full (c := 0) (b := fu 15 td) (by omega) (by simp [fu]) hlp (e_tok (r := tN B n r) hn htk.2.1 hB hb (fun v1 w1 hv1 _ => ?_)), fun h9 => absurd h9 (by decide +kernel)⟩⟩, fun h9 => absurd h9 (by decide +kernel)⟩, fun h9 => absurd h9 (by decide +kernel)⟩, fun h9 => absurd h9 (by decide +kernel)⟩, fun h9 => absurd h9 (by decide +kernel)⟩, fun h9 => absurd h9 (by decide +kernel)⟩
  intro rd1 e1
  rw [c_2] at e1
  refine e_take (k := 1) (i := 1) (c := cW 15 0 (tV B n (ps B n r 1)) (tV B n (ps B n r 1))) (rd := rd1) (g := gd B n r 15 0) hn hr hB hb hv1 hl1 (by omega) rfl (fun hk => iz (hF 1 (by omega) (by omega) hk (be1 (P := fun j => tK B n (ps B n r j) = 2)) _ _ _ _ _ _ _ _ _ _)) (fun k1 va1 wd1 hv2 hl2 => oi ?_)
  refine ⟨fun _ => ?_, fun h9 => absurd h9 (by decide +kernel)⟩
  intro rd3 e3
  rw [c_0, e1] at e3
  have g := hT (al1 (P := fun j => tK B n (ps B n r j) = 2) k1) va1 wd1 rd3 (gI (gd B n r 15 1)) hl2
  rw [show lD 15 (gd B n r 15 1) (tV B n (ps B n r 1)) (tV B n (ps B n r 2)) (tV B n (ps B n r 3)) td = (if td 0 = 40 then td else upd (upd (upd (upd td 0 (td 0 + 1)) (Int32.toNatClampNeg ((1 + 3 * td 0) + 0)) 5) (Int32.toNatClampNeg ((1 + 3 * td 0) + 1)) (tV B n (ps B n r 1))) (Int32.toNatClampNeg ((1 + 3 * td 0) + 2)) (-1)) from rfl] at g
  have r0 : rd3 0 = 5 := by rw [e3]; exact up_s
  have r1 : rd3 1 = (tV B n (ps B n r 1)) := by rw [e3, up_n (by omega), up_s]
  have r2 : rd3 2 = (-1) := by rw [e3, up_n (by omega), up_n (by omega), up_s]
  refine e_keep (W := 3) (by omega) hC.1 (fun h => ?_) (fun h => ?_)
  · rw [if_pos h] at g; exact g
  · rw [if_neg h] at g
    have e : kp td rd3 3 3 = upd (upd (upd (upd td 0 (td 0 + 1)) (Int32.toNatClampNeg ((1 + 3 * td 0) + 0)) (rd3 0)) (Int32.toNatClampNeg ((1 + 3 * td 0) + 1)) (rd3 1)) (Int32.toNatClampNeg ((1 + 3 * td 0) + 2)) (rd3 2) := rfl
    rw [e, r0, r1, r2]
    exact g
set_option maxRecDepth 20000 in
theorem e_sig_16 {tp B rd td : Nat → Int32} {n r : Nat} {va wr fa pl : Int32} {wd : Int64} {post : Int32 → Int32 → Int32 → Int32 → Int32 → Int64 → Int32 → Int32 → Int32 → (Nat → Int32) → (Nat → Int32) → Int32 → Prop} (hn : n ≤ 600) (hr : r ≤ n) (hB : ∀ j, j < n → tp j = B j) (hb : ∀ j, iv (-128) 127 (B j)) (hlp : ¬ fa = 0 → pl < (nI (tF B n r))) (hK0 : ¬ tK B n r = 0) (hC : CB 2 td)
    (hF : ∀ j, 1 ≤ j → j ≤ 2 → ¬ tK B n (ps B n r j) = 2 → (∀ i, 1 ≤ i → i < j → tK B n (ps B n r i) = 2) → ∀ (re be so va : Int32) (wd : Int64) (lf lp : Int32) (td rd : Nat → Int32) (gd : Int32), post 0 re be so va wd (nI (tF B n (ps B n r j))) lf lp td rd gd)
    (hT : (∀ j, 1 ≤ j → j ≤ 2 → tK B n (ps B n r j) = 2) → ∀ (va' : Int32) (wd' : Int64) (rd' : Nat → Int32) (gd' : Int32), (¬ mkF B n r 16 td fa 2 = 0 → mkP B n r 16 td fa pl 2 < (nI (tF B n (ps B n r 3)))) → post 1 (nI (tN B n (ps B n r 3))) (nI (tF B n (ps B n r 3))) (sI (tK B n (ps B n r 3))) va' wd' wr (mkF B n r 16 td fa 2) (mkP B n r 16 td fa pl 2) (lD 16 (gd B n r 16 2) (tV B n (ps B n r 1)) (tV B n (ps B n r 2)) (tV B n (ps B n r 3)) td) rd' gd') : q_m_sightLine_0 tp (nI (tN B n r)) (nI n) (nI (tF B n r)) (sI (tK B n r)) va wd wr fa pl td rd 1 (lN 448377483876) (nI (tF B n r)) post := by
  have hF1 := tF_nx hr hK0
  have htk := tk_le (B := B) hr
  have hl1 : ¬ mkF B n r 16 td fa 0 = 0 → mkP B n r 16 td fa pl 0 < nI (tF B n (tN B n r)) := LP_n hlp hF1.1 (by omega)
  refine ⟨fun _ => e_full (c := 0) (b := fu 16 td) (by omega) (by simp [fu]) hlp (e_tok (r := tN B n r) hn htk.2.1 hB hb (fun v1 w1 hv1 _ => ?_)), fun h9 => absurd h9 (by decide +kernel)⟩
  refine e_take (k := 1) (i := 1) (c := cW 16 0 (tV B n (ps B n r 1)) (tV B n (ps B n r 1))) (g := gd B n r 16 0) hn hr hB hb hv1 hl1 (by omega) rfl (fun hk => iz (hF 1 (by omega) (by omega) hk (be1 (P := fun j => tK B n (ps B n r j) = 2)) _ _ _ _ _ _ _ _ _ _)) (fun k1 va1 wd1 hv2 hl2 => oi ?_)
  refine e_take (k := 2) (i := 2) (c := cW 16 1 (tV B n (ps B n r 1)) (tV B n (ps B n r 2))) (g := gd B n r 16 1) hn hr hB hb hv2 hl2 (by omega) rfl (fun hk => zi (hF 2 (by omega) (by omega) hk (be2 (P := fun j => tK B n (ps B n r j) = 2) k1) _ _ _ _ _ _ _ _ _ _)) (fun k2 va2 wd2 hv3 hl3 => io ?_)
  refine ⟨fun h9 => absurd h9 (by decide +kernel), fun _ => ⟨vp_in_nI (n := 0) (by decide) (by decide), fun rd3 e3 => ?_⟩⟩
  rw [c_0] at e3
  have g := hT (al2 (P := fun j => tK B n (ps B n r j) = 2) k1 k2) va2 wd2 rd3 (gI (gd B n r 16 2)) hl3
  rw [show lD 16 (gd B n r 16 2) (tV B n (ps B n r 1)) (tV B n (ps B n r 2)) (tV B n (ps B n r 3)) td = (if td 0 = 10 then td else upd (upd (upd (upd td 0 (td 0 + 1)) (Int32.toNatClampNeg ((1 + 3 * td 0) + 0)) 1) (Int32.toNatClampNeg ((1 + 3 * td 0) + 1)) (tV B n (ps B n r 1))) (Int32.toNatClampNeg ((1 + 3 * td 0) + 2)) (tV B n (ps B n r 2))) from rfl] at g
  have r0 : rd3 0 = 1 := by rw [e3]; exact up_s
  have r1 : rd3 1 = (tV B n (ps B n r 1)) := by rw [e3, up_n (by omega), up_n (by omega), up_s]
  have r2 : rd3 2 = (tV B n (ps B n r 2)) := by rw [e3, up_n (by omega), up_s]
  refine e_keep (W := 3) (by omega) (iv_w hC.1 (by decide)) (fun h => ?_) (fun h => ?_)
  · rw [if_pos h] at g; exact g
  · rw [if_neg h] at g
    have e : kp td rd3 3 3 = upd (upd (upd (upd td 0 (td 0 + 1)) (Int32.toNatClampNeg ((1 + 3 * td 0) + 0)) (rd3 0)) (Int32.toNatClampNeg ((1 + 3 * td 0) + 1)) (rd3 1)) (Int32.toNatClampNeg ((1 + 3 * td 0) + 2)) (rd3 2) := rfl
    rw [e, r0, r1, r2]
    exact g
set_option maxRecDepth 20000 in
theorem e_sig_17 {tp B rd td : Nat → Int32} {n r : Nat} {va wr fa pl : Int32} {wd : Int64} {post : Int32 → Int32 → Int32 → Int32 → Int32 → Int64 → Int32 → Int32 → Int32 → (Nat → Int32) → (Nat → Int32) → Int32 → Prop} (hn : n ≤ 600) (hr : r ≤ n) (hB : ∀ j, j < n → tp j = B j) (hb : ∀ j, iv (-128) 127 (B j)) (hlp : ¬ fa = 0 → pl < (nI (tF B n r))) (hK0 : ¬ tK B n r = 0) (hC : CB 2 td)
    (hF : ∀ j, 1 ≤ j → j ≤ 2 → ¬ tK B n (ps B n r j) = 2 → (∀ i, 1 ≤ i → i < j → tK B n (ps B n r i) = 2) → ∀ (re be so va : Int32) (wd : Int64) (lf lp : Int32) (td rd : Nat → Int32) (gd : Int32), post 0 re be so va wd (nI (tF B n (ps B n r j))) lf lp td rd gd)
    (hT : (∀ j, 1 ≤ j → j ≤ 2 → tK B n (ps B n r j) = 2) → ∀ (va' : Int32) (wd' : Int64) (rd' : Nat → Int32) (gd' : Int32), (¬ mkF B n r 17 td fa 2 = 0 → mkP B n r 17 td fa pl 2 < (nI (tF B n (ps B n r 3)))) → post 1 (nI (tN B n (ps B n r 3))) (nI (tF B n (ps B n r 3))) (sI (tK B n (ps B n r 3))) va' wd' wr (mkF B n r 17 td fa 2) (mkP B n r 17 td fa pl 2) (lD 17 (gd B n r 17 2) (tV B n (ps B n r 1)) (tV B n (ps B n r 2)) (tV B n (ps B n r 3)) td) rd' gd') : q_m_sightLine_0 tp (nI (tN B n r)) (nI n) (nI (tF B n r)) (sI (tK B n r)) va wd wr fa pl td rd 1 (lN 1836414053) (nI (tF B n r)) post := by
  have hF1 := tF_nx hr hK0
  have htk := tk_le (B := B) hr
  have hl1 : ¬ mkF B n r 17 td fa 0 = 0 → mkP B n r 17 td fa pl 0 < nI (tF B n (tN B n r)) := LP_n hlp hF1.1 (by omega)
  refine ⟨fun h9 => absurd h9 (by decide +kernel), fun _ => ⟨fun _ => e_full (c := 0) (b := fu 17 td) (by omega) (by simp [fu]) hlp (e_tok (r := tN B n r) hn htk.2.1 hB hb (fun v1 w1 hv1 _ => ?_)), fun h9 => absurd h9 (by decide +kernel)⟩⟩
  refine e_take (k := 1) (i := 1) (c := cW 17 0 (tV B n (ps B n r 1)) (tV B n (ps B n r 1))) (g := gd B n r 17 0) hn hr hB hb hv1 hl1 (by omega) rfl (fun hk => iz (hF 1 (by omega) (by omega) hk (be1 (P := fun j => tK B n (ps B n r j) = 2)) _ _ _ _ _ _ _ _ _ _)) (fun k1 va1 wd1 hv2 hl2 => oi ?_)
  refine e_take (k := 2) (i := 2) (c := cW 17 1 (tV B n (ps B n r 1)) (tV B n (ps B n r 2))) (g := gd B n r 17 1) hn hr hB hb hv2 hl2 (by omega) rfl (fun hk => zi (hF 2 (by omega) (by omega) hk (be2 (P := fun j => tK B n (ps B n r j) = 2) k1) _ _ _ _ _ _ _ _ _ _)) (fun k2 va2 wd2 hv3 hl3 => io ?_)
  refine ⟨fun _ => ⟨vp_in_nI (n := 0) (by decide) (by decide), fun rd3 e3 => ?_⟩, fun h9 => absurd h9 (by decide +kernel)⟩
  rw [c_0] at e3
  have g := hT (al2 (P := fun j => tK B n (ps B n r j) = 2) k1 k2) va2 wd2 rd3 (gI (gd B n r 17 2)) hl3
  rw [show lD 17 (gd B n r 17 2) (tV B n (ps B n r 1)) (tV B n (ps B n r 2)) (tV B n (ps B n r 3)) td = (if td 0 = 10 then td else upd (upd (upd (upd td 0 (td 0 + 1)) (Int32.toNatClampNeg ((1 + 3 * td 0) + 0)) 0) (Int32.toNatClampNeg ((1 + 3 * td 0) + 1)) (tV B n (ps B n r 1))) (Int32.toNatClampNeg ((1 + 3 * td 0) + 2)) (tV B n (ps B n r 2))) from rfl] at g
  have r0 : rd3 0 = 0 := by rw [e3]; exact up_s
  have r1 : rd3 1 = (tV B n (ps B n r 1)) := by rw [e3, up_n (by omega), up_n (by omega), up_s]
  have r2 : rd3 2 = (tV B n (ps B n r 2)) := by rw [e3, up_n (by omega), up_s]
  refine e_keep (W := 3) (by omega) (iv_w hC.1 (by decide)) (fun h => ?_) (fun h => ?_)
  · rw [if_pos h] at g; exact g
  · rw [if_neg h] at g
    have e : kp td rd3 3 3 = upd (upd (upd (upd td 0 (td 0 + 1)) (Int32.toNatClampNeg ((1 + 3 * td 0) + 0)) (rd3 0)) (Int32.toNatClampNeg ((1 + 3 * td 0) + 1)) (rd3 1)) (Int32.toNatClampNeg ((1 + 3 * td 0) + 2)) (rd3 2) := rfl
    rw [e, r0, r1, r2]
    exact g
set_option maxRecDepth 20000 in
theorem e_cho_18 {tp B rd td : Nat → Int32} {n r : Nat} {va wr fa pl : Int32} {wd : Int64} {post : Int32 → Int32 → Int32 → Int32 → Int32 → Int64 → Int32 → Int32 → Int32 → (Nat → Int32) → (Nat → Int32) → Int32 → Prop} (hn : n ≤ 600) (hr : r ≤ n) (hB : ∀ j, j < n → tp j = B j) (hb : ∀ j, iv (-128) 127 (B j)) (hlp : ¬ fa = 0 → pl < (nI (tF B n r))) (hK0 : ¬ tK B n r = 0) (hC : CB 3 td)
    (hF : ∀ j, 1 ≤ j → j ≤ 2 → ¬ tK B n (ps B n r j) = 2 → (∀ i, 1 ≤ i → i < j → tK B n (ps B n r i) = 2) → ∀ (re be so va : Int32) (wd : Int64) (lf lp : Int32) (td rd : Nat → Int32) (gd : Int32), post 0 re be so va wd (nI (tF B n (ps B n r j))) lf lp td rd gd)
    (hT : (∀ j, 1 ≤ j → j ≤ 2 → tK B n (ps B n r j) = 2) → ∀ (va' : Int32) (wd' : Int64) (rd' : Nat → Int32) (gd' : Int32), (¬ mkF B n r 18 td fa 2 = 0 → mkP B n r 18 td fa pl 2 < (nI (tF B n (ps B n r 3)))) → post 1 (nI (tN B n (ps B n r 3))) (nI (tF B n (ps B n r 3))) (sI (tK B n (ps B n r 3))) va' wd' wr (mkF B n r 18 td fa 2) (mkP B n r 18 td fa pl 2) (lD 18 (gd B n r 18 2) (tV B n (ps B n r 1)) (tV B n (ps B n r 2)) (tV B n (ps B n r 3)) td) rd' gd') : q_m_choirLine_0 tp (nI (tN B n r)) (nI n) (nI (tF B n r)) (sI (tK B n r)) va wd wr fa pl td rd 1 (lN 508675318629) (nI (tF B n r)) post := by
  have hF1 := tF_nx hr hK0
  have htk := tk_le (B := B) hr
  have hl1 : ¬ mkF B n r 18 td fa 0 = 0 → mkP B n r 18 td fa pl 0 < nI (tF B n (tN B n r)) := LP_n hlp hF1.1 (by omega)
  refine ⟨fun _ => ⟨fun h9 => absurd h9 (by decide +kernel), fun _ => e_full (c := 0) (b := fu 18 td) (by omega) (by simp [fu]) hlp (e_tok (r := tN B n r) hn htk.2.1 hB hb (fun v1 w1 hv1 _ => ⟨fun _ => ?_, fun h9 => absurd h9 (by decide +kernel)⟩))⟩, fun h9 => absurd h9 (by decide +kernel)⟩
  refine e_take (k := 1) (i := 0) (c := cW 18 0 (tV B n (ps B n r 1)) (tV B n (ps B n r 1))) (g := gd B n r 18 0) hn hr hB hb hv1 hl1 (by omega) rfl (fun hk => iz (hF 1 (by omega) (by omega) hk (be1 (P := fun j => tK B n (ps B n r j) = 2)) _ _ _ _ _ _ _ _ _ _)) (fun k1 va1 wd1 hv2 hl2 => oi ?_)
  refine e_take (k := 2) (i := 1) (c := cW 18 1 (tV B n (ps B n r 1)) (tV B n (ps B n r 2))) (g := gd B n r 18 1) hn hr hB hb hv2 hl2 (by omega) rfl (fun hk => zi (hF 2 (by omega) (by omega) hk (be2 (P := fun j => tK B n (ps B n r j) = 2) k1) _ _ _ _ _ _ _ _ _ _)) (fun k2 va2 wd2 hv3 hl3 => io ?_)
  have r0 : (upd (upd rd 0 (tV B n (ps B n r 1))) 1 (tV B n (ps B n r 2))) 0 = (tV B n (ps B n r 1)) := by rw [up_n (by omega), up_s]
  have r1 : (upd (upd rd 0 (tV B n (ps B n r 1))) 1 (tV B n (ps B n r 2))) 1 = (tV B n (ps B n r 2)) := up_s
  have g := hT (al2 (P := fun j => tK B n (ps B n r j) = 2) k1 k2) va2 wd2 (upd (upd rd 0 (tV B n (ps B n r 1))) 1 (tV B n (ps B n r 2))) (gI (gd B n r 18 2)) hl3
  rw [show lD 18 (gd B n r 18 2) (tV B n (ps B n r 1)) (tV B n (ps B n r 2)) (tV B n (ps B n r 3)) td = (if td 0 = 9 then td else upd (upd (upd td 0 (td 0 + 1)) (Int32.toNatClampNeg ((1 + 2 * td 0) + 0)) (tV B n (ps B n r 1))) (Int32.toNatClampNeg ((1 + 2 * td 0) + 1)) (tV B n (ps B n r 2))) from rfl] at g
  refine e_keep (W := 2) (by omega) (iv_w hC.1 (by decide)) (fun h => ?_) (fun h => ?_)
  · rw [if_pos h] at g; exact g
  · rw [if_neg h] at g
    have e : kp td (upd (upd rd 0 (tV B n (ps B n r 1))) 1 (tV B n (ps B n r 2))) 2 2 = upd (upd (upd td 0 (td 0 + 1)) (Int32.toNatClampNeg ((1 + 2 * td 0) + 0)) ((upd (upd rd 0 (tV B n (ps B n r 1))) 1 (tV B n (ps B n r 2))) 0)) (Int32.toNatClampNeg ((1 + 2 * td 0) + 1)) ((upd (upd rd 0 (tV B n (ps B n r 1))) 1 (tV B n (ps B n r 2))) 1) := rfl
    rw [e, r0, r1]
    exact g
set_option maxRecDepth 20000 in
theorem e_cho_19 {tp B rd td : Nat → Int32} {n r : Nat} {va wr fa pl : Int32} {wd : Int64} {post : Int32 → Int32 → Int32 → Int32 → Int32 → Int64 → Int32 → Int32 → Int32 → (Nat → Int32) → (Nat → Int32) → Int32 → Prop} (hn : n ≤ 600) (hr : r ≤ n) (hB : ∀ j, j < n → tp j = B j) (hb : ∀ j, iv (-128) 127 (B j)) (hlp : ¬ fa = 0 → pl < (nI (tF B n r))) (hK0 : ¬ tK B n r = 0) 
    (hF : ∀ j, 1 ≤ j → j ≤ 1 → ¬ tK B n (ps B n r j) = 2 → (∀ i, 1 ≤ i → i < j → tK B n (ps B n r i) = 2) → ∀ (re be so va : Int32) (wd : Int64) (lf lp : Int32) (td rd : Nat → Int32) (gd : Int32), post 0 re be so va wd (nI (tF B n (ps B n r j))) lf lp td rd gd)
    (hT : (∀ j, 1 ≤ j → j ≤ 1 → tK B n (ps B n r j) = 2) → ∀ (va' : Int32) (wd' : Int64) (rd' : Nat → Int32) (gd' : Int32), (¬ mkF B n r 19 td fa 1 = 0 → mkP B n r 19 td fa pl 1 < (nI (tF B n (ps B n r 2)))) → post 1 (nI (tN B n (ps B n r 2))) (nI (tF B n (ps B n r 2))) (sI (tK B n (ps B n r 2))) va' wd' wr (mkF B n r 19 td fa 1) (mkP B n r 19 td fa pl 1) (lD 19 (gd B n r 19 1) (tV B n (ps B n r 1)) (tV B n (ps B n r 2)) (tV B n (ps B n r 3)) td) rd' gd') : q_m_choirLine_0 tp (nI (tN B n r)) (nI n) (nI (tF B n r)) (sI (tK B n r)) va wd wr fa pl td rd 1 (lN 1937007984) (nI (tF B n r)) post := by
  have hF1 := tF_nx hr hK0
  have htk := tk_le (B := B) hr
  have hl1 : ¬ mkF B n r 19 td fa 0 = 0 → mkP B n r 19 td fa pl 0 < nI (tF B n (tN B n r)) := LP_n hlp hF1.1 (by omega)
  have hfu : fu 19 td = false := by simp [fu]
  have e1 : mkF B n r 19 td fa 0 = fa := by show mF (!fu 19 td) fa 3 = fa; rw [hfu]; rfl
  have e2 : mkP B n r 19 td fa pl 0 = pl := by show mP (!fu 19 td) fa pl _ = pl; rw [hfu]; rfl
  have st : q_m_choirLine_37 tp (nI (tN B n r)) (nI n) (nI (tF B n r)) (sI (tK B n r)) va wd wr (mkF B n r 19 td fa 0) (mkP B n r 19 td fa pl 0) td rd 1 (lN 1937007984) post := by
    refine e_tok (r := tN B n r) hn htk.2.1 hB hb (fun v1 w1 hv1 _ => ⟨fun h9 => absurd h9 (by decide +kernel), fun _ => ?_⟩)
    exact e_plainLine_19 hn hr hB hb hv1 hl1 (fun j a b c d re be so va wd lf lp td rd gd => ⟨rfl, hF j a b c d re be so va wd lf lp td rd gd⟩) (fun hk va2 wd2 rd2 gd2 hl => ⟨rfl, hT hk va2 wd2 rd2 gd2 hl⟩)
  rw [e1, e2] at st
  exact ⟨fun h9 => absurd h9 (by decide +kernel), fun _ => ⟨fun _ => ⟨fun _ => st, fun h9 => absurd h9 (by decide +kernel)⟩, fun h9 => absurd h9 (by decide +kernel)⟩⟩
set_option maxRecDepth 20000 in
theorem e_lineOf {tp B rd td : Nat → Int32} {n r o : Nat} {va wr fa pl fh fs : Int32} {wd x : Int64} {post : Int32 → Int32 → Int32 → Int32 → Int32 → Int64 → Int32 → Int32 → Int32 → (Nat → Int32) → (Nat → Int32) → Int32 → Int32 → Int32 → Prop} (hn : n ≤ 600) (hr : r ≤ n) (hB : ∀ j, j < n → tp j = B j) (hb : ∀ j, iv (-128) 127 (B j)) (hlp : ¬ fa = 0 → pl < (nI (tF B n r))) (hK0 : ¬ tK B n r = 0) (ho : o ≤ 3) (hC : CB o td) (hw : tK B n r = 1 → x = tW B n r) (hw0 : ¬ tK B n r = 1 → x = 0)
    (hN : wOf B n r o = 20 → ∀ (re be so va : Int32) (wd : Int64) (lf lp : Int32) (td rd : Nat → Int32) (fh fs : Int32) (gd : Int32), post 0 re be so va wd (nI (tF B n r)) lf lp td rd fh fs gd)
    (hF : wOf B n r o < 20 → ∀ j, 1 ≤ j → j ≤ (nW (wOf B n r o)) → ¬ tK B n (ps B n r j) = 2 → (∀ i, 1 ≤ i → i < j → tK B n (ps B n r i) = 2) → ∀ (re be so va : Int32) (wd : Int64) (lf lp : Int32) (td rd : Nat → Int32) (fh fs : Int32) (gd : Int32), post 0 re be so va wd (nI (tF B n (ps B n r j))) lf lp td rd fh fs gd)
    (hT : wOf B n r o < 20 → (∀ j, 1 ≤ j → j ≤ (nW (wOf B n r o)) → tK B n (ps B n r j) = 2) → ∀ (va' : Int32) (wd' : Int64) (rd' : Nat → Int32) (gd' : Int32), (¬ mkF B n r (wOf B n r o) td fa (nW (wOf B n r o)) = 0 → mkP B n r (wOf B n r o) td fa pl (nW (wOf B n r o)) < (nI (tF B n (ps B n r ((nW (wOf B n r o)) + 1))))) → post 1 (nI (tN B n (ps B n r ((nW (wOf B n r o)) + 1)))) (nI (tF B n (ps B n r ((nW (wOf B n r o)) + 1)))) (sI (tK B n (ps B n r ((nW (wOf B n r o)) + 1)))) va' wd' wr (mkF B n r (wOf B n r o) td fa (nW (wOf B n r o))) (mkP B n r (wOf B n r o) td fa pl (nW (wOf B n r o))) (lD (wOf B n r o) (gd B n r (wOf B n r o) (nW (wOf B n r o))) (tV B n (ps B n r 1)) (tV B n (ps B n r 2)) (tV B n (ps B n r 3)) td) rd' (lH (wOf B n r o) (tV B n (ps B n r 1)) (tV B n (ps B n r 2)) fh) (lS (wOf B n r o) (tV B n (ps B n r 1)) fs) gd') : q_m_lineOf_0 tp (nI (tN B n r)) (nI n) (nI (tF B n r)) (sI (tK B n r)) va wd wr fa pl td rd fh fs 1 (nI o) x (nI (tF B n r)) post := by
  have hxz : ∀ j, j < 20 → (x = lN (wC.getD j 0) ↔ (tK B n r = 1 ∧ spl B (tF B n r) (tN B n r) j)) := by
    intro j hj
    by_cases hk : tK B n r = 1
    · rw [hw hk, tW_iff hr hb hj hk]
      exact ⟨fun h => ⟨hk, h⟩, fun h => h.2⟩
    · rw [hw0 hk]
      refine ⟨fun h => absurd h ?_, fun h => absurd h.1 hk⟩
      have : ∀ j, j < 20 → ¬ (0 : Int64) = lN (wC.getD j 0) := by decide +kernel
      exact this j hj
  have hoc : o = 0 ∨ o = 1 ∨ o = 2 ∨ o = 3 := by omega
  rcases wd_cases (B := B) (n := n) (r := r) ho with ⟨h20, hno⟩ | ⟨hlt, hP⟩
  · have hx : ∀ j, wlo o ≤ j → j < wlo (o + 1) → ¬ x = lN (wC.getD j 0) := by
      intro j h1 h2 h3
      have hj : j < 20 := Nat.lt_of_lt_of_le h2 (wlo_lt o ho).1
      have h4 := (hxz j hj).mp h3
      exact hno j ⟨h1, h2, h4.1, h4.2⟩
    have hp := hN h20
    rcases hoc with rfl | rfl | rfl | rfl
    · exact ⟨fun h9 => absurd h9 (by decide +kernel), fun _ => e_landNo hx ⟨rfl, hp _ _ _ _ _ _ _ _ _ _ _ _⟩, fun h9 => absurd h9 (by decide +kernel), fun h9 => absurd h9 (by decide +kernel)⟩
    · exact ⟨fun h9 => absurd h9 (by decide +kernel), fun h9 => absurd h9 (by decide +kernel), fun _ => e_eveNo hx ⟨rfl, hp _ _ _ _ _ _ _ _ _ _ _ _⟩, fun h9 => absurd h9 (by decide +kernel)⟩
    · exact ⟨fun h9 => absurd h9 (by decide +kernel), fun h9 => absurd h9 (by decide +kernel), fun h9 => absurd h9 (by decide +kernel), fun _ => e_sigNo hx ⟨rfl, hp _ _ _ _ _ _ _ _ _ _ _ _⟩⟩
    · exact ⟨fun _ => e_choNo hx ⟨rfl, hp _ _ _ _ _ _ _ _ _ _ _ _⟩, fun h9 => absurd h9 (by decide +kernel), fun h9 => absurd h9 (by decide +kernel), fun h9 => absurd h9 (by decide +kernel)⟩
  · have hF := hF hlt
    have hT := hT hlt
    have hx := (hxz _ hlt).mpr ⟨hP.2.2.1, hP.2.2.2⟩
    have h1 := hP.1
    have h2 := hP.2.1
    generalize wOf B n r o = w at hF hT hx h1 h2 hlt
    rcases hoc with rfl | rfl | rfl | rfl
    · have h3 : w < 10 := h2
      have h4 : 0 ≤ w := h1
      have hc : w = 0 ∨ w = 1 ∨ w = 2 ∨ w = 3 ∨ w = 4 ∨ w = 5 ∨ w = 6 ∨ w = 7 ∨ w = 8 ∨ w = 9 := by omega
      rcases hc with rfl | rfl | rfl | rfl | rfl | rfl | rfl | rfl | rfl | rfl
      · rw [hx]
        exact ⟨fun h9 => absurd h9 (by decide +kernel), fun _ => e_land_0 hn hr hB hb hlp hK0 hC (fun j a b c d re be so va wd lf lp td rd fh fs gd => ⟨rfl, hF j a b c d re be so va wd lf lp td rd fh fs gd⟩) (fun hk va2 wd2 rd2 gd2 hl => ⟨rfl, hT hk va2 wd2 rd2 gd2 hl⟩), fun h9 => absurd h9 (by decide +kernel), fun h9 => absurd h9 (by decide +kernel)⟩
      · rw [hx]
        exact ⟨fun h9 => absurd h9 (by decide +kernel), fun _ => e_land_1 hn hr hB hb hlp hK0 hC (fun j a b c d re be so va wd lf lp td rd fh fs gd => ⟨rfl, hF j a b c d re be so va wd lf lp td rd fh fs gd⟩) (fun hk va2 wd2 rd2 gd2 hl => ⟨rfl, hT hk va2 wd2 rd2 gd2 hl⟩), fun h9 => absurd h9 (by decide +kernel), fun h9 => absurd h9 (by decide +kernel)⟩
      · rw [hx]
        exact ⟨fun h9 => absurd h9 (by decide +kernel), fun _ => e_land_2 hn hr hB hb hlp hK0 hC (fun j a b c d re be so va wd lf lp td rd fh fs gd => ⟨rfl, hF j a b c d re be so va wd lf lp td rd fh fs gd⟩) (fun hk va2 wd2 rd2 gd2 hl => ⟨rfl, hT hk va2 wd2 rd2 gd2 hl⟩), fun h9 => absurd h9 (by decide +kernel), fun h9 => absurd h9 (by decide +kernel)⟩
      · rw [hx]
        exact ⟨fun h9 => absurd h9 (by decide +kernel), fun _ => e_land_3 hn hr hB hb hlp hK0 hC (fun j a b c d re be so va wd lf lp td rd fh fs gd => ⟨rfl, hF j a b c d re be so va wd lf lp td rd fh fs gd⟩) (fun hk va2 wd2 rd2 gd2 hl => ⟨rfl, hT hk va2 wd2 rd2 gd2 hl⟩), fun h9 => absurd h9 (by decide +kernel), fun h9 => absurd h9 (by decide +kernel)⟩
      · rw [hx]
        exact ⟨fun h9 => absurd h9 (by decide +kernel), fun _ => e_land_4 hn hr hB hb hlp hK0 hC (fun j a b c d re be so va wd lf lp td rd fh fs gd => ⟨rfl, hF j a b c d re be so va wd lf lp td rd fh fs gd⟩) (fun hk va2 wd2 rd2 gd2 hl => ⟨rfl, hT hk va2 wd2 rd2 gd2 hl⟩), fun h9 => absurd h9 (by decide +kernel), fun h9 => absurd h9 (by decide +kernel)⟩
      · rw [hx]
        exact ⟨fun h9 => absurd h9 (by decide +kernel), fun _ => e_land_5 hn hr hB hb hlp hK0 hC (fun j a b c d re be so va wd lf lp td rd fh fs gd => ⟨rfl, hF j a b c d re be so va wd lf lp td rd fh fs gd⟩) (fun hk va2 wd2 rd2 gd2 hl => ⟨rfl, hT hk va2 wd2 rd2 gd2 hl⟩), fun h9 => absurd h9 (by decide +kernel), fun h9 => absurd h9 (by decide +kernel)⟩
      · rw [hx]
        exact ⟨fun h9 => absurd h9 (by decide +kernel), fun _ => e_land_6 hn hr hB hb hlp hK0 hC (fun j a b c d re be so va wd lf lp td rd fh fs gd => ⟨rfl, hF j a b c d re be so va wd lf lp td rd fh fs gd⟩) (fun hk va2 wd2 rd2 gd2 hl => ⟨rfl, hT hk va2 wd2 rd2 gd2 hl⟩), fun h9 => absurd h9 (by decide +kernel), fun h9 => absurd h9 (by decide +kernel)⟩
      · rw [hx]
        exact ⟨fun h9 => absurd h9 (by decide +kernel), fun _ => e_land_7 hn hr hB hb hlp hK0 hC (fun j a b c d re be so va wd lf lp td rd fh fs gd => ⟨rfl, hF j a b c d re be so va wd lf lp td rd fh fs gd⟩) (fun hk va2 wd2 rd2 gd2 hl => ⟨rfl, hT hk va2 wd2 rd2 gd2 hl⟩), fun h9 => absurd h9 (by decide +kernel), fun h9 => absurd h9 (by decide +kernel)⟩
      · rw [hx]
        exact ⟨fun h9 => absurd h9 (by decide +kernel), fun _ => e_land_8 hn hr hB hb hlp hK0 hC (fun j a b c d re be so va wd lf lp td rd fh fs gd => ⟨rfl, hF j a b c d re be so va wd lf lp td rd fh fs gd⟩) (fun hk va2 wd2 rd2 gd2 hl => ⟨rfl, hT hk va2 wd2 rd2 gd2 hl⟩), fun h9 => absurd h9 (by decide +kernel), fun h9 => absurd h9 (by decide +kernel)⟩
      · rw [hx]
        exact ⟨fun h9 => absurd h9 (by decide +kernel), fun _ => e_land_9 hn hr hB hb hlp hK0 hC (fun j a b c d re be so va wd lf lp td rd fh fs gd => ⟨rfl, hF j a b c d re be so va wd lf lp td rd fh fs gd⟩) (fun hk va2 wd2 rd2 gd2 hl => ⟨rfl, hT hk va2 wd2 rd2 gd2 hl⟩), fun h9 => absurd h9 (by decide +kernel), fun h9 => absurd h9 (by decide +kernel)⟩
    · have h3 : w < 16 := h2
      have h4 : 10 ≤ w := h1
      have hc : w = 10 ∨ w = 11 ∨ w = 12 ∨ w = 13 ∨ w = 14 ∨ w = 15 := by omega
      rcases hc with rfl | rfl | rfl | rfl | rfl | rfl
      · rw [hx]
        exact ⟨fun h9 => absurd h9 (by decide +kernel), fun h9 => absurd h9 (by decide +kernel), fun _ => e_eve_10 hn hr hB hb hlp hK0 hC (fun j a b c d re be so va wd lf lp td rd gd => ⟨rfl, hF j a b c d re be so va wd lf lp td rd fh fs gd⟩) (fun hk va2 wd2 rd2 gd2 hl => ⟨rfl, hT hk va2 wd2 rd2 gd2 hl⟩), fun h9 => absurd h9 (by decide +kernel)⟩
      · rw [hx]
        exact ⟨fun h9 => absurd h9 (by decide +kernel), fun h9 => absurd h9 (by decide +kernel), fun _ => e_eve_11 hn hr hB hb hlp hK0 hC (fun j a b c d re be so va wd lf lp td rd gd => ⟨rfl, hF j a b c d re be so va wd lf lp td rd fh fs gd⟩) (fun hk va2 wd2 rd2 gd2 hl => ⟨rfl, hT hk va2 wd2 rd2 gd2 hl⟩), fun h9 => absurd h9 (by decide +kernel)⟩
      · rw [hx]
        exact ⟨fun h9 => absurd h9 (by decide +kernel), fun h9 => absurd h9 (by decide +kernel), fun _ => e_eve_12 hn hr hB hb hlp hK0 hC (fun j a b c d re be so va wd lf lp td rd gd => ⟨rfl, hF j a b c d re be so va wd lf lp td rd fh fs gd⟩) (fun hk va2 wd2 rd2 gd2 hl => ⟨rfl, hT hk va2 wd2 rd2 gd2 hl⟩), fun h9 => absurd h9 (by decide +kernel)⟩
      · rw [hx]
        exact ⟨fun h9 => absurd h9 (by decide +kernel), fun h9 => absurd h9 (by decide +kernel), fun _ => e_eve_13 hn hr hB hb hlp hK0 hC (fun j a b c d re be so va wd lf lp td rd gd => ⟨rfl, hF j a b c d re be so va wd lf lp td rd fh fs gd⟩) (fun hk va2 wd2 rd2 gd2 hl => ⟨rfl, hT hk va2 wd2 rd2 gd2 hl⟩), fun h9 => absurd h9 (by decide +kernel)⟩
      · rw [hx]
        exact ⟨fun h9 => absurd h9 (by decide +kernel), fun h9 => absurd h9 (by decide +kernel), fun _ => e_eve_14 hn hr hB hb hlp hK0 hC (fun j a b c d re be so va wd lf lp td rd gd => ⟨rfl, hF j a b c d re be so va wd lf lp td rd fh fs gd⟩) (fun hk va2 wd2 rd2 gd2 hl => ⟨rfl, hT hk va2 wd2 rd2 gd2 hl⟩), fun h9 => absurd h9 (by decide +kernel)⟩
      · rw [hx]
        exact ⟨fun h9 => absurd h9 (by decide +kernel), fun h9 => absurd h9 (by decide +kernel), fun _ => e_eve_15 hn hr hB hb hlp hK0 hC (fun j a b c d re be so va wd lf lp td rd gd => ⟨rfl, hF j a b c d re be so va wd lf lp td rd fh fs gd⟩) (fun hk va2 wd2 rd2 gd2 hl => ⟨rfl, hT hk va2 wd2 rd2 gd2 hl⟩), fun h9 => absurd h9 (by decide +kernel)⟩
    · have h3 : w < 18 := h2
      have h4 : 16 ≤ w := h1
      have hc : w = 16 ∨ w = 17 := by omega
      rcases hc with rfl | rfl
      · rw [hx]
        exact ⟨fun h9 => absurd h9 (by decide +kernel), fun h9 => absurd h9 (by decide +kernel), fun h9 => absurd h9 (by decide +kernel), fun _ => e_sig_16 hn hr hB hb hlp hK0 hC (fun j a b c d re be so va wd lf lp td rd gd => ⟨rfl, hF j a b c d re be so va wd lf lp td rd fh fs gd⟩) (fun hk va2 wd2 rd2 gd2 hl => ⟨rfl, hT hk va2 wd2 rd2 gd2 hl⟩)⟩
      · rw [hx]
        exact ⟨fun h9 => absurd h9 (by decide +kernel), fun h9 => absurd h9 (by decide +kernel), fun h9 => absurd h9 (by decide +kernel), fun _ => e_sig_17 hn hr hB hb hlp hK0 hC (fun j a b c d re be so va wd lf lp td rd gd => ⟨rfl, hF j a b c d re be so va wd lf lp td rd fh fs gd⟩) (fun hk va2 wd2 rd2 gd2 hl => ⟨rfl, hT hk va2 wd2 rd2 gd2 hl⟩)⟩
    · have h3 : w < 20 := h2
      have h4 : 18 ≤ w := h1
      have hc : w = 18 ∨ w = 19 := by omega
      rcases hc with rfl | rfl
      · rw [hx]
        exact ⟨fun _ => e_cho_18 hn hr hB hb hlp hK0 hC (fun j a b c d re be so va wd lf lp td rd gd => ⟨rfl, hF j a b c d re be so va wd lf lp td rd fh fs gd⟩) (fun hk va2 wd2 rd2 gd2 hl => ⟨rfl, hT hk va2 wd2 rd2 gd2 hl⟩), fun h9 => absurd h9 (by decide +kernel), fun h9 => absurd h9 (by decide +kernel), fun h9 => absurd h9 (by decide +kernel)⟩
      · rw [hx]
        exact ⟨fun _ => e_cho_19 hn hr hB hb hlp hK0 (fun j a b c d re be so va wd lf lp td rd gd => ⟨rfl, hF j a b c d re be so va wd lf lp td rd fh fs gd⟩) (fun hk va2 wd2 rd2 gd2 hl => ⟨rfl, hT hk va2 wd2 rd2 gd2 hl⟩), fun h9 => absurd h9 (by decide +kernel), fun h9 => absurd h9 (by decide +kernel), fun h9 => absurd h9 (by decide +kernel)⟩
end
section
/-- pure facts of a line -/
theorem lbr_f {B : Nat → Int32} {n r j : Nat} : ∀ d k, k < j → j ≤ k + d → ¬ tK B n (ps B n r j) = 2 → (∀ i, k < i → i < j → tK B n (ps B n r i) = 2) → lbr B n r d k = j
  | 0, k => fun h1 h2 _ _ => absurd h2 (by omega)
  | d + 1, k => fun h1 h2 h3 h4 => by
    unfold lbr
    by_cases hj : j = k + 1
    · subst hj
      rw [if_neg h3]
    · rw [if_pos (h4 (k + 1) (by omega) (by omega))]
      exact lbr_f d (k + 1) (by omega) (by omega) h3 (fun i a b => h4 i (by omega) b)
theorem lbr_t {B : Nat → Int32} {n r : Nat} : ∀ d k, (∀ j, k < j → j ≤ k + d → tK B n (ps B n r j) = 2) → lbr B n r d k = if tK B n (ps B n r (k + d + 1)) = 3 then 9 else k + d + 1
  | 0, k => fun _ => rfl
  | d + 1, k => fun h => by
    unfold lbr
    rw [if_pos (h (k + 1) (by omega) (by omega)), lbr_t d (k + 1) (fun j a b => h j (by omega) (by omega))]
    rw [show k + 1 + d + 1 = k + (d + 1) + 1 by omega]
theorem fu_ext {w : Nat} {td td' : Nat → Int32} (h : ∀ j, j < 132 → td j = td' j) : fu w td = fu w td' := by
  unfold fu
  rw [h 0 (by omega), h 1 (by omega), h 4 (by omega)]
theorem mkF_ext {B : Nat → Int32} {n r w : Nat} {td td' : Nat → Int32} {fa : Int32} (h : fu w td = fu w td') : ∀ k, mkF B n r w td fa k = mkF B n r w td' fa k
  | 0 => by unfold mkF; rw [h]
  | k + 1 => by unfold mkF; rw [mkF_ext h k]
theorem mkP_ext {B : Nat → Int32} {n r w : Nat} {td td' : Nat → Int32} {fa pl : Int32} (h : fu w td = fu w td') : ∀ k, mkP B n r w td fa pl k = mkP B n r w td' fa pl k
  | 0 => by unfold mkP; rw [h]
  | k + 1 => by unfold mkP; rw [mkF_ext h k, mkP_ext h k]
theorem mkP_ir {B : Nat → Int32} {n r w : Nat} {td : Nat → Int32} {fa lp pl : Int32} (h : ¬ fa = 0 → lp = pl) : ∀ k, ¬ mkF B n r w td fa k = 0 → mkP B n r w td fa lp k = mkP B n r w td fa pl k
  | 0 => fun hm => by
    unfold mkF mF at hm
    unfold mkP mP
    by_cases hc : (!fu w td) = true
    · rw [if_pos hc] at hm ⊢
      rw [if_pos hc]
      exact h hm
    · rw [if_neg hc, if_neg hc]
      by_cases hf : fa = 0
      · rw [if_pos hf, if_pos hf]
      · rw [if_neg hf, if_neg hf]; exact h hf
  | k + 1 => fun hm => by
    unfold mkF mF at hm
    unfold mkP mP
    by_cases hc : cW w k (tV B n (ps B n r 1)) (tV B n (ps B n r (k + 1))) = true
    · rw [if_pos hc] at hm ⊢
      rw [if_pos hc]
      exact mkP_ir h k hm
    · rw [if_neg hc, if_neg hc]
      by_cases hf : mkF B n r w td fa k = 0
      · rw [if_pos hf, if_pos hf]
      · rw [if_neg hf, if_neg hf]; exact mkP_ir h k hf
theorem upd_ext {f g : Nat → Int32} {k : Nat} {v v' : Int32} (h : ∀ j, j < 132 → f j = g j) (hv : k < 132 → v = v') : ∀ j, j < 132 → upd f k v j = upd g k v' j := by
  intro j hj
  by_cases hjk : j = k
  · subst hjk; rw [up_s, up_s]; exact hv hj
  · rw [up_n hjk, up_n hjk]; exact h j hj
theorem lD_ext {w : Nat} {g : Bool} {a b c : Int32} {td td' : Nat → Int32} (h : ∀ j, j < 132 → td j = td' j) : ∀ j, j < 132 → lD w g a b c td j = lD w g a b c td' j := by
  have h0 := h 0 (by omega)
  have h1 := h 1 (by omega)
  have h4 := h 4 (by omega)
  have ite_ext : ∀ (P : Prop) [Decidable P] (f g f' g' : Nat → Int32), (∀ j, j < 132 → f j = f' j) → (∀ j, j < 132 → g j = g' j) → ∀ j, j < 132 → (if P then f else g) j = (if P then f' else g') j := by
    intro P _ f g f' g' ha hb j hj
    by_cases hP : P
    · rw [if_pos hP, if_pos hP]; exact ha j hj
    · rw [if_neg hP, if_neg hP]; exact hb j hj
  unfold lD
  rw [h0, h1, h4, h 2 (by omega), h 3 (by omega)]
  refine ite_ext _ _ _ _ _ (ite_ext _ _ _ _ _ h (upd_ext (upd_ext h (fun _ => rfl)) (fun _ => rfl))) ?_
  refine ite_ext _ _ _ _ _ (upd_ext h (fun _ => rfl)) ?_
  refine ite_ext _ _ _ _ _ (upd_ext h (fun _ => rfl)) ?_
  refine ite_ext _ _ _ _ _ (upd_ext h (fun _ => rfl)) ?_
  refine ite_ext _ _ _ _ _ (upd_ext h (fun _ => rfl)) ?_
  refine ite_ext _ _ _ _ _ (ite_ext _ _ _ _ _ (upd_ext (upd_ext h (fun _ => rfl)) (fun _ => rfl)) h) ?_
  refine ite_ext _ _ _ _ _ (ite_ext _ _ _ _ _ h (upd_ext (upd_ext (upd_ext h (fun _ => rfl)) (fun _ => rfl)) (fun _ => rfl))) ?_
  refine ite_ext _ _ _ _ _ (ite_ext _ _ _ _ _ (upd_ext h (fun _ => rfl)) h) ?_
  refine ite_ext _ _ _ _ _ (ite_ext _ _ _ _ _ h (upd_ext (upd_ext (upd_ext h (fun _ => rfl)) (fun _ => rfl)) (fun _ => rfl))) ?_
  refine ite_ext _ _ _ _ _ (ite_ext _ _ _ _ _ (upd_ext h (fun hk => by rw [h _ hk])) h) ?_
  refine ite_ext _ _ _ _ _ (ite_ext _ _ _ _ _ h (upd_ext (upd_ext (upd_ext (upd_ext h (fun _ => rfl)) (fun _ => rfl)) (fun _ => rfl)) (fun _ => rfl))) ?_
  refine ite_ext _ _ _ _ _ (ite_ext _ _ _ _ _ h (upd_ext (upd_ext (upd_ext (upd_ext h (fun _ => rfl)) (fun _ => rfl)) (fun _ => rfl)) (fun _ => rfl))) ?_
  refine ite_ext _ _ _ _ _ (ite_ext _ _ _ _ _ h (upd_ext (upd_ext (upd_ext h (fun _ => rfl)) (fun _ => rfl)) (fun _ => rfl))) ?_
  exact upd_ext h (fun _ => rfl)
theorem iv_inc {x : Int32} {h : Nat} {m : Int32} (hx : iv 0 h x) (hm : m = nI h) (hh : h < 1000) (hne : ¬ x = m) : iv 0 h (x + 1) := by
  obtain ⟨k, rfl, -, hk, -⟩ := iv_nI hx (by decide)
  have : k ≠ h := fun e => hne (by rw [hm, e])
  rw [nI_1]
  exact iv_ofN (by omega) (by omega) (by omega)
theorem cl_ge {x : Int32} {l h : Int} {m : Nat} (hx : iv l h x) (hl : (m : Int) ≤ l) : m ≤ x.toNatClampNeg := by
  have e : x.toNatClampNeg = x.toInt.toNat := rfl
  have := hx.1
  omega
theorem iv_offs {c : Nat} {x : Int32} {h : Nat} (hx : iv 0 h x) (hc : c + h < 1000) : iv c (c + h : Nat) (nI c + x) := by
  obtain ⟨k, rfl, -, hk, -⟩ := iv_nI hx (by decide)
  rw [nI_add]
  exact iv_ofN (by omega) (by omega) (by omega)
/-- the counts stay in their bounds -/
theorem CB_lD {o w : Nat} {g : Bool} {a b c : Int32} {td : Nat → Int32} (ho : o ≤ 3) (hw : wlo o ≤ w ∧ w < wlo (o + 1)) (hC : CB o td) (h5 : g = true → iv 0 8 a ∧ (w = 5 → iv 0 8 b)) : CB o (lD w g a b c td) := by
  have far : ∀ (t : Nat → Int32) (i : Nat) (v : Int32), 5 ≤ i → ∀ j, j ≤ 4 → upd t i v j = t j := fun t i v hi j hj => up_n (by omega)
  have keep : ∀ t : Nat → Int32, (∀ j, j ≤ 4 → t j = td j) → CB o t := by
    intro t ht
    unfold CB
    rw [ht 0 (by omega), ht 1 (by omega), ht 4 (by omega)]
    exact hC
  have hoc : o = 0 ∨ o = 1 ∨ o = 2 ∨ o = 3 := by omega
  rcases hoc with rfl | rfl | rfl | rfl
  · have h1 : w < 10 := hw.2
    obtain ⟨c0, c14⟩ := hC
    obtain ⟨c1, c4⟩ := c14 rfl
    have c0' : iv 0 (9 : Nat) (td 0) := c0
    have c1' : iv 0 (6 : Nat) (td 1) := c1
    have c4' : iv 0 (4 : Nat) (td 4) := c4
    have hc : w = 0 ∨ w = 1 ∨ w = 2 ∨ w = 3 ∨ w = 4 ∨ w = 5 ∨ w = 6 ∨ w = 7 ∨ w = 8 ∨ w = 9 := by omega
    rcases hc with rfl | rfl | rfl | rfl | rfl | rfl | rfl | rfl | rfl | rfl
    · show CB 0 (if td 0 = 9 then td else upd (upd td 0 (td 0 + 1)) (Int32.toNatClampNeg (7 + td 0)) a)
      by_cases h9 : td 0 = 9
      · rw [if_pos h9]; exact keep td (fun _ _ => rfl)
      · rw [if_neg h9]
        have hi : 7 ≤ Int32.toNatClampNeg (7 + td 0) := cl_ge (iv_offs (c := 7) c0' (by omega)) (by omega)
        refine ⟨?_, fun _ => ⟨?_, ?_⟩⟩
        · rw [far _ _ _ (by omega) 0 (by omega), up_s]; exact iv_inc (h := 9) c0' rfl (by omega) h9
        · rw [far _ _ _ (by omega) 1 (by omega), up_n (by omega)]; exact c1
        · rw [far _ _ _ (by omega) 4 (by omega), up_n (by omega)]; exact c4
    · refine ⟨?_, fun _ => ⟨?_, ?_⟩⟩
      · exact c0
      · exact c1
      · exact c4
    · refine ⟨?_, fun _ => ⟨?_, ?_⟩⟩
      · exact c0
      · exact c1
      · exact c4
    · exact keep _ (far _ _ _ (by omega))
    · exact keep _ (far _ _ _ (by omega))
    · show CB 0 (if g = true then upd (upd td (Int32.toNatClampNeg ((51 + 9 * a) + b)) c) (Int32.toNatClampNeg ((51 + 9 * b) + a)) c else td)
      by_cases hg : g = true
      · rw [if_pos hg]
        obtain ⟨ha, hb⟩ := h5 hg
        have hb := hb rfl
        obtain ⟨p, rfl, -, hp, -⟩ := iv_nI ha (by decide)
        obtain ⟨q, rfl, -, hq, -⟩ := iv_nI hb (by decide)
        rw [ix9, ix9, nI_clamp (by omega), nI_clamp (by omega)]
        exact keep _ (fun j hj => by rw [far _ _ _ (by omega) j hj, far _ _ _ (by omega) j hj])
      · rw [if_neg hg]; exact keep td (fun _ _ => rfl)
    · show CB 0 (if td 4 = 4 then td else upd (upd (upd td 4 (td 4 + 1)) (Int32.toNatClampNeg (43 + 2 * td 4)) a) (Int32.toNatClampNeg (43 + 2 * td 4 + 1)) b)
      by_cases h9 : td 4 = 4
      · rw [if_pos h9]; exact keep td (fun _ _ => rfl)
      · rw [if_neg h9]
        have hinc := iv_inc c4' (m := 4) rfl (by omega) h9
        obtain ⟨k, hk, -, hk4, -⟩ := iv_nI c4' (by decide)
        have i1 : Int32.toNatClampNeg (43 + 2 * td 4) = 43 + 2 * k := by rw [hk, show (43 : Int32) = nI 43 from rfl, show (2 : Int32) = nI 2 from rfl, pk_mul, nI_add, nI_clamp (by omega)]
        have i2 : Int32.toNatClampNeg (43 + 2 * td 4 + 1) = 43 + 2 * k + 1 := by rw [hk, show (43 : Int32) = nI 43 from rfl, show (2 : Int32) = nI 2 from rfl, pk_mul, nI_add, nI_1, nI_clamp (by omega)]
        rw [i1, i2]
        refine ⟨?_, fun _ => ⟨?_, ?_⟩⟩
        · rw [far _ _ _ (by omega) 0 (by omega), far _ _ _ (by omega) 0 (by omega), up_n (by omega)]; exact c0
        · rw [far _ _ _ (by omega) 1 (by omega), far _ _ _ (by omega) 1 (by omega), up_n (by omega)]; exact c1
        · rw [far _ _ _ (by omega) 4 (by omega), far _ _ _ (by omega) 4 (by omega), up_s]; exact hinc
    · show CB 0 (if g = true then upd td (Int32.toNatClampNeg (16 + a)) b else td)
      by_cases hg : g = true
      · rw [if_pos hg]
        have hi : 16 ≤ Int32.toNatClampNeg (16 + a) := cl_ge (iv_offs (c := 16) (h := 8) (h5 hg).1 (by omega)) (by omega)
        exact keep _ (far _ _ _ (by omega))
      · rw [if_neg hg]; exact keep td (fun _ _ => rfl)
    · show CB 0 (if td 1 = 6 then td else upd (upd (upd td 1 (td 1 + 1)) (Int32.toNatClampNeg (25 + td 1)) a) (Int32.toNatClampNeg (31 + td 1)) b)
      by_cases h9 : td 1 = 6
      · rw [if_pos h9]; exact keep td (fun _ _ => rfl)
      · rw [if_neg h9]
        have hi : 25 ≤ Int32.toNatClampNeg (25 + td 1) := cl_ge (iv_offs (c := 25) c1' (by omega)) (by omega)
        have hi2 : 31 ≤ Int32.toNatClampNeg (31 + td 1) := cl_ge (iv_offs (c := 31) c1' (by omega)) (by omega)
        refine ⟨?_, fun _ => ⟨?_, ?_⟩⟩
        · rw [far _ _ _ (by omega) 0 (by omega), far _ _ _ (by omega) 0 (by omega), up_n (by omega)]; exact c0
        · rw [far _ _ _ (by omega) 1 (by omega), far _ _ _ (by omega) 1 (by omega), up_s]; exact iv_inc (h := 6) c1' rfl (by omega) h9
        · rw [far _ _ _ (by omega) 4 (by omega), far _ _ _ (by omega) 4 (by omega), up_n (by omega)]; exact c4
    · show CB 0 (if g = true then upd td (Int32.toNatClampNeg (37 + a)) (td (Int32.toNatClampNeg (37 + a)) ||| 1 <<< (b &&& 31)) else td)
      by_cases hg : g = true
      · rw [if_pos hg]
        have hi : 37 ≤ Int32.toNatClampNeg (37 + a) := cl_ge (iv_offs (c := 37) (h := 8) (h5 hg).1 (by omega)) (by omega)
        exact keep _ (far _ _ _ (by omega))
      · rw [if_neg hg]; exact keep td (fun _ _ => rfl)
  · have h1 : w < 16 := hw.2
    have h2 : 10 ≤ w := hw.1
    have c0' : iv 0 (40 : Nat) (td 0) := hC.1
    have e : lD w g a b c td = (if td 0 = 40 then td else upd (upd (upd (upd td 0 (td 0 + 1)) (Int32.toNatClampNeg ((1 + 3 * td 0) + 0)) (nI (w - 10))) (Int32.toNatClampNeg ((1 + 3 * td 0) + 1)) a) (Int32.toNatClampNeg ((1 + 3 * td 0) + 2)) (if w < 14 then b else -1)) := by
      unfold lD
      rw [if_neg (by omega), if_neg (by omega), if_neg (by omega), if_neg (by omega), if_neg (by omega), if_neg (by omega), if_neg (by omega), if_neg (by omega), if_neg (by omega), if_neg (by omega), if_pos (by omega)]
    rw [e]
    by_cases h9 : td 0 = 40
    · rw [if_pos h9]; exact hC
    · rw [if_neg h9]
      obtain ⟨k, hk, -, hk4, -⟩ := iv_nI c0' (by decide)
      have i0 : ∀ i : Nat, i ≤ 2 → Int32.toNatClampNeg ((1 + 3 * td 0) + nI i) = 1 + 3 * k + i := fun i hi => by rw [hk, show (1 : Int32) = nI 1 from rfl, show (3 : Int32) = nI 3 from rfl, jx2, nI_clamp (by omega)]
      refine ⟨?_, fun h => absurd h (by decide)⟩
      rw [show (2 : Int32) = nI 2 from rfl, i0 2 (by omega), up_n (by omega)]
      rw [show Int32.toNatClampNeg ((1 + 3 * td 0) + 1) = 1 + 3 * k + 1 from i0 1 (by omega), up_n (by omega)]
      rw [show Int32.toNatClampNeg ((1 + 3 * td 0) + 0) = 1 + 3 * k + 0 from i0 0 (by omega), up_n (by omega), up_s]
      exact iv_inc (h := 40) c0' rfl (by omega) h9
  · have h1 : w < 18 := hw.2
    have h2 : 16 ≤ w := hw.1
    have c0' : iv 0 (10 : Nat) (td 0) := hC.1
    have e : lD w g a b c td = (if td 0 = 10 then td else upd (upd (upd (upd td 0 (td 0 + 1)) (Int32.toNatClampNeg ((1 + 3 * td 0) + 0)) (if w = 16 then 1 else 0)) (Int32.toNatClampNeg ((1 + 3 * td 0) + 1)) a) (Int32.toNatClampNeg ((1 + 3 * td 0) + 2)) b) := by
      unfold lD
      rw [if_neg (by omega), if_neg (by omega), if_neg (by omega), if_neg (by omega), if_neg (by omega), if_neg (by omega), if_neg (by omega), if_neg (by omega), if_neg (by omega), if_neg (by omega), if_neg (by omega), if_pos (by omega)]
    rw [e]
    by_cases h9 : td 0 = 10
    · rw [if_pos h9]; exact hC
    · rw [if_neg h9]
      obtain ⟨k, hk, -, hk4, -⟩ := iv_nI c0' (by decide)
      have i0 : ∀ i : Nat, i ≤ 2 → Int32.toNatClampNeg ((1 + 3 * td 0) + nI i) = 1 + 3 * k + i := fun i hi => by rw [hk, show (1 : Int32) = nI 1 from rfl, show (3 : Int32) = nI 3 from rfl, jx2, nI_clamp (by omega)]
      refine ⟨?_, fun h => absurd h (by decide)⟩
      rw [show (2 : Int32) = nI 2 from rfl, i0 2 (by omega), up_n (by omega)]
      rw [show Int32.toNatClampNeg ((1 + 3 * td 0) + 1) = 1 + 3 * k + 1 from i0 1 (by omega), up_n (by omega)]
      rw [show Int32.toNatClampNeg ((1 + 3 * td 0) + 0) = 1 + 3 * k + 0 from i0 0 (by omega), up_n (by omega), up_s]
      exact iv_inc (h := 10) c0' rfl (by omega) h9
  · have h1 : w < 20 := hw.2
    have h2 : 18 ≤ w := hw.1
    have c0' : iv 0 (9 : Nat) (td 0) := hC.1
    have hc : w = 18 ∨ w = 19 := by omega
    rcases hc with rfl | rfl
    · show CB 3 (if td 0 = 9 then td else upd (upd (upd td 0 (td 0 + 1)) (Int32.toNatClampNeg ((1 + 2 * td 0) + 0)) a) (Int32.toNatClampNeg ((1 + 2 * td 0) + 1)) b)
      by_cases h9 : td 0 = 9
      · rw [if_pos h9]; exact hC
      · rw [if_neg h9]
        obtain ⟨k, hk, -, hk4, -⟩ := iv_nI c0' (by decide)
        have i0 : ∀ i : Nat, i ≤ 2 → Int32.toNatClampNeg ((1 + 2 * td 0) + nI i) = 1 + 2 * k + i := fun i hi => by rw [hk, show (1 : Int32) = nI 1 from rfl, show (2 : Int32) = nI 2 from rfl, jx2, nI_clamp (by omega)]
        refine ⟨?_, fun h => absurd h (by decide)⟩
        rw [show Int32.toNatClampNeg ((1 + 2 * td 0) + 1) = 1 + 2 * k + 1 from i0 1 (by omega), up_n (by omega)]
        rw [show Int32.toNatClampNeg ((1 + 2 * td 0) + 0) = 1 + 2 * k + 0 from i0 0 (by omega), up_n (by omega), up_s]
        exact iv_inc (h := 9) c0' rfl (by omega) h9
    · exact ⟨by show iv 0 _ (upd td 19 a 0); rw [up_n (by omega)]; exact hC.1, fun h => absurd h (by decide)⟩
end
section
theorem ps_lt {B : Nat → Int32} {n r : Nat} (hr : r ≤ n) (hK : ¬ tK B n r = 0) : ∀ k, r + 1 ≤ ps B n r (k + 1)
  | 0 => by
    have h := tk_le (B := B) hr
    have h1 := tF_le (B := B) hr
    have h2 := h.2.2.1 hK
    show r + 1 ≤ tN B n r
    omega
  | k + 1 => by
    have h := ps_lt hr hK k
    have h0 := ps_le (B := B) hr (k + 1)
    have h1 := tk_le (B := B) h0.2
    have h2 := tF_le (B := B) h0.2
    show r + 1 ≤ tN B n (ps B n r (k + 1))
    omega
theorem iv_hut {w : Nat} {a v : Int32} {k : Nat} (h : cW w k a v = true) (hs : 0 ≤ (tbf_2 (w * 3 + k)).toInt ∧ (tbf_3 (w * 3 + k)).toInt ≤ 8) : iv 0 8 v := iv_w (cW_iv h) hs
theorem hutw : ∀ w, w < 20 → (w = 5 ∨ w = 7 ∨ w = 9) → 0 ≤ (tbf_2 (w * 3 + 0)).toInt ∧ (tbf_3 (w * 3 + 0)).toInt ≤ 8 := by decide +kernel
/-- as CB_lD, of a line -/
theorem CB_ln {B : Nat → Int32} {n r o w : Nat} {td : Nat → Int32} (ho : o ≤ 3) (hw : wlo o ≤ w ∧ w < wlo (o + 1)) (hC : CB o td) : CB o (lD w (gd B n r w (nW w)) (tV B n (ps B n r 1)) (tV B n (ps B n r 2)) (tV B n (ps B n r 3)) td) := by
  by_cases hq : w = 5 ∨ w = 7 ∨ w = 9
  · refine CB_lD ho hw hC (fun hg => ?_)
    have h20 : w < 20 := Nat.lt_of_lt_of_le hw.2 (wlo_lt o ho).1
    have hn := nW_tb w h20
    refine ⟨iv_hut (gd_c _ hg 0 (by omega)) (hutw w h20 hq), fun h5 => ?_⟩
    subst h5
    exact iv_hut (gd_c _ hg 1 (by decide)) (by decide +kernel)
  · have e : ∀ g g' : Bool, CB o (lD w g (tV B n (ps B n r 1)) (tV B n (ps B n r 2)) (tV B n (ps B n r 3)) td) → CB o (lD w g' (tV B n (ps B n r 1)) (tV B n (ps B n r 2)) (tV B n (ps B n r 3)) td) := by
      intro g g' h
      have h5 : ¬ w = 5 := fun h => hq (Or.inl h)
      have h7 : ¬ w = 7 := fun h => hq (Or.inr (Or.inl h))
      have h9 : ¬ w = 9 := fun h => hq (Or.inr (Or.inr h))
      by_cases h1 : w = 1
      · subst h1; exact h
      by_cases h2 : w = 2
      · subst h2; exact h
      have e2 : lD w g' (tV B n (ps B n r 1)) (tV B n (ps B n r 2)) (tV B n (ps B n r 3)) td = lD w g (tV B n (ps B n r 1)) (tV B n (ps B n r 2)) (tV B n (ps B n r 3)) td := by
        unfold lD
        simp only [if_neg h1, if_neg h2, if_neg h5, if_neg h7, if_neg h9]
      rw [e2]; exact h
    exact e false _ (CB_lD ho hw hC (fun h => absurd h (by decide)))
def FP (fa pl : Int32) : Prop := (fa = 0 → pl = -1) ∧ (¬ fa = 0 → 0 < fa.toInt)
theorem FP_m {c : Bool} {lf lp f p : Int32} (h : FP lf lp) (hf : 0 < f.toInt) : FP (mF c lf f) (mP c lf lp p) := by
  unfold mF mP
  by_cases hc : c = true
  · rw [if_pos hc, if_pos hc]; exact h
  · rw [if_neg hc, if_neg hc]
    by_cases hl : lf = 0
    · rw [if_pos hl, if_pos hl]
      exact ⟨fun h9 => by rw [h9] at hf; exact absurd hf (by decide), fun _ => hf⟩
    · rw [if_neg hl, if_neg hl]; exact h
theorem FP_k {B : Nat → Int32} {n r w : Nat} {td : Nat → Int32} {fa pl : Int32} (h : FP fa pl) : ∀ k, FP (mkF B n r w td fa k) (mkP B n r w td fa pl k)
  | 0 => FP_m h (by decide)
  | k + 1 => FP_m (FP_k h k) (by decide)
set_option maxRecDepth 20000 in
theorem e_lines {tp B : Nat → Int32} {n o : Nat} {post : Int32 → Int32 → Int32 → Int32 → Int32 → Int64 → Int32 → Int32 → Int32 → (Nat → Int32) → (Nat → Int32) → Int32 → Int32 → Int32 → Prop} (hn : n ≤ 600) (hB : ∀ j, j < n → tp j = B j) (hb : ∀ j, iv (-128) 127 (B j)) (ho : o ≤ 3) {R : Int32 × Int32 × (Nat → Int32)}
    (hX : ∀ (p : Int32) (td' : Nat → Int32), R = (1, p, td') → ∀ (re be so va : Int32) (wd : Int64) (lf lp : Int32) (td rd : Nat → Int32) (fh fs gd : Int32), post 0 re be so va wd p lf lp td rd fh fs gd)
    (hE : ∀ (fa pl lp : Int32) (td told : Nat → Int32) (fh fs : Int32), CB o told → (∀ j, j < 132 → told j = td j) → (¬ fa = 0 → lp = pl) → FP fa pl → R = fin4 o n fa pl td fh fs → ∀ (re va : Int32) (wd : Int64) (wr : Int32) (rd : Nat → Int32) (gd : Int32), post 1 re (nI n) 0 va wd wr fa lp told rd fh fs gd)
    {r : Nat} {va wr fa pl lp fh fs gd : Int32} {wd : Int64} {td told rd : Nat → Int32} (hr : r ≤ n) (hw : tK B n r = 1 → wd = tW B n r) (hlp : ¬ fa = 0 → lp < nI (tF B n r)) (hC : CB o told) (ht : ∀ j, j < 132 → told j = td j) (hpl : ¬ fa = 0 → lp = pl) (hFP : FP fa pl) (hR : R = go B n o (n + 1) r fa pl td fh fs) : q_m_lines_0 tp (nI (tN B n r)) (nI n) (nI (tF B n r)) (sI (tK B n r)) va wd wr fa lp told rd fh fs gd (nI o) post := by
  intro P hP
  have nb : narrow .boolean (.int (0 : Int32)) = .int 0 := rfl
  have nb1 : narrow .boolean (.int (1 : Int32)) = .int 1 := rfl
  have loop : ∀ m r (va wr fa pl lp fh fs gd : Int32) (wd : Int64) (td told rd : Nat → Int32), n + 1 ≤ m + r → r ≤ n → (tK B n r = 1 → wd = tW B n r) → (¬ fa = 0 → lp < nI (tF B n r)) → CB o told → (∀ j, j < 132 → told j = td j) → (¬ fa = 0 → lp = pl) → FP fa pl → R = go B n o m r fa pl td fh fs → P 1 (nI (tN B n r)) (nI (tF B n r)) (sI (tK B n r)) va wd wr fa lp told rd fh fs gd := by
    intro m
    induction m with
    | zero => intro r va wr fa pl lp fh fs gd wd td told rd h1 h2; omega
    | succ m ih =>
      intro r va wr fa pl lp fh fs gd wd td told rd h1 hr hw hlp hC ht hpl hFP hR
      have htk := tk_le (B := B) hr
      apply hP
      refine ⟨fun h9 => absurd h9 (by decide), fun _ => ?_⟩
      by_cases hK0 : tK B n r = 0
      · rw [go, if_pos hK0] at hR
        have e1 : tF B n r = n := htk.2.2.2.1 hK0
        rw [hK0, e1]
        refine ⟨fun _ => ⟨nb1, hE fa pl lp td told fh fs hC ht hpl hFP hR _ _ _ _ _ _⟩, fun h9 => absurd rfl h9⟩
      rw [go, if_neg hK0] at hR
      refine ⟨fun h9 => absurd ((sI_0 _ htk.2.2.2.2).mp h9) hK0, fun _ => ?_⟩
      -- a line
      have fail : ¬ lb B n r o = 9 → ∀ (re be so va : Int32) (wd : Int64) (lf lp : Int32) (td rd : Nat → Int32) (fh fs gd : Int32), P 0 re be so va wd (nI (tF B n (ps B n r (lb B n r o)))) lf lp td rd fh fs gd := by
        intro h9 re be so va wd lf lp td rd fh fs gd
        rw [if_neg h9] at hR
        apply hP
        exact ⟨fun _ => ⟨nb, hX _ _ hR _ _ _ _ _ _ _ _ _ _ _ _⟩, fun h8 => absurd rfl h8⟩
      have fl : ∀ j, j = lb B n r o → ¬ j = 9 → ∀ (re be so va : Int32) (wd : Int64) (lf lp : Int32) (td rd : Nat → Int32) (fh fs gd : Int32), P 0 re be so va wd (nI (tF B n (ps B n r j))) lf lp td rd fh fs gd := by
        intro j hj h9
        rw [hj]
        exact fail (by rw [← hj]; exact h9)
      have line : ∀ x : Int64, (tK B n r = 1 → x = tW B n r) → (¬ tK B n r = 1 → x = 0) → q_m_lines_41 P tp (nI (tN B n r)) (nI n) (nI (tF B n r)) (sI (tK B n r)) va wd wr fa lp told rd fh fs 1 (nI o) (nI (tF B n r)) (nI o) x post := by
        intro x hx1 hx0
        refine e_lineOf hn hr hB hb hlp hK0 ho hC hx1 hx0 (fun h20 re be so va wd lf lp td rd fh fs gd => ?_) (fun hlt j a b c d re be so va wd lf lp td rd fh fs gd => ?_) (fun hlt hk va2 wd2 rd2 gd2 hl => ?_)
        · refine iz (iz ?_)
          exact fl 0 (by unfold lb; rw [if_pos h20]) (by omega) _ _ _ _ _ _ _ _ _ _ _ _
        · have h3 := nW_tb _ hlt
          have e : lb B n r o = j := by
            unfold lb
            rw [if_neg (by omega)]
            exact lbr_f _ 0 (by omega) (by omega) c (fun i q1 q2 => d i (by omega) q2)
          exact iz (iz (fl j e.symm (by omega) _ _ _ _ _ _ _ _ _ _ _ _))
        · have h3 := nW_tb _ hlt
          have e : lb B n r o = if tK B n (ps B n r (0 + nW (wOf B n r o) + 1)) = 3 then 9 else 0 + nW (wOf B n r o) + 1 := by
            unfold lb
            rw [if_neg (by omega)]
            exact lbr_t _ 0 (fun j q1 q2 => hk j (by omega) (by omega))
          rw [Nat.zero_add] at e
          have hps := ps_le (B := B) hr
          have htk2 := tk_le (B := B) (hps (nW (wOf B n r o) + 1)).2
          refine oi ⟨fun h4 => ?_, fun h4 => ?_⟩
          · have hK3 := (sI_4 _ htk2.2.2.2.2).mp h4
            rw [if_pos hK3] at e
            rw [if_pos e] at hR
            have hP2 := (wd_cases (B := B) (n := n) (r := r) ho).resolve_left (fun h => by omega)
            refine oi ?_
            refine e_tok (r := ps B n r (nW (wOf B n r o) + 2)) hn (hps _).2 hB hb (fun v w2 _ hw2 => ?_)
            have hfu := fu_ext (w := wOf B n r o) ht
            rw [mkF_ext hfu] at hl ⊢
            refine ih _ _ _ _ _ _ _ _ _ _ _ _ _ (by have h9 : r + 1 ≤ ps B n r (nW (wOf B n r o) + 2) := ps_lt hr hK0 (nW (wOf B n r o) + 1); omega) (hps _).2 hw2 (LP_s hl ?_ ?_) (CB_ln ho ⟨hP2.2.1, hP2.2.2.1⟩ hC) (lD_ext ht) ?_ (FP_k hFP _) hR
            · have := tF_le (B := B) (hps (nW (wOf B n r o) + 2)).2
              have h9 : ps B n r (nW (wOf B n r o) + 2) = tN B n (ps B n r (nW (wOf B n r o) + 1)) := rfl
              omega
            · have := tF_le (B := B) (hps (nW (wOf B n r o) + 2)).2
              omega
            · intro hm
              rw [mkP_ext hfu]
              exact mkP_ir hpl _ hm
          · have hK3 : ¬ tK B n (ps B n r (nW (wOf B n r o) + 1)) = 3 := fun h => h4 ((sI_4 _ htk2.2.2.2.2).mpr h)
            rw [if_neg hK3] at e
            exact iz (fl _ e.symm (by omega) _ _ _ _ _ _ _ _ _ _ _ _)
      refine ⟨fun h2 => line 0 (fun h => absurd ((sI_2 _ htk.2.2.2.2).mpr h) h2) (fun _ => rfl), fun h2 => line wd hw (fun h => absurd ((sI_2 _ htk.2.2.2.2).mp h2) h)⟩
  exact loop (n + 1) r _ _ _ _ _ _ _ _ _ _ _ _ (by omega) hr hw hlp hC ht hpl hFP hR
/-- a text's row at its beginning -/
def ini (o j : Nat) : Int32 := if o = 0 then (if j = 5 then 2 else if j = 6 then 5 else 0) else 0
noncomputable def tx (B : Nat → Int32) (n o : Nat) : Int32 × Int32 × (Nat → Int32) := go B n o (n + 1) 0 0 (-1) (ini o) (-1) (-1)
theorem CB_ini {o : Nat} {t : Nat → Int32} (ho : o ≤ 3) (h : ∀ j, j < 132 → t j = ini o j) : CB o t := by
  unfold CB
  rw [h 0 (by omega), h 1 (by omega), h 4 (by omega)]
  have hoc : o = 0 ∨ o = 1 ∨ o = 2 ∨ o = 3 := by omega
  rcases hoc with rfl | rfl | rfl | rfl
  · exact ⟨iv_lit (by decide), fun _ => ⟨iv_lit (by decide), iv_lit (by decide)⟩⟩
  · exact ⟨iv_lit (by decide), fun h => absurd h (by decide)⟩
  · exact ⟨iv_lit (by decide), fun h => absurd h (by decide)⟩
  · exact ⟨iv_lit (by decide), fun h => absurd h (by decide)⟩
set_option maxRecDepth 20000 in
theorem e_readText {tp B fl fp : Nat → Int32} {n o : Nat} {re be so va wr lf lp fh fs gd : Int32} {wd : Int64} {told rd : Nat → Int32} {post : Int32 → (Nat → Int32) → (Nat → Int32) → Int32 → Int32 → Int32 → Int32 → Int64 → Int32 → Int32 → Int32 → (Nat → Int32) → (Nat → Int32) → Int32 → Int32 → Int32 → Prop} (hn : n ≤ 600) (hB : ∀ j, j < n → tp j = B j) (hb : ∀ j, iv (-128) 127 (B j)) (ho : o ≤ 3)
    (h0 : ¬ (tx B n o).1 = 0 → ∀ (re be so va : Int32) (wd : Int64) (wr lf lp : Int32) (td rd : Nat → Int32) (fh fs gd : Int32), post 0 (upd fl 0 (tx B n o).1) (upd fp 0 (tx B n o).2.1) re be so va wd wr lf lp td rd fh fs gd)
    (h1 : (tx B n o).1 = 0 → ∀ (re be so va : Int32) (wd : Int64) (wr lf lp : Int32) (td rd : Nat → Int32) (fh fs gd : Int32), (∀ j, j < 132 → td j = (tx B n o).2.2 j) → post 1 (upd fl 0 (tx B n o).1) (upd fp 0 (tx B n o).2.1) re be so va wd wr lf lp td rd fh fs gd) : q_m_readText_0 tp fl fp re (nI n) be so va wd wr lf lp told rd fh fs gd (nI o) post := by
  -- behind the row's clearing
  have mid : ∀ t : Nat → Int32, (∀ j, j < 132 → t j = ini o j) → q_m_readText_41 tp fl fp re (nI n) be so va wd wr lf lp t rd fh fs gd (nI o) post := by
    intro t ht
    refine e_tok (r := 0) hn (by omega) hB hb (fun v w _ hw => ?_)
    refine e_lines (R := tx B n o) (pl := -1) (td := ini o) hn hB hb ho (fun p td' hR re be so va wd lf lp td rd fh fs gd => ?_) (fun fa pl lp td told fh fs hC ht hpl hFP hR re va wd wr rd gd => ?_) (by omega) hw (fun h => absurd rfl h) (CB_ini ho ht) ht (fun h => absurd rfl h) ⟨fun _ => rfl, fun h => absurd rfl h⟩ rfl
    · have e1 : (tx B n o).1 = 1 := by rw [hR]
      have e2 : (tx B n o).2.1 = p := by rw [hR]
      have g := h0 (by rw [e1]; decide)
      rw [e1, e2] at g
      refine iz (iz ⟨vp_in_nI (n := 0) (by decide) (by decide), fun f1 ef => zi ⟨vp_in_nI (n := 0) (by decide) (by decide), fun f2 ef2 => ?_⟩⟩)
      rw [c_0] at ef ef2 ⊢
      rw [ef, ef2]
      exact ⟨fun _ => g _ _ _ _ _ _ _ _ _ _ _ _ _, fun h => absurd (by rw [← h]; exact up_s) (by decide : ¬ (0 : Int32) = 1)⟩
    · -- the end: the fault, the place
      have fin : ∀ lf' lp' : Int32, (tx B n o).1 = lf' → (¬ lf' = 0 → (tx B n o).2.1 = lp' ∧ 0 < lf'.toInt) → (lf' = 0 → (tx B n o).2.1 = -1 ∧ ∀ j, j < 132 → told j = (tx B n o).2.2 j) → q_m_readText_121 tp fl fp re (nI n) (nI n) 0 va wd wr lf' lp' told rd fh fs gd 1 post := by
        intro lf' lp' e1 e2 e3
        refine oi ⟨vp_in_nI (n := 0) (by decide) (by decide), fun f1 ef => io ?_⟩
        rw [c_0] at ef
        have e0 : (0 : Int32).toInt = 0 := rfl
        refine ⟨fun hle => ⟨vp_in_nI (n := 0) (by decide) (by decide), fun f2 ef2 => ?_⟩, fun hle => ⟨vp_in_nI (n := 0) (by decide) (by decide), fun f2 ef2 => ?_⟩⟩
        · have hz : lf' = 0 := by
            by_cases h : lf' = 0
            · exact h
            · have := (e2 h).2
              have := r_le hle
              omega
          rw [c_0] at ef2 ⊢
          have g := h1 (e1.trans hz)
          rw [(e3 hz).1, e1] at g
          rw [ef, ef2]
          exact ⟨fun h => absurd (by rw [up_s]; exact hz) h, fun _ => g _ _ _ _ _ _ _ _ _ _ _ _ _ (e3 hz).2⟩
        · have hz : ¬ lf' = 0 := fun h => hle (by rw [h]; decide)
          rw [c_0] at ef2 ⊢
          have g := h0 (by rw [e1]; exact hz)
          rw [(e2 hz).1, e1] at g
          rw [ef, ef2]
          exact ⟨fun _ => g _ _ _ _ _ _ _ _ _ _ _ _ _, fun h => absurd (by rw [up_s] at h; exact h) hz⟩
      have plain : ¬ (fa = 0 ∧ o = 0 ∧ (td 0 ≤ fh ∨ td 1 ≤ fs)) → q_m_readText_121 tp fl fp re (nI n) (nI n) 0 va wd wr fa lp told rd fh fs gd 1 post := by
        intro hc
        have e : tx B n o = (fa, pl, td) := by rw [hR]; unfold fin4; rw [if_neg hc]
        refine fin fa lp (by rw [e]) (fun hz => ⟨by rw [e]; exact (hpl hz).symm, hFP.2 hz⟩) (fun hz => ⟨by rw [e]; exact hFP.1 hz, fun j hj => by rw [e]; exact ht j hj⟩)
      have four : fa = 0 → (fa = 0 ∧ o = 0 ∧ (td 0 ≤ fh ∨ td 1 ≤ fs)) → q_m_readText_112 tp fl fp re (nI n) (nI n) 0 va wd wr fa lp told rd fh fs gd 1 post := by
        intro hz hc
        have e : tx B n o = (4, nI n, td) := by rw [hR]; unfold fin4; rw [if_pos hc]
        exact ⟨fun _ => fin 4 (nI n) (by rw [e]) (fun _ => ⟨by rw [e], by decide⟩) (fun h => absurd h (by decide)), fun h => absurd hz h⟩
      refine oi ⟨fun hx => plain (fun h => hx (by rw [h.2.1]; rfl)), fun hx => ?_⟩
      have ho0 : o = 0 := (nI_eq (a := o) (b := 0) (by omega) (by omega)).mp hx
      refine ⟨fun hz => plain (fun h => hz h.1), fun hz => ?_⟩
      rw [c_0, c_1, ht 0 (by omega), ht 1 (by omega)]
      refine ⟨fun h => four hz ⟨hz, ho0, Or.inl h⟩, fun h => ⟨fun h2 => plain (fun h3 => h3.2.2.elim h (fun h4 => absurd h2 (Int32.not_lt.mpr h4))), fun h2 => four hz ⟨hz, ho0, Or.inr (Int32.not_lt.mp h2)⟩⟩⟩
  intro P hP
  have loop : ∀ m k (t : Nat → Int32), m + k = 132 → (∀ j, j < k → t j = 0) → P (nI k) t := by
    intro m
    induction m with
    | zero =>
      intro k t hk ht
      apply hP
      refine pk_le 132 k (fun _ => ⟨fun hx => mid t (fun j hj => ?_), fun hx t1 e1 t2 e2 => mid t2 (fun j hj => ?_)⟩) (fun h => absurd h (by omega))
      · have ho0 : ¬ o = 0 := fun h => hx (by rw [h]; rfl)
        unfold ini
        rw [if_neg ho0]
        exact ht j (by omega)
      · have ho0 : o = 0 := (nI_eq (a := o) (b := 0) (by omega) (by omega)).mp hx
        unfold ini
        rw [if_pos ho0, e2, e1, show Int32.toNatClampNeg 6 = 6 from rfl, show Int32.toNatClampNeg 5 = 5 from rfl]
        by_cases h6 : j = 6
        · subst h6; rw [up_s]; rfl
        · rw [up_n h6]
          by_cases h5 : j = 5
          · subst h5; rw [up_s]; rfl
          · rw [up_n h5, if_neg h5, if_neg h6]
            exact ht j (by omega)
    | succ m ih =>
      intro k t hk ht
      apply hP
      refine pk_le 132 k (fun h => absurd h (by omega)) (fun _ => ⟨vp_in_nI (by omega) (by omega), fun t1 e1 v e2 => ?_⟩)
      rw [e2, nI_1, e1, nI_clamp (by omega)]
      refine ih (k + 1) _ (by omega) (fun j hj => ?_)
      by_cases hjk : j = k
      · subst hjk; exact up_s
      · rw [up_n hjk]; exact ht j (by omega)
  exact loop 132 0 told (by omega) (fun j hj => absurd hj (by omega))
end
section
theorem e_fill_3 {t : Nat → Int32} {v : Int32} {post : (Nat → Int32) → Prop} (h : ∀ t', (∀ j, j < 9 → t' j = v) → post t') : q_wr_J7_fill_53178_3_0 t v post := by
  intro P hP
  have loop : ∀ m k (t : Nat → Int32), m + k = 9 → (∀ j, j < k → t j = v) → P (nI k) t := by
    intro m
    induction m with
    | zero =>
      intro k t hk ht
      apply hP
      exact pk_le 9 k (fun _ => h t (fun j hj => ht j (by omega))) (fun h9 => absurd h9 (by omega))
    | succ m ih =>
      intro k t hk ht
      apply hP
      refine pk_le 9 k (fun h9 => absurd h9 (by omega)) (fun _ => ⟨vp_in_nI (by omega) (by omega), fun t1 e1 v2 e2 => ?_⟩)
      rw [e2, nI_1, e1, nI_clamp (by omega)]
      refine ih (k + 1) _ (by omega) (fun j hj => ?_)
      by_cases hjk : j = k
      · subst hjk; exact up_s
      · rw [up_n hjk]; exact ht j (by omega)
  exact loop 9 0 t (by omega) (fun j hj => absurd hj (by omega))
theorem e_fill_4 {t : Nat → Int32} {v : Int32} {post : (Nat → Int32) → Prop} (h : ∀ t', (∀ j, j < 81 → t' j = v) → post t') : q_wr_J7_fill_53178_4_0 t v post := by
  intro P hP
  have loop : ∀ m k (t : Nat → Int32), m + k = 81 → (∀ j, j < k → t j = v) → P (nI k) t := by
    intro m
    induction m with
    | zero =>
      intro k t hk ht
      apply hP
      exact pk_le 81 k (fun _ => h t (fun j hj => ht j (by omega))) (fun h9 => absurd h9 (by omega))
    | succ m ih =>
      intro k t hk ht
      apply hP
      refine pk_le 81 k (fun h9 => absurd h9 (by omega)) (fun _ => ⟨vp_in_nI (by omega) (by omega), fun t1 e1 v2 e2 => ?_⟩)
      rw [e2, nI_1, e1, nI_clamp (by omega)]
      refine ih (k + 1) _ (by omega) (fun j hj => ?_)
      by_cases hjk : j = k
      · subst hjk; exact up_s
      · rw [up_n hjk]; exact ht j (by omega)
  exact loop 81 0 t (by omega) (fun j hj => absurd hj (by omega))
theorem e_fill_9 {t : Nat → Int32} {v : Int32} {post : (Nat → Int32) → Prop} (h : ∀ t', (∀ j, j < 6 → t' j = v) → post t') : q_wr_J7_fill_53178_9_0 t v post := by
  intro P hP
  have loop : ∀ m k (t : Nat → Int32), m + k = 6 → (∀ j, j < k → t j = v) → P (nI k) t := by
    intro m
    induction m with
    | zero =>
      intro k t hk ht
      apply hP
      exact pk_le 6 k (fun _ => h t (fun j hj => ht j (by omega))) (fun h9 => absurd h9 (by omega))
    | succ m ih =>
      intro k t hk ht
      apply hP
      refine pk_le 6 k (fun h9 => absurd h9 (by omega)) (fun _ => ⟨vp_in_nI (by omega) (by omega), fun t1 e1 v2 e2 => ?_⟩)
      rw [e2, nI_1, e1, nI_clamp (by omega)]
      refine ih (k + 1) _ (by omega) (fun j hj => ?_)
      by_cases hjk : j = k
      · subst hjk; exact up_s
      · rw [up_n hjk]; exact ht j (by omega)
  exact loop 6 0 t (by omega) (fun j hj => absurd hj (by omega))
set_option maxRecDepth 20000 in
theorem e_clearDraft {lf_huts lf_singers lf_villages lf_dams lf_echoes lf_deep lf_slide vf_deeds sf_facts cf_voices cf_step : Int32} {la_heights la_ladders la_minutes la_echoFrom la_echoTo la_homes la_talls la_known va_kinds va_firsts va_seconds sa_heard sa_huts sa_minutes ca_parts ca_heights : Nat → Int32} {h s : Int32} {o : Nat} {post : (Int32) → (Int32) → (Int32) → (Int32) → (Int32) → (Int32) → (Int32) → (Nat → Int32) → (Nat → Int32) → (Nat → Int32) → (Int32) → (Int32) → (Int32) → (Int32) → Int32 → Int32 → Prop} (ho : o ≤ 3) (hp : ∀ (lf_huts' : Int32) (lf_singers' : Int32) (lf_villages' : Int32) (lf_dams' : Int32) (lf_echoes' : Int32) (lf_deep' : Int32) (lf_slide' : Int32) (la_ladders' : Nat → Int32) (la_minutes' : Nat → Int32) (la_known' : Nat → Int32) (vf_deeds' : Int32) (sf_facts' : Int32) (cf_voices' : Int32) (cf_step' : Int32) (h' s' : Int32), DR o lf_huts' lf_singers' lf_villages' lf_dams' lf_echoes' lf_deep' lf_slide' la_heights la_ladders' la_minutes' la_echoFrom la_echoTo la_homes la_talls la_known' vf_deeds' va_kinds va_firsts va_seconds sf_facts' sa_heard sa_huts sa_minutes cf_voices' cf_step' ca_parts ca_heights h' s' (ini o) (-1) (-1) → post lf_huts' lf_singers' lf_villages' lf_dams' lf_echoes' lf_deep' lf_slide' la_ladders' la_minutes' la_known' vf_deeds' sf_facts' cf_voices' cf_step' h' s') : q_wr_X4_clearDraft_0 lf_huts lf_singers lf_villages lf_dams lf_echoes lf_deep lf_slide la_ladders la_minutes la_known vf_deeds sf_facts cf_voices cf_step h s (nI o) post := by
  have hoc : o = 0 ∨ o = 1 ∨ o = 2 ∨ o = 3 := by omega
  have z0 : ¬ ∃ j, j < (ini 0 0).toNatClampNeg := fun ⟨j, hj⟩ => absurd hj (by decide +revert)
  rcases hoc with rfl | rfl | rfl | rfl
  · refine ⟨fun h9 => absurd rfl h9, fun _ => ?_⟩
    refine e_fill_3 (fun t1 h1 => e_fill_4 (fun t2 h2 => e_fill_9 (fun t3 h3 => ?_)))
    refine hp _ _ _ _ _ _ _ _ _ _ _ _ _ _ _ _ (DR0 ⟨rfl, rfl, rfl, rfl, rfl, rfl, rfl, fun j hj => absurd ⟨j, hj⟩ z0, fun j hj => ?_, fun j hj => ?_, fun j hj => absurd ⟨j, hj⟩ z0, fun j hj => absurd ⟨j, hj⟩ z0, fun j hj => ?_⟩ HB_0 HB_0)
    · rw [h1 j hj]
      show _ = ini 0 (16 + j)
      unfold ini
      rw [if_pos rfl, if_neg (by omega), if_neg (by omega)]
    · rw [h2 j hj]
      show _ = ini 0 (51 + j)
      unfold ini
      rw [if_pos rfl, if_neg (by omega), if_neg (by omega)]
    · rw [h3 j hj]
      show _ = ini 0 (37 + j)
      unfold ini
      rw [if_pos rfl, if_neg (by omega), if_neg (by omega)]
  · exact ⟨fun _ => ⟨fun h9 => absurd rfl h9, fun _ => hp _ _ _ _ _ _ _ _ _ _ _ _ _ _ _ _ (DR1 ⟨rfl, fun j hj => absurd ⟨j, hj⟩ z0⟩)⟩, fun h9 => absurd h9 (by decide)⟩
  · exact ⟨fun _ => ⟨fun _ => ⟨fun h9 => absurd rfl h9, fun _ => hp _ _ _ _ _ _ _ _ _ _ _ _ _ _ _ _ (DR2 ⟨rfl, fun j hj => absurd ⟨j, hj⟩ z0⟩)⟩, fun h9 => absurd h9 (by decide)⟩, fun h9 => absurd h9 (by decide)⟩
  · exact ⟨fun _ => ⟨fun _ => ⟨fun _ => hp _ _ _ _ _ _ _ _ _ _ _ _ _ _ _ _ (DR3 ⟨rfl, rfl, fun j hj => absurd ⟨j, hj⟩ z0⟩), fun h9 => absurd h9 (by decide)⟩, fun h9 => absurd h9 (by decide)⟩, fun h9 => absurd h9 (by decide)⟩
theorem FQ_m {c : Bool} {lf f : Int32} (h : ¬ lf = 1) (hf : ¬ f = 1) : ¬ mF c lf f = 1 := by
  unfold mF
  by_cases hc : c = true
  · rw [if_pos hc]; exact h
  · rw [if_neg hc]
    by_cases hl : lf = 0
    · rw [if_pos hl]; exact hf
    · rw [if_neg hl]; exact h
theorem FQ_k {B : Nat → Int32} {n r w : Nat} {td : Nat → Int32} {fa : Int32} (h : ¬ fa = 1) : ∀ k, ¬ mkF B n r w td fa k = 1
  | 0 => FQ_m h (by decide)
  | k + 1 => FQ_m (FQ_k h k) (by decide)
theorem gd_z {B : Nat → Int32} {n r w : Nat} {td : Nat → Int32} {fa : Int32} : ∀ k, mkF B n r w td fa k = 0 → gd B n r w k = true
  | 0 => fun _ => rfl
  | k + 1 => fun h => by
    have h1 := mF_0 (by decide) h
    show (gd B n r w k && cW w k _ _) = true
    rw [gd_z k h1.2, h1.1]
    rfl
/-- told of what is missing -/
theorem e_missing {huts singers h s : Int32} {td : Nat → Int32} {fh fs : Int32} {post : Int32 → Prop} (hC : CB 0 td) (e0 : huts = td 0) (e1 : singers = td 1) (hh : HB h fh) (hs : HB s fs) (h1 : (td 0 ≤ fh ∨ td 1 ≤ fs) → post 1) (h0 : ¬ (td 0 ≤ fh ∨ td 1 ≤ fs) → post 0) : q_wr_X4_tellsOfMissing_0 huts singers h s post := by
  obtain ⟨p, hp, -, hp2, -⟩ := iv_nI hC.1 (by decide)
  obtain ⟨q, hq, -, hq2, -⟩ := iv_nI (hC.2 rfl).1 (by decide)
  have hp9 : p ≤ 9 := by
    have : ((if 0 = 0 then 9 else if 0 = 1 then 40 else if 0 = 2 then 10 else 9 : Int)) = 9 := rfl
    omega
  have a := hh p hp9
  have b := hs q (by omega)
  rw [e0, e1]
  rw [hp] at h1 h0 ⊢
  rw [hq] at h1 h0 ⊢
  refine ⟨fun c => h1 (Or.inl (Int32.not_lt.mp (fun h9 => c (a.mpr h9)))), fun c => ⟨fun c2 => h0 (fun h9 => h9.elim (fun h8 => absurd (a.mp c) (Int32.not_lt.mpr h8)) (fun h8 => absurd (b.mp c2) (Int32.not_lt.mpr h8))), fun c2 => h1 (Or.inr (Int32.not_lt.mp (fun h9 => c2 (b.mpr h9))))⟩⟩
set_option maxRecDepth 20000 in
theorem e_read {zf B : Nat → Int32} {lf_huts lf_singers lf_villages lf_dams lf_echoes lf_deep lf_slide vf_deeds sf_facts cf_voices cf_step : Int32} {la_heights la_ladders la_minutes la_echoFrom la_echoTo la_homes la_talls la_known va_kinds va_firsts va_seconds sa_heard sa_huts sa_minutes ca_parts ca_heights : Nat → Int32} {fa0 pl0 : Int32} {nums tp0 : Nat → Int32} {ln bh ki fi va h s : Int32} {n o : Nat} {post : (Int32) → (Int32) → (Int32) → (Int32) → (Int32) → (Int32) → (Int32) → (Nat → Int32) → (Nat → Int32) → (Nat → Int32) → (Nat → Int32) → (Nat → Int32) → (Nat → Int32) → (Nat → Int32) → (Nat → Int32) → (Int32) → (Nat → Int32) → (Nat → Int32) → (Nat → Int32) → (Int32) → (Nat → Int32) → (Nat → Int32) → (Nat → Int32) → (Int32) → (Int32) → (Nat → Int32) → (Nat → Int32) → Int32 → Int32 → (Nat → Int32) → (Nat → Int32) → Int32 → Int32 → Int32 → Int32 → Int32 → Int32 → Int32 → Prop} (hn : n ≤ 600) (ho : o ≤ 3) (hz : ∀ j, iv (-128) 127 (zf j)) (hB : ∀ j, j < n → zf j = B j) (hp : ∀ (lf_huts' : Int32) (lf_singers' : Int32) (lf_villages' : Int32) (lf_dams' : Int32) (lf_echoes' : Int32) (lf_deep' : Int32) (lf_slide' : Int32) (la_heights' : Nat → Int32) (la_ladders' : Nat → Int32) (la_minutes' : Nat → Int32) (la_echoFrom' : Nat → Int32) (la_echoTo' : Nat → Int32) (la_homes' : Nat → Int32) (la_talls' : Nat → Int32) (la_known' : Nat → Int32) (vf_deeds' : Int32) (va_kinds' : Nat → Int32) (va_firsts' : Nat → Int32) (va_seconds' : Nat → Int32) (sf_facts' : Int32) (sa_heard' : Nat → Int32) (sa_huts' : Nat → Int32) (sa_minutes' : Nat → Int32) (cf_voices' : Int32) (cf_step' : Int32) (ca_parts' : Nat → Int32) (ca_heights' : Nat → Int32) (nums' tp' : Nat → Int32) (ln' bh' ki' fi' va' h' s' : Int32), ((tx B n o).1 = 0 → (∃ fh fs, DR o lf_huts' lf_singers' lf_villages' lf_dams' lf_echoes' lf_deep' lf_slide' la_heights' la_ladders' la_minutes' la_echoFrom' la_echoTo' la_homes' la_talls' la_known' vf_deeds' va_kinds' va_firsts' va_seconds' sf_facts' sa_heard' sa_huts' sa_minutes' cf_voices' cf_step' ca_parts' ca_heights' h' s' (tx B n o).2.2 fh fs) ∧ CB o (tx B n o).2.2) → post lf_huts' lf_singers' lf_villages' lf_dams' lf_echoes' lf_deep' lf_slide' la_heights' la_ladders' la_minutes' la_echoFrom' la_echoTo' la_homes' la_talls' la_known' vf_deeds' va_kinds' va_firsts' va_seconds' sf_facts' sa_heard' sa_huts' sa_minutes' cf_voices' cf_step' ca_parts' ca_heights' (tx B n o).1 (tx B n o).2.1 nums' tp' ln' bh' ki' fi' va' h' s') : q_wr_X4_read_23_0 lf_huts lf_singers lf_villages lf_dams lf_echoes lf_deep lf_slide la_heights la_ladders la_minutes la_echoFrom la_echoTo la_homes la_talls la_known vf_deeds va_kinds va_firsts va_seconds sf_facts sa_heard sa_huts sa_minutes cf_voices cf_step ca_parts ca_heights fa0 pl0 nums tp0 ln bh ki fi va h s zf (nI n) (nI o) post := by
  have c0 : Int32.toNatClampNeg (0 : Int32) + Int32.toNatClampNeg (nI n) ≤ 600 := by rw [c_0, nI_clamp (by omega)]; omega
  refine ⟨nI_pos (by omega), c0, c0, fun i _ => iv_fitB (hz _), fun tp et => ?_⟩
  have hT : ∀ j, j < n → tp j = B j := by
    intro j hj
    rw [et, c_0, nI_clamp (by omega), pk_cpy_in (by omega) (by omega), Nat.zero_add, Nat.sub_zero]
    exact hB j hj
  refine e_clearDraft (la_heights := la_heights) (la_echoFrom := la_echoFrom) (la_echoTo := la_echoTo) (la_homes := la_homes) (la_talls := la_talls) (va_kinds := va_kinds) (va_firsts := va_firsts) (va_seconds := va_seconds) (sa_heard := sa_heard) (sa_huts := sa_huts) (sa_minutes := sa_minutes) (ca_parts := ca_parts) (ca_heights := ca_heights) ho (fun lf_huts' lf_singers' lf_villages' lf_dams' lf_echoes' lf_deep' lf_slide' la_ladders' la_minutes' la_known' vf_deeds' sf_facts' cf_voices' cf_step' h1 s1 hD => ?_)
  refine e_adv (r := 0) hn (by omega) hT (fun v1 hv1 => ?_)
  -- the end
  have fin : ∀ (lf_huts' : Int32) (lf_singers' : Int32) (lf_villages' : Int32) (lf_dams' : Int32) (lf_echoes' : Int32) (lf_deep' : Int32) (lf_slide' : Int32) (la_heights' : Nat → Int32) (la_ladders' : Nat → Int32) (la_minutes' : Nat → Int32) (la_echoFrom' : Nat → Int32) (la_echoTo' : Nat → Int32) (la_homes' : Nat → Int32) (la_talls' : Nat → Int32) (la_known' : Nat → Int32) (vf_deeds' : Int32) (va_kinds' : Nat → Int32) (va_firsts' : Nat → Int32) (va_seconds' : Nat → Int32) (sf_facts' : Int32) (sa_heard' : Nat → Int32) (sa_huts' : Nat → Int32) (sa_minutes' : Nat → Int32) (cf_voices' : Int32) (cf_step' : Int32) (ca_parts' : Nat → Int32) (ca_heights' : Nat → Int32) (fa pl : Int32) (nums' : Nat → Int32) (bh' ki' fi' va' h' s' : Int32), ((tx B n o = (1, pl, (tx B n o).2.2) ∧ fa = 1) ∨ ∃ td fh fs, CB o td ∧ (fa = 0 → DR o lf_huts' lf_singers' lf_villages' lf_dams' lf_echoes' lf_deep' lf_slide' la_heights' la_ladders' la_minutes' la_echoFrom' la_echoTo' la_homes' la_talls' la_known' vf_deeds' va_kinds' va_firsts' va_seconds' sf_facts' sa_heard' sa_huts' sa_minutes' cf_voices' cf_step' ca_parts' ca_heights' h' s' td fh fs) ∧ tx B n o = fin4 o n fa pl td fh fs) → q_wr_X4_read_23_78 lf_huts' lf_singers' lf_villages' lf_dams' lf_echoes' lf_deep' lf_slide' la_heights' la_ladders' la_minutes' la_echoFrom' la_echoTo' la_homes' la_talls' la_known' vf_deeds' va_kinds' va_firsts' va_seconds' sf_facts' sa_heard' sa_huts' sa_minutes' cf_voices' cf_step' ca_parts' ca_heights' fa pl nums' tp (nI n) bh' ki' fi' va' h' s' zf (nI o) post := by
    intro lf_huts' lf_singers' lf_villages' lf_dams' lf_echoes' lf_deep' lf_slide' la_heights' la_ladders' la_minutes' la_echoFrom' la_echoTo' la_homes' la_talls' la_known' vf_deeds' va_kinds' va_firsts' va_seconds' sf_facts' sa_heard' sa_huts' sa_minutes' cf_voices' cf_step' ca_parts' ca_heights' fa pl nums' bh' ki' fi' va' h' s' hc
    rcases hc with ⟨hR, hf⟩ | ⟨td, fh, fs, hC, hD, hR⟩
    · subst hf
      have e1 : (tx B n o).1 = 1 := by rw [hR]
      have e2 : (tx B n o).2.1 = pl := by rw [hR]
      have g := hp lf_huts' lf_singers' lf_villages' lf_dams' lf_echoes' lf_deep' lf_slide' la_heights' la_ladders' la_minutes' la_echoFrom' la_echoTo' la_homes' la_talls' la_known' vf_deeds' va_kinds' va_firsts' va_seconds' sf_facts' sa_heard' sa_huts' sa_minutes' cf_voices' cf_step' ca_parts' ca_heights' nums' tp (nI n) bh' ki' fi' va' h' s' (fun h9 => absurd (e1.symm.trans h9) (by decide))
      rw [e1, e2] at g
      exact ⟨fun _ => g, fun h9 => absurd h9 (by decide)⟩
    · have plain : ¬ (fa = 0 ∧ o = 0 ∧ (td 0 ≤ fh ∨ td 1 ≤ fs)) → post lf_huts' lf_singers' lf_villages' lf_dams' lf_echoes' lf_deep' lf_slide' la_heights' la_ladders' la_minutes' la_echoFrom' la_echoTo' la_homes' la_talls' la_known' vf_deeds' va_kinds' va_firsts' va_seconds' sf_facts' sa_heard' sa_huts' sa_minutes' cf_voices' cf_step' ca_parts' ca_heights' fa pl nums' tp (nI n) bh' ki' fi' va' h' s' := by
        intro hcc
        have e : tx B n o = (fa, pl, td) := by rw [hR]; unfold fin4; rw [if_neg hcc]
        have g := hp lf_huts' lf_singers' lf_villages' lf_dams' lf_echoes' lf_deep' lf_slide' la_heights' la_ladders' la_minutes' la_echoFrom' la_echoTo' la_homes' la_talls' la_known' vf_deeds' va_kinds' va_firsts' va_seconds' sf_facts' sa_heard' sa_huts' sa_minutes' cf_voices' cf_step' ca_parts' ca_heights' nums' tp (nI n) bh' ki' fi' va' h' s' (fun h9 => by
          rw [e] at h9 ⊢
          exact ⟨⟨fh, fs, hD h9⟩, hC⟩)
        rw [e] at g
        exact g
      refine ⟨fun hz => plain (fun h9 => hz h9.1), fun hz => ⟨fun hx => plain (fun h9 => hx (by rw [h9.2.1]; rfl)), fun hx => ?_⟩⟩
      have ho0 : o = 0 := (nI_eq (a := o) (b := 0) (by omega) (by omega)).mp hx
      subst ho0
      obtain ⟨hL, hh, hs⟩ := (hD hz).1 rfl
      refine e_missing hC hL.1 hL.2.1 hh hs (fun hm => oi ?_) (fun hm => iz (plain (fun h9 => hm h9.2.2)))
      have e : tx B n 0 = (4, nI n, td) := by rw [hR]; unfold fin4; rw [if_pos ⟨hz, rfl, hm⟩]
      have g := hp lf_huts' lf_singers' lf_villages' lf_dams' lf_echoes' lf_deep' lf_slide' la_heights' la_ladders' la_minutes' la_echoFrom' la_echoTo' la_homes' la_talls' la_known' vf_deeds' va_kinds' va_firsts' va_seconds' sf_facts' sa_heard' sa_huts' sa_minutes' cf_voices' cf_step' ca_parts' ca_heights' nums' tp (nI n) bh' ki' fi' va' h' s' (fun h9 => by
        rw [e] at h9
        exact absurd h9 (show ¬ (4 : Int32) = 0 by decide))
      rw [e] at g
      exact ⟨fun h9 => absurd hz h9, fun _ => g⟩
  intro P hP
  have bad : ∀ i (lf_huts' : Int32) (lf_singers' : Int32) (lf_villages' : Int32) (lf_dams' : Int32) (lf_echoes' : Int32) (lf_deep' : Int32) (lf_slide' : Int32) (la_heights' : Nat → Int32) (la_ladders' : Nat → Int32) (la_minutes' : Nat → Int32) (la_echoFrom' : Nat → Int32) (la_echoTo' : Nat → Int32) (la_homes' : Nat → Int32) (la_talls' : Nat → Int32) (la_known' : Nat → Int32) (vf_deeds' : Int32) (va_kinds' : Nat → Int32) (va_firsts' : Nat → Int32) (va_seconds' : Nat → Int32) (sf_facts' : Int32) (sa_heard' : Nat → Int32) (sa_huts' : Nat → Int32) (sa_minutes' : Nat → Int32) (cf_voices' : Int32) (cf_step' : Int32) (ca_parts' : Nat → Int32) (ca_heights' : Nat → Int32) (pl : Int32) (nums' : Nat → Int32) (bh' ki' fi' va' h' s' : Int32), tx B n o = (1, pl, (tx B n o).2.2) → P i lf_huts' lf_singers' lf_villages' lf_dams' lf_echoes' lf_deep' lf_slide' la_heights' la_ladders' la_minutes' la_echoFrom' la_echoTo' la_homes' la_talls' la_known' vf_deeds' va_kinds' va_firsts' va_seconds' sf_facts' sa_heard' sa_huts' sa_minutes' cf_voices' cf_step' ca_parts' ca_heights' 1 pl nums' bh' ki' fi' va' h' s' := by
    intro i lf_huts' lf_singers' lf_villages' lf_dams' lf_echoes' lf_deep' lf_slide' la_heights' la_ladders' la_minutes' la_echoFrom' la_echoTo' la_homes' la_talls' la_known' vf_deeds' va_kinds' va_firsts' va_seconds' sf_facts' sa_heard' sa_huts' sa_minutes' cf_voices' cf_step' ca_parts' ca_heights' pl nums' bh' ki' fi' va' h' s' hR
    apply hP
    have f := fin lf_huts' lf_singers' lf_villages' lf_dams' lf_echoes' lf_deep' lf_slide' la_heights' la_ladders' la_minutes' la_echoFrom' la_echoTo' la_homes' la_talls' la_known' vf_deeds' va_kinds' va_firsts' va_seconds' sf_facts' sa_heard' sa_huts' sa_minutes' cf_voices' cf_step' ca_parts' ca_heights' 1 pl nums' bh' ki' fi' va' h' s' (Or.inl ⟨hR, rfl⟩)
    exact ⟨fun _ => f, fun _ => ⟨fun _ => f, fun _ => ⟨fun _ => f, fun h9 => absurd rfl h9⟩⟩⟩
  have loop : ∀ m r i (lf_huts' : Int32) (lf_singers' : Int32) (lf_villages' : Int32) (lf_dams' : Int32) (lf_echoes' : Int32) (lf_deep' : Int32) (lf_slide' : Int32) (la_heights' : Nat → Int32) (la_ladders' : Nat → Int32) (la_minutes' : Nat → Int32) (la_echoFrom' : Nat → Int32) (la_echoTo' : Nat → Int32) (la_homes' : Nat → Int32) (la_talls' : Nat → Int32) (la_known' : Nat → Int32) (vf_deeds' : Int32) (va_kinds' : Nat → Int32) (va_firsts' : Nat → Int32) (va_seconds' : Nat → Int32) (sf_facts' : Int32) (sa_heard' : Nat → Int32) (sa_huts' : Nat → Int32) (sa_minutes' : Nat → Int32) (cf_voices' : Int32) (cf_step' : Int32) (ca_parts' : Nat → Int32) (ca_heights' : Nat → Int32) (fa pl : Int32) (nums' : Nat → Int32) (va' h' s' : Int32) (td : Nat → Int32) (fh fs : Int32), n + 1 ≤ m + r → r ≤ n → i ≤ r → ¬ fa = 1 → CB o td → (tK B n r = 2 → va' = tV B n r) → (fa = 0 → DR o lf_huts' lf_singers' lf_villages' lf_dams' lf_echoes' lf_deep' lf_slide' la_heights' la_ladders' la_minutes' la_echoFrom' la_echoTo' la_homes' la_talls' la_known' vf_deeds' va_kinds' va_firsts' va_seconds' sf_facts' sa_heard' sa_huts' sa_minutes' cf_voices' cf_step' ca_parts' ca_heights' h' s' td fh fs) → tx B n o = go B n o m r fa pl td fh fs → P (nI i) lf_huts' lf_singers' lf_villages' lf_dams' lf_echoes' lf_deep' lf_slide' la_heights' la_ladders' la_minutes' la_echoFrom' la_echoTo' la_homes' la_talls' la_known' vf_deeds' va_kinds' va_firsts' va_seconds' sf_facts' sa_heard' sa_huts' sa_minutes' cf_voices' cf_step' ca_parts' ca_heights' fa pl nums' (nI (tN B n r)) (nI (tK B n r)) (nI (tF B n r)) va' h' s' := by
    intro m
    induction m with
    | zero => intro r i lf_huts' lf_singers' lf_villages' lf_dams' lf_echoes' lf_deep' lf_slide' la_heights' la_ladders' la_minutes' la_echoFrom' la_echoTo' la_homes' la_talls' la_known' vf_deeds' va_kinds' va_firsts' va_seconds' sf_facts' sa_heard' sa_huts' sa_minutes' cf_voices' cf_step' ca_parts' ca_heights' fa pl nums' va' h' s' td fh fs h1 h2; omega
    | succ m ih =>
      intro r i lf_huts' lf_singers' lf_villages' lf_dams' lf_echoes' lf_deep' lf_slide' la_heights' la_ladders' la_minutes' la_echoFrom' la_echoTo' la_homes' la_talls' la_known' vf_deeds' va_kinds' va_firsts' va_seconds' sf_facts' sa_heard' sa_huts' sa_minutes' cf_voices' cf_step' ca_parts' ca_heights' fa pl nums' va' h' s' td fh fs hm hr hi hf1 hC hv hD hR
      have htk := tk_le (B := B) hr
      have htF := tF_le (B := B) hr
      apply hP
      have endd : tK B n r = 0 → q_wr_X4_read_23_78 lf_huts' lf_singers' lf_villages' lf_dams' lf_echoes' lf_deep' lf_slide' la_heights' la_ladders' la_minutes' la_echoFrom' la_echoTo' la_homes' la_talls' la_known' vf_deeds' va_kinds' va_firsts' va_seconds' sf_facts' sa_heard' sa_huts' sa_minutes' cf_voices' cf_step' ca_parts' ca_heights' fa pl nums' tp (nI n) (nI (tN B n r)) (nI (tK B n r)) (nI (tF B n r)) va' h' s' zf (nI o) post := by
        intro hk
        rw [go, if_pos hk] at hR
        exact fin _ _ _ _ _ _ _ _ _ _ _ _ _ _ _ _ _ _ _ _ _ _ _ _ _ _ _ fa pl _ _ _ _ _ _ _ (Or.inr ⟨td, fh, fs, hC, hD, hR⟩)
      refine pk_le n i (fun h9 => endd ?_) (fun _ => pk_eq (tK B n r) 0 endd (fun hk => ⟨fun h9 => absurd h9 hf1, fun _ => ?_⟩))
      · by_cases hk : tK B n r = 0
        · exact hk
        · have := htk.2.2.1 hk
          omega
      · rw [go, if_neg hk] at hR
        refine e_readLine hn hr ho hT hv hC hD (fun hl lf_huts2 lf_singers2 lf_villages2 lf_dams2 lf_echoes2 lf_deep2 lf_slide2 la_heights2 la_ladders2 la_minutes2 la_echoFrom2 la_echoTo2 la_homes2 la_talls2 la_known2 vf_deeds2 va_kinds2 va_firsts2 va_seconds2 sf_facts2 sa_heard2 sa_huts2 sa_minutes2 cf_voices2 cf_step2 ca_parts2 ca_heights2 nums2 b2 k2 f2 va2 h2 s2 v e => ?_) (fun hl lf_huts2 lf_singers2 lf_villages2 lf_dams2 lf_echoes2 lf_deep2 lf_slide2 la_heights2 la_ladders2 la_minutes2 la_echoFrom2 la_echoTo2 la_homes2 la_talls2 la_known2 vf_deeds2 va_kinds2 va_firsts2 va_seconds2 sf_facts2 sa_heard2 sa_huts2 sa_minutes2 cf_voices2 cf_step2 ca_parts2 ca_heights2 nums2 va2 h2 s2 hD2 hv2 v e => ?_)
        · rw [if_neg hl] at hR
          exact bad _ _ _ _ _ _ _ _ _ _ _ _ _ _ _ _ _ _ _ _ _ _ _ _ _ _ _ _ _ _ _ _ _ _ _ _ (by rw [hR])
        · rw [if_pos hl] at hR
          have hlt : wOf B n r o < 20 := by
            rcases wd_cases (B := B) (n := n) (r := r) ho with h20 | h20
            · exfalso
              unfold lb at hl
              rw [if_pos h20.1] at hl
              omega
            · exact h20.1
          have hP2 := (wd_cases (B := B) (n := n) (r := r) ho).resolve_left (fun h => by omega)
          have hps := ps_le (B := B) hr (nW (wOf B n r o) + 2)
          have hpl : r + 1 ≤ ps B n r (nW (wOf B n r o) + 2) := ps_lt hr hk (nW (wOf B n r o) + 1)
          rw [e, nI_1]
          refine ih _ (i + 1) _ _ _ _ _ _ _ _ _ _ _ _ _ _ _ _ _ _ _ _ _ _ _ _ _ _ _ _ _ _ _ _ _ _ _ _ (by omega) hps.2 (by omega) (FQ_k hf1 _) (CB_ln ho ⟨hP2.2.1, hP2.2.2.1⟩ hC) hv2 (fun h9 => ?_) hR
          rw [gd_z _ h9]
          exact hD2 h9
  exact loop (n + 1) 0 0 _ _ _ _ _ _ _ _ _ _ _ _ _ _ _ _ _ _ _ _ _ _ _ _ _ _ _ 0 (-1) _ _ _ _ (ini o) (-1) (-1) (by omega) (by omega) (by omega) (by decide) (CB_ini ho (fun _ _ => rfl)) hv1 (fun _ => hD) rfl
end
section
def TL (k : Nat) (T : TT) (td : Nat → Int32) : Prop := if k = 0 then LDR (T.1 3) (T.1 4) (T.1 5) (T.1 6) (T.1 7) (T.1 8) (T.1 9) (T.2 2) (T.2 3) (T.2 4) (T.2 5) (T.2 6) (T.2 7) (T.2 8) (T.2 9) td else LDR (T.1 10) (T.1 11) (T.1 12) (T.1 13) (T.1 14) (T.1 15) (T.1 16) (T.2 10) (T.2 11) (T.2 12) (T.2 13) (T.2 14) (T.2 15) (T.2 16) (T.2 17) td
def TV (k : Nat) (T : TT) (td : Nat → Int32) : Prop := if k = 0 then R3 (T.1 17) (T.2 18) (T.2 19) (T.2 20) td else R3 (T.1 18) (T.2 21) (T.2 22) (T.2 23) td
def TSi (k : Nat) (T : TT) (td : Nat → Int32) : Prop := if k = 0 then R3 (T.1 19) (T.2 24) (T.2 25) (T.2 26) td else R3 (T.1 20) (T.2 27) (T.2 28) (T.2 29) td
def TC (k : Nat) (T : TT) (td : Nat → Int32) : Prop := if k = 0 then CDR (T.1 21) (T.1 22) (T.2 30) (T.2 31) td else CDR (T.1 23) (T.1 24) (T.2 32) (T.2 33) td
def SL (o k : Nat) (T : TT) (td : Nat → Int32) : Prop := if o = 0 then TL k T td else if o = 1 then TV k T td else if o = 2 then TSi k T td else TC k T td
def slS (o k i : Nat) : Bool := if o = 0 then (if k = 0 then i == 3 || i == 4 || i == 5 || i == 6 || i == 7 || i == 8 || i == 9 else i == 10 || i == 11 || i == 12 || i == 13 || i == 14 || i == 15 || i == 16) else if o = 1 then (if k = 0 then i == 17 else i == 18) else if o = 2 then (if k = 0 then i == 19 else i == 20) else (if k = 0 then i == 21 || i == 22 else i == 23 || i == 24)
def slA (o k i : Nat) : Bool := if o = 0 then (if k = 0 then i == 2 || i == 3 || i == 4 || i == 5 || i == 6 || i == 7 || i == 8 || i == 9 else i == 10 || i == 11 || i == 12 || i == 13 || i == 14 || i == 15 || i == 16 || i == 17) else if o = 1 then (if k = 0 then i == 18 || i == 19 || i == 20 else i == 21 || i == 22 || i == 23) else if o = 2 then (if k = 0 then i == 24 || i == 25 || i == 26 else i == 27 || i == 28 || i == 29) else (if k = 0 then i == 30 || i == 31 else i == 32 || i == 33)
def wD (o : Nat) : Nat := [132, 121, 31, 20].getD o 0
/-- a slot is the same where its comps are -/
theorem SL_same {o k : Nat} {T T' : TT} {td : Nat → Int32} (ho : o < 4) (hk : k < 2) (h1 : ∀ i, i < 25 → slS o k i = true → T'.1 i = T.1 i) (h2 : ∀ i, i < 34 → slA o k i = true → T'.2 i = T.2 i) (h : SL o k T td) : SL o k T' td := by
  have hoc : o = 0 ∨ o = 1 ∨ o = 2 ∨ o = 3 := by omega
  have hkc : k = 0 ∨ k = 1 := by omega
  rcases hoc with rfl | rfl | rfl | rfl <;> rcases hkc with rfl | rfl
  · show LDR (T'.1 3) (T'.1 4) (T'.1 5) (T'.1 6) (T'.1 7) (T'.1 8) (T'.1 9) (T'.2 2) (T'.2 3) (T'.2 4) (T'.2 5) (T'.2 6) (T'.2 7) (T'.2 8) (T'.2 9) td
    rw [h1 3 (by decide) (by decide), h1 4 (by decide) (by decide), h1 5 (by decide) (by decide), h1 6 (by decide) (by decide), h1 7 (by decide) (by decide), h1 8 (by decide) (by decide), h1 9 (by decide) (by decide), h2 2 (by decide) (by decide), h2 3 (by decide) (by decide), h2 4 (by decide) (by decide), h2 5 (by decide) (by decide), h2 6 (by decide) (by decide), h2 7 (by decide) (by decide), h2 8 (by decide) (by decide), h2 9 (by decide) (by decide)]
    exact h
  · show LDR (T'.1 10) (T'.1 11) (T'.1 12) (T'.1 13) (T'.1 14) (T'.1 15) (T'.1 16) (T'.2 10) (T'.2 11) (T'.2 12) (T'.2 13) (T'.2 14) (T'.2 15) (T'.2 16) (T'.2 17) td
    rw [h1 10 (by decide) (by decide), h1 11 (by decide) (by decide), h1 12 (by decide) (by decide), h1 13 (by decide) (by decide), h1 14 (by decide) (by decide), h1 15 (by decide) (by decide), h1 16 (by decide) (by decide), h2 10 (by decide) (by decide), h2 11 (by decide) (by decide), h2 12 (by decide) (by decide), h2 13 (by decide) (by decide), h2 14 (by decide) (by decide), h2 15 (by decide) (by decide), h2 16 (by decide) (by decide), h2 17 (by decide) (by decide)]
    exact h
  · show R3 (T'.1 17) (T'.2 18) (T'.2 19) (T'.2 20) td
    rw [h1 17 (by decide) (by decide), h2 18 (by decide) (by decide), h2 19 (by decide) (by decide), h2 20 (by decide) (by decide)]
    exact h
  · show R3 (T'.1 18) (T'.2 21) (T'.2 22) (T'.2 23) td
    rw [h1 18 (by decide) (by decide), h2 21 (by decide) (by decide), h2 22 (by decide) (by decide), h2 23 (by decide) (by decide)]
    exact h
  · show R3 (T'.1 19) (T'.2 24) (T'.2 25) (T'.2 26) td
    rw [h1 19 (by decide) (by decide), h2 24 (by decide) (by decide), h2 25 (by decide) (by decide), h2 26 (by decide) (by decide)]
    exact h
  · show R3 (T'.1 20) (T'.2 27) (T'.2 28) (T'.2 29) td
    rw [h1 20 (by decide) (by decide), h2 27 (by decide) (by decide), h2 28 (by decide) (by decide), h2 29 (by decide) (by decide)]
    exact h
  · show CDR (T'.1 21) (T'.1 22) (T'.2 30) (T'.2 31) td
    rw [h1 21 (by decide) (by decide), h1 22 (by decide) (by decide), h2 30 (by decide) (by decide), h2 31 (by decide) (by decide)]
    exact h
  · show CDR (T'.1 23) (T'.1 24) (T'.2 32) (T'.2 33) td
    rw [h1 23 (by decide) (by decide), h1 24 (by decide) (by decide), h2 32 (by decide) (by decide), h2 33 (by decide) (by decide)]
    exact h
theorem cl_le {x : Int32} {h : Int} {m : Nat} (hx : iv 0 h x) (hm : h ≤ m) : x.toNatClampNeg ≤ m := by
  have e : x.toNatClampNeg = x.toInt.toNat := rfl
  have := hx.2
  omega
theorem LDR_cp {huts singers villages dams echoes deep slide : Int32} {heights ladders minutes echoFrom echoTo homes talls known heights2 ladders2 minutes2 echoFrom2 echoTo2 homes2 talls2 known2 td : Nat → Int32} (h : LDR huts singers villages dams echoes deep slide heights ladders minutes echoFrom echoTo homes talls known td) (b0 : (td 0).toNatClampNeg ≤ 9) (b1 : (td 1).toNatClampNeg ≤ 6) (b4 : (td 4).toNatClampNeg ≤ 4) (c_heights : ∀ j, j < 9 → heights2 j = heights j) (c_ladders : ∀ j, j < 9 → ladders2 j = ladders j) (c_minutes : ∀ j, j < 81 → minutes2 j = minutes j) (c_echoFrom : ∀ j, j < 4 → echoFrom2 j = echoFrom j) (c_echoTo : ∀ j, j < 4 → echoTo2 j = echoTo j) (c_homes : ∀ j, j < 6 → homes2 j = homes j) (c_talls : ∀ j, j < 6 → talls2 j = talls j) (c_known : ∀ j, j < 6 → known2 j = known j) : LDR huts singers villages dams echoes deep slide heights2 ladders2 minutes2 echoFrom2 echoTo2 homes2 talls2 known2 td := by
  obtain ⟨e0, e1, e2, e3, e4, e5, e6, f1, f2, f3, f4, f5, f6⟩ := h
  exact ⟨e0, e1, e2, e3, e4, e5, e6, fun j hj => (c_heights j (by omega)).trans (f1 j hj), fun j hj => (c_ladders j hj).trans (f2 j hj), fun j hj => (c_minutes j hj).trans (f3 j hj), fun j hj => ⟨(c_echoFrom j (by omega)).trans (f4 j hj).1, (c_echoTo j (by omega)).trans (f4 j hj).2⟩, fun j hj => ⟨(c_homes j (by omega)).trans (f5 j hj).1, (c_talls j (by omega)).trans (f5 j hj).2⟩, fun j hj => (c_known j hj).trans (f6 j hj)⟩
theorem R3_cp {c : Int32} {a b d a2 b2 d2 td : Nat → Int32} (h : R3 c a b d td) (ha : ∀ j, j < c.toNatClampNeg → a2 j = a j) (hb : ∀ j, j < c.toNatClampNeg → b2 j = b j) (hd : ∀ j, j < c.toNatClampNeg → d2 j = d j) : R3 c a2 b2 d2 td := by
  refine ⟨h.1, fun j hj => ?_⟩
  have hj2 : j < c.toNatClampNeg := by rw [h.1]; exact hj
  exact ⟨(ha j hj2).trans (h.2 j hj).1, (hb j hj2).trans (h.2 j hj).2.1, (hd j hj2).trans (h.2 j hj).2.2⟩
theorem CDR_cp {c st : Int32} {a b a2 b2 td : Nat → Int32} (h : CDR c st a b td) (ha : ∀ j, j < c.toNatClampNeg → a2 j = a j) (hb : ∀ j, j < c.toNatClampNeg → b2 j = b j) : CDR c st a2 b2 td := by
  refine ⟨h.1, h.2.1, fun j hj => ?_⟩
  have hj2 : j < c.toNatClampNeg := by rw [h.1]; exact hj
  exact ⟨(ha j hj2).trans (h.2.2 j hj).1, (hb j hj2).trans (h.2.2 j hj).2⟩
theorem cpy0 {f g t : Nat → Int32} {n : Nat} {x : Int32} (e : t = va_cpy f g (Int32.toNatClampNeg 0) (Int32.toNatClampNeg 0) (Int32.toNatClampNeg x)) (hx : Int32.toNatClampNeg x = n) : ∀ j, j < n → t j = f j := by
  intro j hj
  rw [e, c_0, hx, pk_cpy_in (by omega) (by omega), Nat.zero_add, Nat.sub_zero]
theorem e_ll {f_huts f_singers f_villages f_dams f_echoes f_deep f_slide : Int32} {a_heights a_ladders a_minutes a_echoFrom a_echoTo a_homes a_talls a_known : Nat → Int32} {of_huts of_singers of_villages of_dams of_echoes of_deep of_slide : Int32} {oa_heights oa_ladders oa_minutes oa_echoFrom oa_echoTo oa_homes oa_talls oa_known : Nat → Int32} {post : (Int32) → (Int32) → (Int32) → (Int32) → (Int32) → (Int32) → (Int32) → (Nat → Int32) → (Nat → Int32) → (Nat → Int32) → (Nat → Int32) → (Nat → Int32) → (Nat → Int32) → (Nat → Int32) → (Nat → Int32) → Prop} (hp : ∀ (na_heights : Nat → Int32) (na_ladders : Nat → Int32) (na_minutes : Nat → Int32) (na_echoFrom : Nat → Int32) (na_echoTo : Nat → Int32) (na_homes : Nat → Int32) (na_talls : Nat → Int32) (na_known : Nat → Int32), (∀ j, j < 9 → na_heights j = oa_heights j) → (∀ j, j < 9 → na_ladders j = oa_ladders j) → (∀ j, j < 81 → na_minutes j = oa_minutes j) → (∀ j, j < 4 → na_echoFrom j = oa_echoFrom j) → (∀ j, j < 4 → na_echoTo j = oa_echoTo j) → (∀ j, j < 6 → na_homes j = oa_homes j) → (∀ j, j < 6 → na_talls j = oa_talls j) → (∀ j, j < 6 → na_known j = oa_known j) → post of_huts of_singers of_villages of_dams of_echoes of_deep of_slide na_heights na_ladders na_minutes na_echoFrom na_echoTo na_homes na_talls na_known) : q_wll_X2_copyFrom_9_0 f_huts f_singers f_villages f_dams f_echoes f_deep f_slide a_heights a_ladders a_minutes a_echoFrom a_echoTo a_homes a_talls a_known of_huts of_singers of_villages of_dams of_echoes of_deep of_slide oa_heights oa_ladders oa_minutes oa_echoFrom oa_echoTo oa_homes oa_talls oa_known post := by
  intro t_heights e_heights t_ladders e_ladders t_minutes e_minutes t_echoFrom e_echoFrom t_echoTo e_echoTo t_homes e_homes t_talls e_talls t_known e_known
  exact hp t_heights t_ladders t_minutes t_echoFrom t_echoTo t_homes t_talls t_known (cpy0 e_heights rfl) (cpy0 e_ladders rfl) (cpy0 e_minutes rfl) (cpy0 e_echoFrom rfl) (cpy0 e_echoTo rfl) (cpy0 e_homes rfl) (cpy0 e_talls rfl) (cpy0 e_known rfl)
theorem e_vv {f_deeds : Int32} {a_kinds a_firsts a_seconds : Nat → Int32} {of_deeds : Int32} {oa_kinds oa_firsts oa_seconds : Nat → Int32} {post : (Int32) → (Nat → Int32) → (Nat → Int32) → (Nat → Int32) → Prop} (hc : iv 0 40 of_deeds) (hp : ∀ (na_kinds : Nat → Int32) (na_firsts : Nat → Int32) (na_seconds : Nat → Int32), (∀ j, j < of_deeds.toNatClampNeg → na_kinds j = oa_kinds j) → (∀ j, j < of_deeds.toNatClampNeg → na_firsts j = oa_firsts j) → (∀ j, j < of_deeds.toNatClampNeg → na_seconds j = oa_seconds j) → post of_deeds na_kinds na_firsts na_seconds) : q_wvv_X1_copyFrom_4_0 f_deeds a_kinds a_firsts a_seconds of_deeds oa_kinds oa_firsts oa_seconds post := by
  have h0 : ¬ of_deeds < 0 := iv_nn hc (by decide)
  have h1 : Int32.toNatClampNeg (0 : Int32) + Int32.toNatClampNeg of_deeds ≤ 40 := by rw [c_0, Nat.zero_add]; exact cl_le hc (by decide)
  exact ⟨h0, h1, h1, fun t0 e0 => ⟨h0, h1, h1, fun t1 e1 => ⟨h0, h1, h1, fun t2 e2 => hp t0 t1 t2 (cpy0 e0 rfl) (cpy0 e1 rfl) (cpy0 e2 rfl)⟩⟩⟩
theorem e_ss {f_facts : Int32} {a_heard a_huts a_minutes : Nat → Int32} {of_facts : Int32} {oa_heard oa_huts oa_minutes : Nat → Int32} {post : (Int32) → (Nat → Int32) → (Nat → Int32) → (Nat → Int32) → Prop} (hc : iv 0 10 of_facts) (hp : ∀ (na_heard : Nat → Int32) (na_huts : Nat → Int32) (na_minutes : Nat → Int32), (∀ j, j < of_facts.toNatClampNeg → na_heard j = oa_heard j) → (∀ j, j < of_facts.toNatClampNeg → na_huts j = oa_huts j) → (∀ j, j < of_facts.toNatClampNeg → na_minutes j = oa_minutes j) → post of_facts na_heard na_huts na_minutes) : q_wss_X6_copyFrom_4_0 f_facts a_heard a_huts a_minutes of_facts oa_heard oa_huts oa_minutes post := by
  have h0 : ¬ of_facts < 0 := iv_nn hc (by decide)
  have h1 : Int32.toNatClampNeg (0 : Int32) + Int32.toNatClampNeg of_facts ≤ 10 := by rw [c_0, Nat.zero_add]; exact cl_le hc (by decide)
  exact ⟨h0, h1, h1, fun t0 e0 => ⟨h0, h1, h1, fun t1 e1 => ⟨h0, h1, h1, fun t2 e2 => hp t0 t1 t2 (cpy0 e0 rfl) (cpy0 e1 rfl) (cpy0 e2 rfl)⟩⟩⟩
theorem e_cc {f_voices f_step : Int32} {a_parts a_heights : Nat → Int32} {of_voices of_step : Int32} {oa_parts oa_heights : Nat → Int32} {post : (Int32) → (Int32) → (Nat → Int32) → (Nat → Int32) → Prop} (hc : iv 0 9 of_voices) (hp : ∀ (na_parts : Nat → Int32) (na_heights : Nat → Int32), (∀ j, j < of_voices.toNatClampNeg → na_parts j = oa_parts j) → (∀ j, j < of_voices.toNatClampNeg → na_heights j = oa_heights j) → post of_voices of_step na_parts na_heights) : q_wcc_X0_copyFrom_3_0 f_voices f_step a_parts a_heights of_voices of_step oa_parts oa_heights post := by
  have h0 : ¬ of_voices < 0 := iv_nn hc (by decide)
  have h1 : Int32.toNatClampNeg (0 : Int32) + Int32.toNatClampNeg of_voices ≤ 9 := by rw [c_0, Nat.zero_add]; exact cl_le hc (by decide)
  exact ⟨h0, h1, h1, fun t0 e0 => ⟨h0, h1, h1, fun t1 e1 => hp t0 t1 (cpy0 e0 rfl) (cpy0 e1 rfl)⟩⟩
end
section
/-- which number a text gets -/
def NUM (cnt a : Int32) (k : Nat) : Prop := (a = -1 ∧ cnt = nI k) ∨ (¬ a = -1 ∧ a = nI k ∧ nI k < cnt)
def nB (B : Nat → Int32) (n j : Nat) : Int32 := if j < n then B j else 0
def cmx (c : Int32) (k : Nat) : Int32 := if c < nI k + 1 then nI k + 1 else c
noncomputable def TXr (T : TT) (o : Nat) : Int32 × Int32 × (Nat → Int32) := tx (nB (T.2 0) (T.1 0).toNatClampNeg) (T.1 0).toNatClampNeg o
def sameT (T T' : TT) : Prop := (∀ i, 3 ≤ i → i < 25 → T'.1 i = T.1 i) ∧ (∀ i, 2 ≤ i → i < 34 → T'.2 i = T.2 i)
def sameB (o k : Nat) (T T' : TT) : Prop := (∀ i, 3 ≤ i → i < 25 → ¬ slS o k i = true → T'.1 i = T.1 i) ∧ (∀ i, 2 ≤ i → i < 34 → ¬ slA o k i = true → T'.2 i = T.2 i)
def xTX (T T' : TT) (a1 a2 r : Int32) : Prop := T'.1 0 = 0 ∧ T'.2 0 = T.2 0 ∧
  ((¬ ∃ o k, o < 4 ∧ k < 2 ∧ a1 = nI o ∧ NUM (T.2 1 o) a2 k) → r = -2 ∧ T'.1 1 = 0 ∧ T'.1 2 = -1 ∧ T'.2 1 = T.2 1 ∧ sameT T T') ∧
  (∀ o k, o < 4 → k < 2 → a1 = nI o → NUM (T.2 1 o) a2 k → T'.1 1 = (TXr T o).1 ∧ T'.1 2 = (TXr T o).2.1 ∧ (¬ (TXr T o).1 = 0 → r = -1 ∧ T'.2 1 = T.2 1 ∧ sameT T T') ∧ ((TXr T o).1 = 0 → r = nI k ∧ T'.2 1 = upd (T.2 1) o (cmx (T.2 1 o) k) ∧ SL o k T' (TXr T o).2.2 ∧ sameB o k T T'))
theorem NUM_un {c a : Int32} {k k' : Nat} (hk : k < 2) (hk' : k' < 2) (h : NUM c a k) (h' : NUM c a k') : k = k' := by
  rcases h with ⟨h1, h2⟩ | ⟨h1, h2, h3⟩ <;> rcases h' with ⟨g1, g2⟩ | ⟨g1, g2, g3⟩
  · exact (nI_eq (by omega) (by omega)).mp (h2.symm.trans g2)
  · exact absurd h1 g1
  · exact absurd g1 h1
  · exact (nI_eq (by omega) (by omega)).mp (h2.symm.trans g2)
theorem e_numberFor {cn : Nat → Int32} {x1 x2 : Int32} {post : Int32 → Prop} (hc : ∀ j, iv 0 2 (cn j)) (h0 : (¬ ∃ o k, o < 4 ∧ k < 2 ∧ x1 = nI o ∧ NUM (cn o) x2 k) → post (-2)) (h1 : ∀ o k, o < 4 → k < 2 → x1 = nI o → NUM (cn o) x2 k → post (nI k)) : q_wx_X10_numberFor_0 cn x1 x2 post := by
  refine ⟨fun h => h0 ?_, fun h => ⟨fun h4 => ?_, fun h4 => h0 ?_⟩⟩
  · rintro ⟨o, k, ho, _, e, _⟩
    rw [e] at h
    exact absurd h (nI_pos (by omega))
  · obtain ⟨o, ho, e⟩ := nI_of2 (M := 3) (n := 3) (by decide) h (by rw [Int32.le_iff_toInt_le]; have := r_lt h4; have e3 : (3 : Int32).toInt = 3 := rfl; have e4 : (4 : Int32).toInt = 4 := rfl; omega)
    subst e
    refine ⟨vp_in_nI (by omega) (by omega), fun v ev => ?_⟩
    rw [nI_clamp (by omega)] at ev
    obtain ⟨c, hcv, -, hc2, -⟩ := iv_nI (hc o) (by decide)
    rw [hcv] at ev
    subst ev
    have no : ∀ {q : Prop}, (∀ k, k < 2 → ¬ NUM (cn o) x2 k) → (¬ ∃ o' k, o' < 4 ∧ k < 2 ∧ nI o = nI o' ∧ NUM (cn o') x2 k) := by
      rintro - hno ⟨o', k, ho', hk, e, hN⟩
      have : o = o' := (nI_eq (by omega) (by omega)).mp e
      subst this
      exact hno k hk hN
    refine ⟨fun hx => ⟨fun hn => h0 (no (q := True) ?_), fun hn => ⟨fun hl => h0 (no (q := True) ?_), fun hl => ?_⟩⟩, fun hx => ⟨fun h2 => h0 (no (q := True) ?_), fun h2 => ?_⟩⟩
    · rintro k hk (⟨q1, _⟩ | ⟨_, q2, _⟩)
      · exact hx q1
      · rw [q2] at hn; exact absurd hn (nI_pos (by omega))
    · rintro k hk (⟨q1, _⟩ | ⟨_, q2, q3⟩)
      · exact hx q1
      · rw [q2] at hl
        rw [hcv] at q3
        exact absurd q3 (Int32.not_lt.mpr hl)
    · obtain ⟨k, hk, ek⟩ := nI_of2 (M := 1) (n := 1) (x := x2) (by decide) hn (by
        rw [Int32.le_iff_toInt_le]
        have := r_nle hl
        rw [nI_toInt (by omega)] at this
        have e1 : (1 : Int32).toInt = 1 := rfl
        omega)
      have g := h1 o k (by omega) (by omega) rfl (Or.inr ⟨hx, ek, by rw [hcv, ← ek]; exact Int32.not_le.mp hl⟩)
      rw [← ek] at g
      exact g
    · rintro k hk (⟨_, q2⟩ | ⟨q1, _, _⟩)
      · rw [hcv] at q2
        rw [q2] at h2
        have := (nI_leI (a := 2) (b := k) (by omega) (by omega)).mp h2
        omega
      · exact q1 hx
    · have hlt : c < 2 := by
        by_cases h9 : c < 2
        · exact h9
        · exact absurd (nI_le (a := 2) (b := c) (by omega) (by omega)) h2
      exact h1 o c (by omega) hlt rfl (Or.inl ⟨hx, hcv⟩)
  · rintro ⟨o, k, ho, _, e, _⟩
    rw [e] at h4
    exact absurd (nI_lt (a := o) (b := 4) ho (by omega)) h4
theorem cs_S {i : Nat} (h1 : 3 ≤ i) (h2 : i < 25) : i = 3 ∨ i = 4 ∨ i = 5 ∨ i = 6 ∨ i = 7 ∨ i = 8 ∨ i = 9 ∨ i = 10 ∨ i = 11 ∨ i = 12 ∨ i = 13 ∨ i = 14 ∨ i = 15 ∨ i = 16 ∨ i = 17 ∨ i = 18 ∨ i = 19 ∨ i = 20 ∨ i = 21 ∨ i = 22 ∨ i = 23 ∨ i = 24 := by omega
theorem cs_A {i : Nat} (h1 : 2 ≤ i) (h2 : i < 34) : i = 2 ∨ i = 3 ∨ i = 4 ∨ i = 5 ∨ i = 6 ∨ i = 7 ∨ i = 8 ∨ i = 9 ∨ i = 10 ∨ i = 11 ∨ i = 12 ∨ i = 13 ∨ i = 14 ∨ i = 15 ∨ i = 16 ∨ i = 17 ∨ i = 18 ∨ i = 19 ∨ i = 20 ∨ i = 21 ∨ i = 22 ∨ i = 23 ∨ i = 24 ∨ i = 25 ∨ i = 26 ∨ i = 27 ∨ i = 28 ∨ i = 29 ∨ i = 30 ∨ i = 31 ∨ i = 32 ∨ i = 33 := by omega
set_option maxRecDepth 40000 in
set_option maxHeartbeats 4000000 in
theorem same_all {T : TT} {len fault place : Int32} {cnt : Nat → Int32} : sameT T (tmk (T.2 0) len fault place cnt (T.1 3) (T.1 4) (T.1 5) (T.1 6) (T.1 7) (T.1 8) (T.1 9) (T.2 2) (T.2 3) (T.2 4) (T.2 5) (T.2 6) (T.2 7) (T.2 8) (T.2 9) (T.1 10) (T.1 11) (T.1 12) (T.1 13) (T.1 14) (T.1 15) (T.1 16) (T.2 10) (T.2 11) (T.2 12) (T.2 13) (T.2 14) (T.2 15) (T.2 16) (T.2 17) (T.1 17) (T.2 18) (T.2 19) (T.2 20) (T.1 18) (T.2 21) (T.2 22) (T.2 23) (T.1 19) (T.2 24) (T.2 25) (T.2 26) (T.1 20) (T.2 27) (T.2 28) (T.2 29) (T.1 21) (T.1 22) (T.2 30) (T.2 31) (T.1 23) (T.1 24) (T.2 32) (T.2 33)) := by
  refine ⟨fun i h1 h2 => ?_, fun i h1 h2 => ?_⟩
  · rcases cs_S h1 h2 with rfl | rfl | rfl | rfl | rfl | rfl | rfl | rfl | rfl | rfl | rfl | rfl | rfl | rfl | rfl | rfl | rfl | rfl | rfl | rfl | rfl | rfl <;> rfl
  · rcases cs_A h1 h2 with rfl | rfl | rfl | rfl | rfl | rfl | rfl | rfl | rfl | rfl | rfl | rfl | rfl | rfl | rfl | rfl | rfl | rfl | rfl | rfl | rfl | rfl | rfl | rfl | rfl | rfl | rfl | rfl | rfl | rfl | rfl | rfl <;> rfl
set_option maxRecDepth 40000 in
set_option maxHeartbeats 4000000 in
theorem same_00 {T : TT} {len fault place : Int32} {cnt : Nat → Int32} {nl0f_huts nl0f_singers nl0f_villages nl0f_dams nl0f_echoes nl0f_deep nl0f_slide : Int32} {nl0a_heights nl0a_ladders nl0a_minutes nl0a_echoFrom nl0a_echoTo nl0a_homes nl0a_talls nl0a_known : Nat → Int32} : sameB 0 0 T (tmk (T.2 0) len fault place cnt nl0f_huts nl0f_singers nl0f_villages nl0f_dams nl0f_echoes nl0f_deep nl0f_slide nl0a_heights nl0a_ladders nl0a_minutes nl0a_echoFrom nl0a_echoTo nl0a_homes nl0a_talls nl0a_known (T.1 10) (T.1 11) (T.1 12) (T.1 13) (T.1 14) (T.1 15) (T.1 16) (T.2 10) (T.2 11) (T.2 12) (T.2 13) (T.2 14) (T.2 15) (T.2 16) (T.2 17) (T.1 17) (T.2 18) (T.2 19) (T.2 20) (T.1 18) (T.2 21) (T.2 22) (T.2 23) (T.1 19) (T.2 24) (T.2 25) (T.2 26) (T.1 20) (T.2 27) (T.2 28) (T.2 29) (T.1 21) (T.1 22) (T.2 30) (T.2 31) (T.1 23) (T.1 24) (T.2 32) (T.2 33)) := by
  refine ⟨fun i h1 h2 h3 => ?_, fun i h1 h2 h3 => ?_⟩
  · rcases cs_S h1 h2 with rfl | rfl | rfl | rfl | rfl | rfl | rfl | rfl | rfl | rfl | rfl | rfl | rfl | rfl | rfl | rfl | rfl | rfl | rfl | rfl | rfl | rfl <;> first | rfl | exact absurd rfl h3
  · rcases cs_A h1 h2 with rfl | rfl | rfl | rfl | rfl | rfl | rfl | rfl | rfl | rfl | rfl | rfl | rfl | rfl | rfl | rfl | rfl | rfl | rfl | rfl | rfl | rfl | rfl | rfl | rfl | rfl | rfl | rfl | rfl | rfl | rfl | rfl <;> first | rfl | exact absurd rfl h3
set_option maxRecDepth 40000 in
set_option maxHeartbeats 4000000 in
theorem same_01 {T : TT} {len fault place : Int32} {cnt : Nat → Int32} {nl1f_huts nl1f_singers nl1f_villages nl1f_dams nl1f_echoes nl1f_deep nl1f_slide : Int32} {nl1a_heights nl1a_ladders nl1a_minutes nl1a_echoFrom nl1a_echoTo nl1a_homes nl1a_talls nl1a_known : Nat → Int32} : sameB 0 1 T (tmk (T.2 0) len fault place cnt (T.1 3) (T.1 4) (T.1 5) (T.1 6) (T.1 7) (T.1 8) (T.1 9) (T.2 2) (T.2 3) (T.2 4) (T.2 5) (T.2 6) (T.2 7) (T.2 8) (T.2 9) nl1f_huts nl1f_singers nl1f_villages nl1f_dams nl1f_echoes nl1f_deep nl1f_slide nl1a_heights nl1a_ladders nl1a_minutes nl1a_echoFrom nl1a_echoTo nl1a_homes nl1a_talls nl1a_known (T.1 17) (T.2 18) (T.2 19) (T.2 20) (T.1 18) (T.2 21) (T.2 22) (T.2 23) (T.1 19) (T.2 24) (T.2 25) (T.2 26) (T.1 20) (T.2 27) (T.2 28) (T.2 29) (T.1 21) (T.1 22) (T.2 30) (T.2 31) (T.1 23) (T.1 24) (T.2 32) (T.2 33)) := by
  refine ⟨fun i h1 h2 h3 => ?_, fun i h1 h2 h3 => ?_⟩
  · rcases cs_S h1 h2 with rfl | rfl | rfl | rfl | rfl | rfl | rfl | rfl | rfl | rfl | rfl | rfl | rfl | rfl | rfl | rfl | rfl | rfl | rfl | rfl | rfl | rfl <;> first | rfl | exact absurd rfl h3
  · rcases cs_A h1 h2 with rfl | rfl | rfl | rfl | rfl | rfl | rfl | rfl | rfl | rfl | rfl | rfl | rfl | rfl | rfl | rfl | rfl | rfl | rfl | rfl | rfl | rfl | rfl | rfl | rfl | rfl | rfl | rfl | rfl | rfl | rfl | rfl <;> first | rfl | exact absurd rfl h3
set_option maxRecDepth 40000 in
set_option maxHeartbeats 4000000 in
theorem same_10 {T : TT} {len fault place : Int32} {cnt : Nat → Int32} {nv0f_deeds : Int32} {nv0a_kinds nv0a_firsts nv0a_seconds : Nat → Int32} : sameB 1 0 T (tmk (T.2 0) len fault place cnt (T.1 3) (T.1 4) (T.1 5) (T.1 6) (T.1 7) (T.1 8) (T.1 9) (T.2 2) (T.2 3) (T.2 4) (T.2 5) (T.2 6) (T.2 7) (T.2 8) (T.2 9) (T.1 10) (T.1 11) (T.1 12) (T.1 13) (T.1 14) (T.1 15) (T.1 16) (T.2 10) (T.2 11) (T.2 12) (T.2 13) (T.2 14) (T.2 15) (T.2 16) (T.2 17) nv0f_deeds nv0a_kinds nv0a_firsts nv0a_seconds (T.1 18) (T.2 21) (T.2 22) (T.2 23) (T.1 19) (T.2 24) (T.2 25) (T.2 26) (T.1 20) (T.2 27) (T.2 28) (T.2 29) (T.1 21) (T.1 22) (T.2 30) (T.2 31) (T.1 23) (T.1 24) (T.2 32) (T.2 33)) := by
  refine ⟨fun i h1 h2 h3 => ?_, fun i h1 h2 h3 => ?_⟩
  · rcases cs_S h1 h2 with rfl | rfl | rfl | rfl | rfl | rfl | rfl | rfl | rfl | rfl | rfl | rfl | rfl | rfl | rfl | rfl | rfl | rfl | rfl | rfl | rfl | rfl <;> first | rfl | exact absurd rfl h3
  · rcases cs_A h1 h2 with rfl | rfl | rfl | rfl | rfl | rfl | rfl | rfl | rfl | rfl | rfl | rfl | rfl | rfl | rfl | rfl | rfl | rfl | rfl | rfl | rfl | rfl | rfl | rfl | rfl | rfl | rfl | rfl | rfl | rfl | rfl | rfl <;> first | rfl | exact absurd rfl h3
set_option maxRecDepth 40000 in
set_option maxHeartbeats 4000000 in
theorem same_11 {T : TT} {len fault place : Int32} {cnt : Nat → Int32} {nv1f_deeds : Int32} {nv1a_kinds nv1a_firsts nv1a_seconds : Nat → Int32} : sameB 1 1 T (tmk (T.2 0) len fault place cnt (T.1 3) (T.1 4) (T.1 5) (T.1 6) (T.1 7) (T.1 8) (T.1 9) (T.2 2) (T.2 3) (T.2 4) (T.2 5) (T.2 6) (T.2 7) (T.2 8) (T.2 9) (T.1 10) (T.1 11) (T.1 12) (T.1 13) (T.1 14) (T.1 15) (T.1 16) (T.2 10) (T.2 11) (T.2 12) (T.2 13) (T.2 14) (T.2 15) (T.2 16) (T.2 17) (T.1 17) (T.2 18) (T.2 19) (T.2 20) nv1f_deeds nv1a_kinds nv1a_firsts nv1a_seconds (T.1 19) (T.2 24) (T.2 25) (T.2 26) (T.1 20) (T.2 27) (T.2 28) (T.2 29) (T.1 21) (T.1 22) (T.2 30) (T.2 31) (T.1 23) (T.1 24) (T.2 32) (T.2 33)) := by
  refine ⟨fun i h1 h2 h3 => ?_, fun i h1 h2 h3 => ?_⟩
  · rcases cs_S h1 h2 with rfl | rfl | rfl | rfl | rfl | rfl | rfl | rfl | rfl | rfl | rfl | rfl | rfl | rfl | rfl | rfl | rfl | rfl | rfl | rfl | rfl | rfl <;> first | rfl | exact absurd rfl h3
  · rcases cs_A h1 h2 with rfl | rfl | rfl | rfl | rfl | rfl | rfl | rfl | rfl | rfl | rfl | rfl | rfl | rfl | rfl | rfl | rfl | rfl | rfl | rfl | rfl | rfl | rfl | rfl | rfl | rfl | rfl | rfl | rfl | rfl | rfl | rfl <;> first | rfl | exact absurd rfl h3
set_option maxRecDepth 40000 in
set_option maxHeartbeats 4000000 in
theorem same_20 {T : TT} {len fault place : Int32} {cnt : Nat → Int32} {ns0f_facts : Int32} {ns0a_heard ns0a_huts ns0a_minutes : Nat → Int32} : sameB 2 0 T (tmk (T.2 0) len fault place cnt (T.1 3) (T.1 4) (T.1 5) (T.1 6) (T.1 7) (T.1 8) (T.1 9) (T.2 2) (T.2 3) (T.2 4) (T.2 5) (T.2 6) (T.2 7) (T.2 8) (T.2 9) (T.1 10) (T.1 11) (T.1 12) (T.1 13) (T.1 14) (T.1 15) (T.1 16) (T.2 10) (T.2 11) (T.2 12) (T.2 13) (T.2 14) (T.2 15) (T.2 16) (T.2 17) (T.1 17) (T.2 18) (T.2 19) (T.2 20) (T.1 18) (T.2 21) (T.2 22) (T.2 23) ns0f_facts ns0a_heard ns0a_huts ns0a_minutes (T.1 20) (T.2 27) (T.2 28) (T.2 29) (T.1 21) (T.1 22) (T.2 30) (T.2 31) (T.1 23) (T.1 24) (T.2 32) (T.2 33)) := by
  refine ⟨fun i h1 h2 h3 => ?_, fun i h1 h2 h3 => ?_⟩
  · rcases cs_S h1 h2 with rfl | rfl | rfl | rfl | rfl | rfl | rfl | rfl | rfl | rfl | rfl | rfl | rfl | rfl | rfl | rfl | rfl | rfl | rfl | rfl | rfl | rfl <;> first | rfl | exact absurd rfl h3
  · rcases cs_A h1 h2 with rfl | rfl | rfl | rfl | rfl | rfl | rfl | rfl | rfl | rfl | rfl | rfl | rfl | rfl | rfl | rfl | rfl | rfl | rfl | rfl | rfl | rfl | rfl | rfl | rfl | rfl | rfl | rfl | rfl | rfl | rfl | rfl <;> first | rfl | exact absurd rfl h3
set_option maxRecDepth 40000 in
set_option maxHeartbeats 4000000 in
theorem same_21 {T : TT} {len fault place : Int32} {cnt : Nat → Int32} {ns1f_facts : Int32} {ns1a_heard ns1a_huts ns1a_minutes : Nat → Int32} : sameB 2 1 T (tmk (T.2 0) len fault place cnt (T.1 3) (T.1 4) (T.1 5) (T.1 6) (T.1 7) (T.1 8) (T.1 9) (T.2 2) (T.2 3) (T.2 4) (T.2 5) (T.2 6) (T.2 7) (T.2 8) (T.2 9) (T.1 10) (T.1 11) (T.1 12) (T.1 13) (T.1 14) (T.1 15) (T.1 16) (T.2 10) (T.2 11) (T.2 12) (T.2 13) (T.2 14) (T.2 15) (T.2 16) (T.2 17) (T.1 17) (T.2 18) (T.2 19) (T.2 20) (T.1 18) (T.2 21) (T.2 22) (T.2 23) (T.1 19) (T.2 24) (T.2 25) (T.2 26) ns1f_facts ns1a_heard ns1a_huts ns1a_minutes (T.1 21) (T.1 22) (T.2 30) (T.2 31) (T.1 23) (T.1 24) (T.2 32) (T.2 33)) := by
  refine ⟨fun i h1 h2 h3 => ?_, fun i h1 h2 h3 => ?_⟩
  · rcases cs_S h1 h2 with rfl | rfl | rfl | rfl | rfl | rfl | rfl | rfl | rfl | rfl | rfl | rfl | rfl | rfl | rfl | rfl | rfl | rfl | rfl | rfl | rfl | rfl <;> first | rfl | exact absurd rfl h3
  · rcases cs_A h1 h2 with rfl | rfl | rfl | rfl | rfl | rfl | rfl | rfl | rfl | rfl | rfl | rfl | rfl | rfl | rfl | rfl | rfl | rfl | rfl | rfl | rfl | rfl | rfl | rfl | rfl | rfl | rfl | rfl | rfl | rfl | rfl | rfl <;> first | rfl | exact absurd rfl h3
set_option maxRecDepth 40000 in
set_option maxHeartbeats 4000000 in
theorem same_30 {T : TT} {len fault place : Int32} {cnt : Nat → Int32} {nc0f_voices nc0f_step : Int32} {nc0a_parts nc0a_heights : Nat → Int32} : sameB 3 0 T (tmk (T.2 0) len fault place cnt (T.1 3) (T.1 4) (T.1 5) (T.1 6) (T.1 7) (T.1 8) (T.1 9) (T.2 2) (T.2 3) (T.2 4) (T.2 5) (T.2 6) (T.2 7) (T.2 8) (T.2 9) (T.1 10) (T.1 11) (T.1 12) (T.1 13) (T.1 14) (T.1 15) (T.1 16) (T.2 10) (T.2 11) (T.2 12) (T.2 13) (T.2 14) (T.2 15) (T.2 16) (T.2 17) (T.1 17) (T.2 18) (T.2 19) (T.2 20) (T.1 18) (T.2 21) (T.2 22) (T.2 23) (T.1 19) (T.2 24) (T.2 25) (T.2 26) (T.1 20) (T.2 27) (T.2 28) (T.2 29) nc0f_voices nc0f_step nc0a_parts nc0a_heights (T.1 23) (T.1 24) (T.2 32) (T.2 33)) := by
  refine ⟨fun i h1 h2 h3 => ?_, fun i h1 h2 h3 => ?_⟩
  · rcases cs_S h1 h2 with rfl | rfl | rfl | rfl | rfl | rfl | rfl | rfl | rfl | rfl | rfl | rfl | rfl | rfl | rfl | rfl | rfl | rfl | rfl | rfl | rfl | rfl <;> first | rfl | exact absurd rfl h3
  · rcases cs_A h1 h2 with rfl | rfl | rfl | rfl | rfl | rfl | rfl | rfl | rfl | rfl | rfl | rfl | rfl | rfl | rfl | rfl | rfl | rfl | rfl | rfl | rfl | rfl | rfl | rfl | rfl | rfl | rfl | rfl | rfl | rfl | rfl | rfl <;> first | rfl | exact absurd rfl h3
set_option maxRecDepth 40000 in
set_option maxHeartbeats 4000000 in
theorem same_31 {T : TT} {len fault place : Int32} {cnt : Nat → Int32} {nc1f_voices nc1f_step : Int32} {nc1a_parts nc1a_heights : Nat → Int32} : sameB 3 1 T (tmk (T.2 0) len fault place cnt (T.1 3) (T.1 4) (T.1 5) (T.1 6) (T.1 7) (T.1 8) (T.1 9) (T.2 2) (T.2 3) (T.2 4) (T.2 5) (T.2 6) (T.2 7) (T.2 8) (T.2 9) (T.1 10) (T.1 11) (T.1 12) (T.1 13) (T.1 14) (T.1 15) (T.1 16) (T.2 10) (T.2 11) (T.2 12) (T.2 13) (T.2 14) (T.2 15) (T.2 16) (T.2 17) (T.1 17) (T.2 18) (T.2 19) (T.2 20) (T.1 18) (T.2 21) (T.2 22) (T.2 23) (T.1 19) (T.2 24) (T.2 25) (T.2 26) (T.1 20) (T.2 27) (T.2 28) (T.2 29) (T.1 21) (T.1 22) (T.2 30) (T.2 31) nc1f_voices nc1f_step nc1a_parts nc1a_heights) := by
  refine ⟨fun i h1 h2 h3 => ?_, fun i h1 h2 h3 => ?_⟩
  · rcases cs_S h1 h2 with rfl | rfl | rfl | rfl | rfl | rfl | rfl | rfl | rfl | rfl | rfl | rfl | rfl | rfl | rfl | rfl | rfl | rfl | rfl | rfl | rfl | rfl <;> first | rfl | exact absurd rfl h3
  · rcases cs_A h1 h2 with rfl | rfl | rfl | rfl | rfl | rfl | rfl | rfl | rfl | rfl | rfl | rfl | rfl | rfl | rfl | rfl | rfl | rfl | rfl | rfl | rfl | rfl | rfl | rfl | rfl | rfl | rfl | rfl | rfl | rfl | rfl | rfl <;> first | rfl | exact absurd rfl h3
set_option maxRecDepth 40000 in
set_option maxHeartbeats 4000000 in
theorem e_keep_00 {T : TT} {rlf_huts rlf_singers rlf_villages rlf_dams rlf_echoes rlf_deep rlf_slide rvf_deeds rsf_facts rcf_voices rcf_step : Int32} {rla_heights rla_ladders rla_minutes rla_echoFrom rla_echoTo rla_homes rla_talls rla_known rva_kinds rva_firsts rva_seconds rsa_heard rsa_huts rsa_minutes rca_parts rca_heights : Nat → Int32} {td : Nat → Int32} {len fault place : Int32} {post : (Nat → Int32) → (Int32) → (Int32) → (Int32) → (Int32) → (Int32) → (Int32) → (Int32) → (Nat → Int32) → (Nat → Int32) → (Nat → Int32) → (Nat → Int32) → (Nat → Int32) → (Nat → Int32) → (Nat → Int32) → (Nat → Int32) → (Int32) → (Int32) → (Int32) → (Int32) → (Int32) → (Int32) → (Int32) → (Nat → Int32) → (Nat → Int32) → (Nat → Int32) → (Nat → Int32) → (Nat → Int32) → (Nat → Int32) → (Nat → Int32) → (Nat → Int32) → (Int32) → (Nat → Int32) → (Nat → Int32) → (Nat → Int32) → (Int32) → (Nat → Int32) → (Nat → Int32) → (Nat → Int32) → (Int32) → (Nat → Int32) → (Nat → Int32) → (Nat → Int32) → (Int32) → (Nat → Int32) → (Nat → Int32) → (Nat → Int32) → (Int32) → (Int32) → (Nat → Int32) → (Nat → Int32) → (Int32) → (Int32) → (Nat → Int32) → (Nat → Int32) → Prop} (hC : CB 0 td) (hR : LDR rlf_huts rlf_singers rlf_villages rlf_dams rlf_echoes rlf_deep rlf_slide rla_heights rla_ladders rla_minutes rla_echoFrom rla_echoTo rla_homes rla_talls rla_known td) (hp : ∀ (nl0f_huts : Int32) (nl0f_singers : Int32) (nl0f_villages : Int32) (nl0f_dams : Int32) (nl0f_echoes : Int32) (nl0f_deep : Int32) (nl0f_slide : Int32) (nl0a_heights : Nat → Int32) (nl0a_ladders : Nat → Int32) (nl0a_minutes : Nat → Int32) (nl0a_echoFrom : Nat → Int32) (nl0a_echoTo : Nat → Int32) (nl0a_homes : Nat → Int32) (nl0a_talls : Nat → Int32) (nl0a_known : Nat → Int32), SL 0 0 (tmk (T.2 0) len fault place (upd (T.2 1) 0 (cmx (T.2 1 0) 0)) nl0f_huts nl0f_singers nl0f_villages nl0f_dams nl0f_echoes nl0f_deep nl0f_slide nl0a_heights nl0a_ladders nl0a_minutes nl0a_echoFrom nl0a_echoTo nl0a_homes nl0a_talls nl0a_known (T.1 10) (T.1 11) (T.1 12) (T.1 13) (T.1 14) (T.1 15) (T.1 16) (T.2 10) (T.2 11) (T.2 12) (T.2 13) (T.2 14) (T.2 15) (T.2 16) (T.2 17) (T.1 17) (T.2 18) (T.2 19) (T.2 20) (T.1 18) (T.2 21) (T.2 22) (T.2 23) (T.1 19) (T.2 24) (T.2 25) (T.2 26) (T.1 20) (T.2 27) (T.2 28) (T.2 29) (T.1 21) (T.1 22) (T.2 30) (T.2 31) (T.1 23) (T.1 24) (T.2 32) (T.2 33)) td → sameB 0 0 T (tmk (T.2 0) len fault place (upd (T.2 1) 0 (cmx (T.2 1 0) 0)) nl0f_huts nl0f_singers nl0f_villages nl0f_dams nl0f_echoes nl0f_deep nl0f_slide nl0a_heights nl0a_ladders nl0a_minutes nl0a_echoFrom nl0a_echoTo nl0a_homes nl0a_talls nl0a_known (T.1 10) (T.1 11) (T.1 12) (T.1 13) (T.1 14) (T.1 15) (T.1 16) (T.2 10) (T.2 11) (T.2 12) (T.2 13) (T.2 14) (T.2 15) (T.2 16) (T.2 17) (T.1 17) (T.2 18) (T.2 19) (T.2 20) (T.1 18) (T.2 21) (T.2 22) (T.2 23) (T.1 19) (T.2 24) (T.2 25) (T.2 26) (T.1 20) (T.2 27) (T.2 28) (T.2 29) (T.1 21) (T.1 22) (T.2 30) (T.2 31) (T.1 23) (T.1 24) (T.2 32) (T.2 33)) → post (upd (T.2 1) 0 (cmx (T.2 1 0) 0)) nl0f_huts nl0f_singers nl0f_villages nl0f_dams nl0f_echoes nl0f_deep nl0f_slide nl0a_heights nl0a_ladders nl0a_minutes nl0a_echoFrom nl0a_echoTo nl0a_homes nl0a_talls nl0a_known (T.1 10) (T.1 11) (T.1 12) (T.1 13) (T.1 14) (T.1 15) (T.1 16) (T.2 10) (T.2 11) (T.2 12) (T.2 13) (T.2 14) (T.2 15) (T.2 16) (T.2 17) (T.1 17) (T.2 18) (T.2 19) (T.2 20) (T.1 18) (T.2 21) (T.2 22) (T.2 23) (T.1 19) (T.2 24) (T.2 25) (T.2 26) (T.1 20) (T.2 27) (T.2 28) (T.2 29) (T.1 21) (T.1 22) (T.2 30) (T.2 31) (T.1 23) (T.1 24) (T.2 32) (T.2 33)) : q_wx_X10_keep_0 (T.2 1) (T.1 3) (T.1 4) (T.1 5) (T.1 6) (T.1 7) (T.1 8) (T.1 9) (T.2 2) (T.2 3) (T.2 4) (T.2 5) (T.2 6) (T.2 7) (T.2 8) (T.2 9) (T.1 10) (T.1 11) (T.1 12) (T.1 13) (T.1 14) (T.1 15) (T.1 16) (T.2 10) (T.2 11) (T.2 12) (T.2 13) (T.2 14) (T.2 15) (T.2 16) (T.2 17) (T.1 17) (T.2 18) (T.2 19) (T.2 20) (T.1 18) (T.2 21) (T.2 22) (T.2 23) (T.1 19) (T.2 24) (T.2 25) (T.2 26) (T.1 20) (T.2 27) (T.2 28) (T.2 29) (T.1 21) (T.1 22) (T.2 30) (T.2 31) (T.1 23) (T.1 24) (T.2 32) (T.2 33) rlf_huts rlf_singers rlf_villages rlf_dams rlf_echoes rlf_deep rlf_slide rla_heights rla_ladders rla_minutes rla_echoFrom rla_echoTo rla_homes rla_talls rla_known rvf_deeds rva_kinds rva_firsts rva_seconds rsf_facts rsa_heard rsa_huts rsa_minutes rcf_voices rcf_step rca_parts rca_heights (nI 0) (nI 0) post := by
  refine ⟨fun h9 => absurd h9 (by decide +kernel), fun _ => ⟨vp_in_nI (by decide) (by decide), fun _ => ?_, fun h9 => absurd h9 (by decide +kernel)⟩⟩
  refine e_ll (fun t_a_heights t_a_ladders t_a_minutes t_a_echoFrom t_a_echoTo t_a_homes t_a_talls t_a_known c_a_heights c_a_ladders c_a_minutes c_a_echoFrom c_a_echoTo c_a_homes c_a_talls c_a_known => ?_)
  refine ⟨vp_in_nI (by decide) (by decide), fun v ev => ⟨vp_in_nI (by decide) (by decide), fun cn en => ?_⟩⟩
  have e9 : Int32.toNatClampNeg (nI 0) = 0 := rfl
  rw [e9] at ev en
  rw [en, ev]
  exact hp rlf_huts rlf_singers rlf_villages rlf_dams rlf_echoes rlf_deep rlf_slide t_a_heights t_a_ladders t_a_minutes t_a_echoFrom t_a_echoTo t_a_homes t_a_talls t_a_known (LDR_cp hR (CB_n hC).1 (CB_n hC).2.1 (CB_n hC).2.2 c_a_heights c_a_ladders c_a_minutes c_a_echoFrom c_a_echoTo c_a_homes c_a_talls c_a_known) same_00
set_option maxRecDepth 40000 in
set_option maxHeartbeats 4000000 in
theorem e_keep_01 {T : TT} {rlf_huts rlf_singers rlf_villages rlf_dams rlf_echoes rlf_deep rlf_slide rvf_deeds rsf_facts rcf_voices rcf_step : Int32} {rla_heights rla_ladders rla_minutes rla_echoFrom rla_echoTo rla_homes rla_talls rla_known rva_kinds rva_firsts rva_seconds rsa_heard rsa_huts rsa_minutes rca_parts rca_heights : Nat → Int32} {td : Nat → Int32} {len fault place : Int32} {post : (Nat → Int32) → (Int32) → (Int32) → (Int32) → (Int32) → (Int32) → (Int32) → (Int32) → (Nat → Int32) → (Nat → Int32) → (Nat → Int32) → (Nat → Int32) → (Nat → Int32) → (Nat → Int32) → (Nat → Int32) → (Nat → Int32) → (Int32) → (Int32) → (Int32) → (Int32) → (Int32) → (Int32) → (Int32) → (Nat → Int32) → (Nat → Int32) → (Nat → Int32) → (Nat → Int32) → (Nat → Int32) → (Nat → Int32) → (Nat → Int32) → (Nat → Int32) → (Int32) → (Nat → Int32) → (Nat → Int32) → (Nat → Int32) → (Int32) → (Nat → Int32) → (Nat → Int32) → (Nat → Int32) → (Int32) → (Nat → Int32) → (Nat → Int32) → (Nat → Int32) → (Int32) → (Nat → Int32) → (Nat → Int32) → (Nat → Int32) → (Int32) → (Int32) → (Nat → Int32) → (Nat → Int32) → (Int32) → (Int32) → (Nat → Int32) → (Nat → Int32) → Prop} (hC : CB 0 td) (hR : LDR rlf_huts rlf_singers rlf_villages rlf_dams rlf_echoes rlf_deep rlf_slide rla_heights rla_ladders rla_minutes rla_echoFrom rla_echoTo rla_homes rla_talls rla_known td) (hp : ∀ (nl1f_huts : Int32) (nl1f_singers : Int32) (nl1f_villages : Int32) (nl1f_dams : Int32) (nl1f_echoes : Int32) (nl1f_deep : Int32) (nl1f_slide : Int32) (nl1a_heights : Nat → Int32) (nl1a_ladders : Nat → Int32) (nl1a_minutes : Nat → Int32) (nl1a_echoFrom : Nat → Int32) (nl1a_echoTo : Nat → Int32) (nl1a_homes : Nat → Int32) (nl1a_talls : Nat → Int32) (nl1a_known : Nat → Int32), SL 0 1 (tmk (T.2 0) len fault place (upd (T.2 1) 0 (cmx (T.2 1 0) 1)) (T.1 3) (T.1 4) (T.1 5) (T.1 6) (T.1 7) (T.1 8) (T.1 9) (T.2 2) (T.2 3) (T.2 4) (T.2 5) (T.2 6) (T.2 7) (T.2 8) (T.2 9) nl1f_huts nl1f_singers nl1f_villages nl1f_dams nl1f_echoes nl1f_deep nl1f_slide nl1a_heights nl1a_ladders nl1a_minutes nl1a_echoFrom nl1a_echoTo nl1a_homes nl1a_talls nl1a_known (T.1 17) (T.2 18) (T.2 19) (T.2 20) (T.1 18) (T.2 21) (T.2 22) (T.2 23) (T.1 19) (T.2 24) (T.2 25) (T.2 26) (T.1 20) (T.2 27) (T.2 28) (T.2 29) (T.1 21) (T.1 22) (T.2 30) (T.2 31) (T.1 23) (T.1 24) (T.2 32) (T.2 33)) td → sameB 0 1 T (tmk (T.2 0) len fault place (upd (T.2 1) 0 (cmx (T.2 1 0) 1)) (T.1 3) (T.1 4) (T.1 5) (T.1 6) (T.1 7) (T.1 8) (T.1 9) (T.2 2) (T.2 3) (T.2 4) (T.2 5) (T.2 6) (T.2 7) (T.2 8) (T.2 9) nl1f_huts nl1f_singers nl1f_villages nl1f_dams nl1f_echoes nl1f_deep nl1f_slide nl1a_heights nl1a_ladders nl1a_minutes nl1a_echoFrom nl1a_echoTo nl1a_homes nl1a_talls nl1a_known (T.1 17) (T.2 18) (T.2 19) (T.2 20) (T.1 18) (T.2 21) (T.2 22) (T.2 23) (T.1 19) (T.2 24) (T.2 25) (T.2 26) (T.1 20) (T.2 27) (T.2 28) (T.2 29) (T.1 21) (T.1 22) (T.2 30) (T.2 31) (T.1 23) (T.1 24) (T.2 32) (T.2 33)) → post (upd (T.2 1) 0 (cmx (T.2 1 0) 1)) (T.1 3) (T.1 4) (T.1 5) (T.1 6) (T.1 7) (T.1 8) (T.1 9) (T.2 2) (T.2 3) (T.2 4) (T.2 5) (T.2 6) (T.2 7) (T.2 8) (T.2 9) nl1f_huts nl1f_singers nl1f_villages nl1f_dams nl1f_echoes nl1f_deep nl1f_slide nl1a_heights nl1a_ladders nl1a_minutes nl1a_echoFrom nl1a_echoTo nl1a_homes nl1a_talls nl1a_known (T.1 17) (T.2 18) (T.2 19) (T.2 20) (T.1 18) (T.2 21) (T.2 22) (T.2 23) (T.1 19) (T.2 24) (T.2 25) (T.2 26) (T.1 20) (T.2 27) (T.2 28) (T.2 29) (T.1 21) (T.1 22) (T.2 30) (T.2 31) (T.1 23) (T.1 24) (T.2 32) (T.2 33)) : q_wx_X10_keep_0 (T.2 1) (T.1 3) (T.1 4) (T.1 5) (T.1 6) (T.1 7) (T.1 8) (T.1 9) (T.2 2) (T.2 3) (T.2 4) (T.2 5) (T.2 6) (T.2 7) (T.2 8) (T.2 9) (T.1 10) (T.1 11) (T.1 12) (T.1 13) (T.1 14) (T.1 15) (T.1 16) (T.2 10) (T.2 11) (T.2 12) (T.2 13) (T.2 14) (T.2 15) (T.2 16) (T.2 17) (T.1 17) (T.2 18) (T.2 19) (T.2 20) (T.1 18) (T.2 21) (T.2 22) (T.2 23) (T.1 19) (T.2 24) (T.2 25) (T.2 26) (T.1 20) (T.2 27) (T.2 28) (T.2 29) (T.1 21) (T.1 22) (T.2 30) (T.2 31) (T.1 23) (T.1 24) (T.2 32) (T.2 33) rlf_huts rlf_singers rlf_villages rlf_dams rlf_echoes rlf_deep rlf_slide rla_heights rla_ladders rla_minutes rla_echoFrom rla_echoTo rla_homes rla_talls rla_known rvf_deeds rva_kinds rva_firsts rva_seconds rsf_facts rsa_heard rsa_huts rsa_minutes rcf_voices rcf_step rca_parts rca_heights (nI 0) (nI 1) post := by
  refine ⟨fun h9 => absurd h9 (by decide +kernel), fun _ => ⟨vp_in_nI (by decide) (by decide), fun h9 => absurd h9 (by decide +kernel), fun _ => ?_⟩⟩
  refine e_ll (fun t_a_heights t_a_ladders t_a_minutes t_a_echoFrom t_a_echoTo t_a_homes t_a_talls t_a_known c_a_heights c_a_ladders c_a_minutes c_a_echoFrom c_a_echoTo c_a_homes c_a_talls c_a_known => ?_)
  refine ⟨vp_in_nI (by decide) (by decide), fun v ev => ⟨vp_in_nI (by decide) (by decide), fun cn en => ?_⟩⟩
  have e9 : Int32.toNatClampNeg (nI 0) = 0 := rfl
  rw [e9] at ev en
  rw [en, ev]
  exact hp rlf_huts rlf_singers rlf_villages rlf_dams rlf_echoes rlf_deep rlf_slide t_a_heights t_a_ladders t_a_minutes t_a_echoFrom t_a_echoTo t_a_homes t_a_talls t_a_known (LDR_cp hR (CB_n hC).1 (CB_n hC).2.1 (CB_n hC).2.2 c_a_heights c_a_ladders c_a_minutes c_a_echoFrom c_a_echoTo c_a_homes c_a_talls c_a_known) same_01
set_option maxRecDepth 40000 in
set_option maxHeartbeats 4000000 in
theorem e_keep_10 {T : TT} {rlf_huts rlf_singers rlf_villages rlf_dams rlf_echoes rlf_deep rlf_slide rvf_deeds rsf_facts rcf_voices rcf_step : Int32} {rla_heights rla_ladders rla_minutes rla_echoFrom rla_echoTo rla_homes rla_talls rla_known rva_kinds rva_firsts rva_seconds rsa_heard rsa_huts rsa_minutes rca_parts rca_heights : Nat → Int32} {td : Nat → Int32} {len fault place : Int32} {post : (Nat → Int32) → (Int32) → (Int32) → (Int32) → (Int32) → (Int32) → (Int32) → (Int32) → (Nat → Int32) → (Nat → Int32) → (Nat → Int32) → (Nat → Int32) → (Nat → Int32) → (Nat → Int32) → (Nat → Int32) → (Nat → Int32) → (Int32) → (Int32) → (Int32) → (Int32) → (Int32) → (Int32) → (Int32) → (Nat → Int32) → (Nat → Int32) → (Nat → Int32) → (Nat → Int32) → (Nat → Int32) → (Nat → Int32) → (Nat → Int32) → (Nat → Int32) → (Int32) → (Nat → Int32) → (Nat → Int32) → (Nat → Int32) → (Int32) → (Nat → Int32) → (Nat → Int32) → (Nat → Int32) → (Int32) → (Nat → Int32) → (Nat → Int32) → (Nat → Int32) → (Int32) → (Nat → Int32) → (Nat → Int32) → (Nat → Int32) → (Int32) → (Int32) → (Nat → Int32) → (Nat → Int32) → (Int32) → (Int32) → (Nat → Int32) → (Nat → Int32) → Prop} (hC : CB 1 td) (hR : R3 rvf_deeds rva_kinds rva_firsts rva_seconds td) (hc : iv 0 40 rvf_deeds) (hp : ∀ (nv0f_deeds : Int32) (nv0a_kinds : Nat → Int32) (nv0a_firsts : Nat → Int32) (nv0a_seconds : Nat → Int32), SL 1 0 (tmk (T.2 0) len fault place (upd (T.2 1) 1 (cmx (T.2 1 1) 0)) (T.1 3) (T.1 4) (T.1 5) (T.1 6) (T.1 7) (T.1 8) (T.1 9) (T.2 2) (T.2 3) (T.2 4) (T.2 5) (T.2 6) (T.2 7) (T.2 8) (T.2 9) (T.1 10) (T.1 11) (T.1 12) (T.1 13) (T.1 14) (T.1 15) (T.1 16) (T.2 10) (T.2 11) (T.2 12) (T.2 13) (T.2 14) (T.2 15) (T.2 16) (T.2 17) nv0f_deeds nv0a_kinds nv0a_firsts nv0a_seconds (T.1 18) (T.2 21) (T.2 22) (T.2 23) (T.1 19) (T.2 24) (T.2 25) (T.2 26) (T.1 20) (T.2 27) (T.2 28) (T.2 29) (T.1 21) (T.1 22) (T.2 30) (T.2 31) (T.1 23) (T.1 24) (T.2 32) (T.2 33)) td → sameB 1 0 T (tmk (T.2 0) len fault place (upd (T.2 1) 1 (cmx (T.2 1 1) 0)) (T.1 3) (T.1 4) (T.1 5) (T.1 6) (T.1 7) (T.1 8) (T.1 9) (T.2 2) (T.2 3) (T.2 4) (T.2 5) (T.2 6) (T.2 7) (T.2 8) (T.2 9) (T.1 10) (T.1 11) (T.1 12) (T.1 13) (T.1 14) (T.1 15) (T.1 16) (T.2 10) (T.2 11) (T.2 12) (T.2 13) (T.2 14) (T.2 15) (T.2 16) (T.2 17) nv0f_deeds nv0a_kinds nv0a_firsts nv0a_seconds (T.1 18) (T.2 21) (T.2 22) (T.2 23) (T.1 19) (T.2 24) (T.2 25) (T.2 26) (T.1 20) (T.2 27) (T.2 28) (T.2 29) (T.1 21) (T.1 22) (T.2 30) (T.2 31) (T.1 23) (T.1 24) (T.2 32) (T.2 33)) → post (upd (T.2 1) 1 (cmx (T.2 1 1) 0)) (T.1 3) (T.1 4) (T.1 5) (T.1 6) (T.1 7) (T.1 8) (T.1 9) (T.2 2) (T.2 3) (T.2 4) (T.2 5) (T.2 6) (T.2 7) (T.2 8) (T.2 9) (T.1 10) (T.1 11) (T.1 12) (T.1 13) (T.1 14) (T.1 15) (T.1 16) (T.2 10) (T.2 11) (T.2 12) (T.2 13) (T.2 14) (T.2 15) (T.2 16) (T.2 17) nv0f_deeds nv0a_kinds nv0a_firsts nv0a_seconds (T.1 18) (T.2 21) (T.2 22) (T.2 23) (T.1 19) (T.2 24) (T.2 25) (T.2 26) (T.1 20) (T.2 27) (T.2 28) (T.2 29) (T.1 21) (T.1 22) (T.2 30) (T.2 31) (T.1 23) (T.1 24) (T.2 32) (T.2 33)) : q_wx_X10_keep_0 (T.2 1) (T.1 3) (T.1 4) (T.1 5) (T.1 6) (T.1 7) (T.1 8) (T.1 9) (T.2 2) (T.2 3) (T.2 4) (T.2 5) (T.2 6) (T.2 7) (T.2 8) (T.2 9) (T.1 10) (T.1 11) (T.1 12) (T.1 13) (T.1 14) (T.1 15) (T.1 16) (T.2 10) (T.2 11) (T.2 12) (T.2 13) (T.2 14) (T.2 15) (T.2 16) (T.2 17) (T.1 17) (T.2 18) (T.2 19) (T.2 20) (T.1 18) (T.2 21) (T.2 22) (T.2 23) (T.1 19) (T.2 24) (T.2 25) (T.2 26) (T.1 20) (T.2 27) (T.2 28) (T.2 29) (T.1 21) (T.1 22) (T.2 30) (T.2 31) (T.1 23) (T.1 24) (T.2 32) (T.2 33) rlf_huts rlf_singers rlf_villages rlf_dams rlf_echoes rlf_deep rlf_slide rla_heights rla_ladders rla_minutes rla_echoFrom rla_echoTo rla_homes rla_talls rla_known rvf_deeds rva_kinds rva_firsts rva_seconds rsf_facts rsa_heard rsa_huts rsa_minutes rcf_voices rcf_step rca_parts rca_heights (nI 1) (nI 0) post := by
  refine ⟨fun _ => ⟨fun h9 => absurd h9 (by decide +kernel), fun _ => ⟨vp_in_nI (by decide) (by decide), fun _ => ?_, fun h9 => absurd h9 (by decide +kernel)⟩⟩, fun h9 => absurd h9 (by decide +kernel)⟩
  refine e_vv hc (fun t_a_kinds t_a_firsts t_a_seconds c_a_kinds c_a_firsts c_a_seconds => ?_)
  refine ⟨vp_in_nI (by decide) (by decide), fun v ev => ⟨vp_in_nI (by decide) (by decide), fun cn en => ?_⟩⟩
  have e9 : Int32.toNatClampNeg (nI 1) = 1 := rfl
  rw [e9] at ev en
  rw [en, ev]
  exact hp rvf_deeds t_a_kinds t_a_firsts t_a_seconds (R3_cp hR c_a_kinds c_a_firsts c_a_seconds) same_10
set_option maxRecDepth 40000 in
set_option maxHeartbeats 4000000 in
theorem e_keep_11 {T : TT} {rlf_huts rlf_singers rlf_villages rlf_dams rlf_echoes rlf_deep rlf_slide rvf_deeds rsf_facts rcf_voices rcf_step : Int32} {rla_heights rla_ladders rla_minutes rla_echoFrom rla_echoTo rla_homes rla_talls rla_known rva_kinds rva_firsts rva_seconds rsa_heard rsa_huts rsa_minutes rca_parts rca_heights : Nat → Int32} {td : Nat → Int32} {len fault place : Int32} {post : (Nat → Int32) → (Int32) → (Int32) → (Int32) → (Int32) → (Int32) → (Int32) → (Int32) → (Nat → Int32) → (Nat → Int32) → (Nat → Int32) → (Nat → Int32) → (Nat → Int32) → (Nat → Int32) → (Nat → Int32) → (Nat → Int32) → (Int32) → (Int32) → (Int32) → (Int32) → (Int32) → (Int32) → (Int32) → (Nat → Int32) → (Nat → Int32) → (Nat → Int32) → (Nat → Int32) → (Nat → Int32) → (Nat → Int32) → (Nat → Int32) → (Nat → Int32) → (Int32) → (Nat → Int32) → (Nat → Int32) → (Nat → Int32) → (Int32) → (Nat → Int32) → (Nat → Int32) → (Nat → Int32) → (Int32) → (Nat → Int32) → (Nat → Int32) → (Nat → Int32) → (Int32) → (Nat → Int32) → (Nat → Int32) → (Nat → Int32) → (Int32) → (Int32) → (Nat → Int32) → (Nat → Int32) → (Int32) → (Int32) → (Nat → Int32) → (Nat → Int32) → Prop} (hC : CB 1 td) (hR : R3 rvf_deeds rva_kinds rva_firsts rva_seconds td) (hc : iv 0 40 rvf_deeds) (hp : ∀ (nv1f_deeds : Int32) (nv1a_kinds : Nat → Int32) (nv1a_firsts : Nat → Int32) (nv1a_seconds : Nat → Int32), SL 1 1 (tmk (T.2 0) len fault place (upd (T.2 1) 1 (cmx (T.2 1 1) 1)) (T.1 3) (T.1 4) (T.1 5) (T.1 6) (T.1 7) (T.1 8) (T.1 9) (T.2 2) (T.2 3) (T.2 4) (T.2 5) (T.2 6) (T.2 7) (T.2 8) (T.2 9) (T.1 10) (T.1 11) (T.1 12) (T.1 13) (T.1 14) (T.1 15) (T.1 16) (T.2 10) (T.2 11) (T.2 12) (T.2 13) (T.2 14) (T.2 15) (T.2 16) (T.2 17) (T.1 17) (T.2 18) (T.2 19) (T.2 20) nv1f_deeds nv1a_kinds nv1a_firsts nv1a_seconds (T.1 19) (T.2 24) (T.2 25) (T.2 26) (T.1 20) (T.2 27) (T.2 28) (T.2 29) (T.1 21) (T.1 22) (T.2 30) (T.2 31) (T.1 23) (T.1 24) (T.2 32) (T.2 33)) td → sameB 1 1 T (tmk (T.2 0) len fault place (upd (T.2 1) 1 (cmx (T.2 1 1) 1)) (T.1 3) (T.1 4) (T.1 5) (T.1 6) (T.1 7) (T.1 8) (T.1 9) (T.2 2) (T.2 3) (T.2 4) (T.2 5) (T.2 6) (T.2 7) (T.2 8) (T.2 9) (T.1 10) (T.1 11) (T.1 12) (T.1 13) (T.1 14) (T.1 15) (T.1 16) (T.2 10) (T.2 11) (T.2 12) (T.2 13) (T.2 14) (T.2 15) (T.2 16) (T.2 17) (T.1 17) (T.2 18) (T.2 19) (T.2 20) nv1f_deeds nv1a_kinds nv1a_firsts nv1a_seconds (T.1 19) (T.2 24) (T.2 25) (T.2 26) (T.1 20) (T.2 27) (T.2 28) (T.2 29) (T.1 21) (T.1 22) (T.2 30) (T.2 31) (T.1 23) (T.1 24) (T.2 32) (T.2 33)) → post (upd (T.2 1) 1 (cmx (T.2 1 1) 1)) (T.1 3) (T.1 4) (T.1 5) (T.1 6) (T.1 7) (T.1 8) (T.1 9) (T.2 2) (T.2 3) (T.2 4) (T.2 5) (T.2 6) (T.2 7) (T.2 8) (T.2 9) (T.1 10) (T.1 11) (T.1 12) (T.1 13) (T.1 14) (T.1 15) (T.1 16) (T.2 10) (T.2 11) (T.2 12) (T.2 13) (T.2 14) (T.2 15) (T.2 16) (T.2 17) (T.1 17) (T.2 18) (T.2 19) (T.2 20) nv1f_deeds nv1a_kinds nv1a_firsts nv1a_seconds (T.1 19) (T.2 24) (T.2 25) (T.2 26) (T.1 20) (T.2 27) (T.2 28) (T.2 29) (T.1 21) (T.1 22) (T.2 30) (T.2 31) (T.1 23) (T.1 24) (T.2 32) (T.2 33)) : q_wx_X10_keep_0 (T.2 1) (T.1 3) (T.1 4) (T.1 5) (T.1 6) (T.1 7) (T.1 8) (T.1 9) (T.2 2) (T.2 3) (T.2 4) (T.2 5) (T.2 6) (T.2 7) (T.2 8) (T.2 9) (T.1 10) (T.1 11) (T.1 12) (T.1 13) (T.1 14) (T.1 15) (T.1 16) (T.2 10) (T.2 11) (T.2 12) (T.2 13) (T.2 14) (T.2 15) (T.2 16) (T.2 17) (T.1 17) (T.2 18) (T.2 19) (T.2 20) (T.1 18) (T.2 21) (T.2 22) (T.2 23) (T.1 19) (T.2 24) (T.2 25) (T.2 26) (T.1 20) (T.2 27) (T.2 28) (T.2 29) (T.1 21) (T.1 22) (T.2 30) (T.2 31) (T.1 23) (T.1 24) (T.2 32) (T.2 33) rlf_huts rlf_singers rlf_villages rlf_dams rlf_echoes rlf_deep rlf_slide rla_heights rla_ladders rla_minutes rla_echoFrom rla_echoTo rla_homes rla_talls rla_known rvf_deeds rva_kinds rva_firsts rva_seconds rsf_facts rsa_heard rsa_huts rsa_minutes rcf_voices rcf_step rca_parts rca_heights (nI 1) (nI 1) post := by
  refine ⟨fun _ => ⟨fun h9 => absurd h9 (by decide +kernel), fun _ => ⟨vp_in_nI (by decide) (by decide), fun h9 => absurd h9 (by decide +kernel), fun _ => ?_⟩⟩, fun h9 => absurd h9 (by decide +kernel)⟩
  refine e_vv hc (fun t_a_kinds t_a_firsts t_a_seconds c_a_kinds c_a_firsts c_a_seconds => ?_)
  refine ⟨vp_in_nI (by decide) (by decide), fun v ev => ⟨vp_in_nI (by decide) (by decide), fun cn en => ?_⟩⟩
  have e9 : Int32.toNatClampNeg (nI 1) = 1 := rfl
  rw [e9] at ev en
  rw [en, ev]
  exact hp rvf_deeds t_a_kinds t_a_firsts t_a_seconds (R3_cp hR c_a_kinds c_a_firsts c_a_seconds) same_11
set_option maxRecDepth 40000 in
set_option maxHeartbeats 4000000 in
theorem e_keep_20 {T : TT} {rlf_huts rlf_singers rlf_villages rlf_dams rlf_echoes rlf_deep rlf_slide rvf_deeds rsf_facts rcf_voices rcf_step : Int32} {rla_heights rla_ladders rla_minutes rla_echoFrom rla_echoTo rla_homes rla_talls rla_known rva_kinds rva_firsts rva_seconds rsa_heard rsa_huts rsa_minutes rca_parts rca_heights : Nat → Int32} {td : Nat → Int32} {len fault place : Int32} {post : (Nat → Int32) → (Int32) → (Int32) → (Int32) → (Int32) → (Int32) → (Int32) → (Int32) → (Nat → Int32) → (Nat → Int32) → (Nat → Int32) → (Nat → Int32) → (Nat → Int32) → (Nat → Int32) → (Nat → Int32) → (Nat → Int32) → (Int32) → (Int32) → (Int32) → (Int32) → (Int32) → (Int32) → (Int32) → (Nat → Int32) → (Nat → Int32) → (Nat → Int32) → (Nat → Int32) → (Nat → Int32) → (Nat → Int32) → (Nat → Int32) → (Nat → Int32) → (Int32) → (Nat → Int32) → (Nat → Int32) → (Nat → Int32) → (Int32) → (Nat → Int32) → (Nat → Int32) → (Nat → Int32) → (Int32) → (Nat → Int32) → (Nat → Int32) → (Nat → Int32) → (Int32) → (Nat → Int32) → (Nat → Int32) → (Nat → Int32) → (Int32) → (Int32) → (Nat → Int32) → (Nat → Int32) → (Int32) → (Int32) → (Nat → Int32) → (Nat → Int32) → Prop} (hC : CB 2 td) (hR : R3 rsf_facts rsa_heard rsa_huts rsa_minutes td) (hc : iv 0 10 rsf_facts) (hp : ∀ (ns0f_facts : Int32) (ns0a_heard : Nat → Int32) (ns0a_huts : Nat → Int32) (ns0a_minutes : Nat → Int32), SL 2 0 (tmk (T.2 0) len fault place (upd (T.2 1) 2 (cmx (T.2 1 2) 0)) (T.1 3) (T.1 4) (T.1 5) (T.1 6) (T.1 7) (T.1 8) (T.1 9) (T.2 2) (T.2 3) (T.2 4) (T.2 5) (T.2 6) (T.2 7) (T.2 8) (T.2 9) (T.1 10) (T.1 11) (T.1 12) (T.1 13) (T.1 14) (T.1 15) (T.1 16) (T.2 10) (T.2 11) (T.2 12) (T.2 13) (T.2 14) (T.2 15) (T.2 16) (T.2 17) (T.1 17) (T.2 18) (T.2 19) (T.2 20) (T.1 18) (T.2 21) (T.2 22) (T.2 23) ns0f_facts ns0a_heard ns0a_huts ns0a_minutes (T.1 20) (T.2 27) (T.2 28) (T.2 29) (T.1 21) (T.1 22) (T.2 30) (T.2 31) (T.1 23) (T.1 24) (T.2 32) (T.2 33)) td → sameB 2 0 T (tmk (T.2 0) len fault place (upd (T.2 1) 2 (cmx (T.2 1 2) 0)) (T.1 3) (T.1 4) (T.1 5) (T.1 6) (T.1 7) (T.1 8) (T.1 9) (T.2 2) (T.2 3) (T.2 4) (T.2 5) (T.2 6) (T.2 7) (T.2 8) (T.2 9) (T.1 10) (T.1 11) (T.1 12) (T.1 13) (T.1 14) (T.1 15) (T.1 16) (T.2 10) (T.2 11) (T.2 12) (T.2 13) (T.2 14) (T.2 15) (T.2 16) (T.2 17) (T.1 17) (T.2 18) (T.2 19) (T.2 20) (T.1 18) (T.2 21) (T.2 22) (T.2 23) ns0f_facts ns0a_heard ns0a_huts ns0a_minutes (T.1 20) (T.2 27) (T.2 28) (T.2 29) (T.1 21) (T.1 22) (T.2 30) (T.2 31) (T.1 23) (T.1 24) (T.2 32) (T.2 33)) → post (upd (T.2 1) 2 (cmx (T.2 1 2) 0)) (T.1 3) (T.1 4) (T.1 5) (T.1 6) (T.1 7) (T.1 8) (T.1 9) (T.2 2) (T.2 3) (T.2 4) (T.2 5) (T.2 6) (T.2 7) (T.2 8) (T.2 9) (T.1 10) (T.1 11) (T.1 12) (T.1 13) (T.1 14) (T.1 15) (T.1 16) (T.2 10) (T.2 11) (T.2 12) (T.2 13) (T.2 14) (T.2 15) (T.2 16) (T.2 17) (T.1 17) (T.2 18) (T.2 19) (T.2 20) (T.1 18) (T.2 21) (T.2 22) (T.2 23) ns0f_facts ns0a_heard ns0a_huts ns0a_minutes (T.1 20) (T.2 27) (T.2 28) (T.2 29) (T.1 21) (T.1 22) (T.2 30) (T.2 31) (T.1 23) (T.1 24) (T.2 32) (T.2 33)) : q_wx_X10_keep_0 (T.2 1) (T.1 3) (T.1 4) (T.1 5) (T.1 6) (T.1 7) (T.1 8) (T.1 9) (T.2 2) (T.2 3) (T.2 4) (T.2 5) (T.2 6) (T.2 7) (T.2 8) (T.2 9) (T.1 10) (T.1 11) (T.1 12) (T.1 13) (T.1 14) (T.1 15) (T.1 16) (T.2 10) (T.2 11) (T.2 12) (T.2 13) (T.2 14) (T.2 15) (T.2 16) (T.2 17) (T.1 17) (T.2 18) (T.2 19) (T.2 20) (T.1 18) (T.2 21) (T.2 22) (T.2 23) (T.1 19) (T.2 24) (T.2 25) (T.2 26) (T.1 20) (T.2 27) (T.2 28) (T.2 29) (T.1 21) (T.1 22) (T.2 30) (T.2 31) (T.1 23) (T.1 24) (T.2 32) (T.2 33) rlf_huts rlf_singers rlf_villages rlf_dams rlf_echoes rlf_deep rlf_slide rla_heights rla_ladders rla_minutes rla_echoFrom rla_echoTo rla_homes rla_talls rla_known rvf_deeds rva_kinds rva_firsts rva_seconds rsf_facts rsa_heard rsa_huts rsa_minutes rcf_voices rcf_step rca_parts rca_heights (nI 2) (nI 0) post := by
  refine ⟨fun _ => ⟨fun _ => ⟨fun h9 => absurd h9 (by decide +kernel), fun _ => ⟨vp_in_nI (by decide) (by decide), fun _ => ?_, fun h9 => absurd h9 (by decide +kernel)⟩⟩, fun h9 => absurd h9 (by decide +kernel)⟩, fun h9 => absurd h9 (by decide +kernel)⟩
  refine e_ss hc (fun t_a_heard t_a_huts t_a_minutes c_a_heard c_a_huts c_a_minutes => ?_)
  refine ⟨vp_in_nI (by decide) (by decide), fun v ev => ⟨vp_in_nI (by decide) (by decide), fun cn en => ?_⟩⟩
  have e9 : Int32.toNatClampNeg (nI 2) = 2 := rfl
  rw [e9] at ev en
  rw [en, ev]
  exact hp rsf_facts t_a_heard t_a_huts t_a_minutes (R3_cp hR c_a_heard c_a_huts c_a_minutes) same_20
set_option maxRecDepth 40000 in
set_option maxHeartbeats 4000000 in
theorem e_keep_21 {T : TT} {rlf_huts rlf_singers rlf_villages rlf_dams rlf_echoes rlf_deep rlf_slide rvf_deeds rsf_facts rcf_voices rcf_step : Int32} {rla_heights rla_ladders rla_minutes rla_echoFrom rla_echoTo rla_homes rla_talls rla_known rva_kinds rva_firsts rva_seconds rsa_heard rsa_huts rsa_minutes rca_parts rca_heights : Nat → Int32} {td : Nat → Int32} {len fault place : Int32} {post : (Nat → Int32) → (Int32) → (Int32) → (Int32) → (Int32) → (Int32) → (Int32) → (Int32) → (Nat → Int32) → (Nat → Int32) → (Nat → Int32) → (Nat → Int32) → (Nat → Int32) → (Nat → Int32) → (Nat → Int32) → (Nat → Int32) → (Int32) → (Int32) → (Int32) → (Int32) → (Int32) → (Int32) → (Int32) → (Nat → Int32) → (Nat → Int32) → (Nat → Int32) → (Nat → Int32) → (Nat → Int32) → (Nat → Int32) → (Nat → Int32) → (Nat → Int32) → (Int32) → (Nat → Int32) → (Nat → Int32) → (Nat → Int32) → (Int32) → (Nat → Int32) → (Nat → Int32) → (Nat → Int32) → (Int32) → (Nat → Int32) → (Nat → Int32) → (Nat → Int32) → (Int32) → (Nat → Int32) → (Nat → Int32) → (Nat → Int32) → (Int32) → (Int32) → (Nat → Int32) → (Nat → Int32) → (Int32) → (Int32) → (Nat → Int32) → (Nat → Int32) → Prop} (hC : CB 2 td) (hR : R3 rsf_facts rsa_heard rsa_huts rsa_minutes td) (hc : iv 0 10 rsf_facts) (hp : ∀ (ns1f_facts : Int32) (ns1a_heard : Nat → Int32) (ns1a_huts : Nat → Int32) (ns1a_minutes : Nat → Int32), SL 2 1 (tmk (T.2 0) len fault place (upd (T.2 1) 2 (cmx (T.2 1 2) 1)) (T.1 3) (T.1 4) (T.1 5) (T.1 6) (T.1 7) (T.1 8) (T.1 9) (T.2 2) (T.2 3) (T.2 4) (T.2 5) (T.2 6) (T.2 7) (T.2 8) (T.2 9) (T.1 10) (T.1 11) (T.1 12) (T.1 13) (T.1 14) (T.1 15) (T.1 16) (T.2 10) (T.2 11) (T.2 12) (T.2 13) (T.2 14) (T.2 15) (T.2 16) (T.2 17) (T.1 17) (T.2 18) (T.2 19) (T.2 20) (T.1 18) (T.2 21) (T.2 22) (T.2 23) (T.1 19) (T.2 24) (T.2 25) (T.2 26) ns1f_facts ns1a_heard ns1a_huts ns1a_minutes (T.1 21) (T.1 22) (T.2 30) (T.2 31) (T.1 23) (T.1 24) (T.2 32) (T.2 33)) td → sameB 2 1 T (tmk (T.2 0) len fault place (upd (T.2 1) 2 (cmx (T.2 1 2) 1)) (T.1 3) (T.1 4) (T.1 5) (T.1 6) (T.1 7) (T.1 8) (T.1 9) (T.2 2) (T.2 3) (T.2 4) (T.2 5) (T.2 6) (T.2 7) (T.2 8) (T.2 9) (T.1 10) (T.1 11) (T.1 12) (T.1 13) (T.1 14) (T.1 15) (T.1 16) (T.2 10) (T.2 11) (T.2 12) (T.2 13) (T.2 14) (T.2 15) (T.2 16) (T.2 17) (T.1 17) (T.2 18) (T.2 19) (T.2 20) (T.1 18) (T.2 21) (T.2 22) (T.2 23) (T.1 19) (T.2 24) (T.2 25) (T.2 26) ns1f_facts ns1a_heard ns1a_huts ns1a_minutes (T.1 21) (T.1 22) (T.2 30) (T.2 31) (T.1 23) (T.1 24) (T.2 32) (T.2 33)) → post (upd (T.2 1) 2 (cmx (T.2 1 2) 1)) (T.1 3) (T.1 4) (T.1 5) (T.1 6) (T.1 7) (T.1 8) (T.1 9) (T.2 2) (T.2 3) (T.2 4) (T.2 5) (T.2 6) (T.2 7) (T.2 8) (T.2 9) (T.1 10) (T.1 11) (T.1 12) (T.1 13) (T.1 14) (T.1 15) (T.1 16) (T.2 10) (T.2 11) (T.2 12) (T.2 13) (T.2 14) (T.2 15) (T.2 16) (T.2 17) (T.1 17) (T.2 18) (T.2 19) (T.2 20) (T.1 18) (T.2 21) (T.2 22) (T.2 23) (T.1 19) (T.2 24) (T.2 25) (T.2 26) ns1f_facts ns1a_heard ns1a_huts ns1a_minutes (T.1 21) (T.1 22) (T.2 30) (T.2 31) (T.1 23) (T.1 24) (T.2 32) (T.2 33)) : q_wx_X10_keep_0 (T.2 1) (T.1 3) (T.1 4) (T.1 5) (T.1 6) (T.1 7) (T.1 8) (T.1 9) (T.2 2) (T.2 3) (T.2 4) (T.2 5) (T.2 6) (T.2 7) (T.2 8) (T.2 9) (T.1 10) (T.1 11) (T.1 12) (T.1 13) (T.1 14) (T.1 15) (T.1 16) (T.2 10) (T.2 11) (T.2 12) (T.2 13) (T.2 14) (T.2 15) (T.2 16) (T.2 17) (T.1 17) (T.2 18) (T.2 19) (T.2 20) (T.1 18) (T.2 21) (T.2 22) (T.2 23) (T.1 19) (T.2 24) (T.2 25) (T.2 26) (T.1 20) (T.2 27) (T.2 28) (T.2 29) (T.1 21) (T.1 22) (T.2 30) (T.2 31) (T.1 23) (T.1 24) (T.2 32) (T.2 33) rlf_huts rlf_singers rlf_villages rlf_dams rlf_echoes rlf_deep rlf_slide rla_heights rla_ladders rla_minutes rla_echoFrom rla_echoTo rla_homes rla_talls rla_known rvf_deeds rva_kinds rva_firsts rva_seconds rsf_facts rsa_heard rsa_huts rsa_minutes rcf_voices rcf_step rca_parts rca_heights (nI 2) (nI 1) post := by
  refine ⟨fun _ => ⟨fun _ => ⟨fun h9 => absurd h9 (by decide +kernel), fun _ => ⟨vp_in_nI (by decide) (by decide), fun h9 => absurd h9 (by decide +kernel), fun _ => ?_⟩⟩, fun h9 => absurd h9 (by decide +kernel)⟩, fun h9 => absurd h9 (by decide +kernel)⟩
  refine e_ss hc (fun t_a_heard t_a_huts t_a_minutes c_a_heard c_a_huts c_a_minutes => ?_)
  refine ⟨vp_in_nI (by decide) (by decide), fun v ev => ⟨vp_in_nI (by decide) (by decide), fun cn en => ?_⟩⟩
  have e9 : Int32.toNatClampNeg (nI 2) = 2 := rfl
  rw [e9] at ev en
  rw [en, ev]
  exact hp rsf_facts t_a_heard t_a_huts t_a_minutes (R3_cp hR c_a_heard c_a_huts c_a_minutes) same_21
set_option maxRecDepth 40000 in
set_option maxHeartbeats 4000000 in
theorem e_keep_30 {T : TT} {rlf_huts rlf_singers rlf_villages rlf_dams rlf_echoes rlf_deep rlf_slide rvf_deeds rsf_facts rcf_voices rcf_step : Int32} {rla_heights rla_ladders rla_minutes rla_echoFrom rla_echoTo rla_homes rla_talls rla_known rva_kinds rva_firsts rva_seconds rsa_heard rsa_huts rsa_minutes rca_parts rca_heights : Nat → Int32} {td : Nat → Int32} {len fault place : Int32} {post : (Nat → Int32) → (Int32) → (Int32) → (Int32) → (Int32) → (Int32) → (Int32) → (Int32) → (Nat → Int32) → (Nat → Int32) → (Nat → Int32) → (Nat → Int32) → (Nat → Int32) → (Nat → Int32) → (Nat → Int32) → (Nat → Int32) → (Int32) → (Int32) → (Int32) → (Int32) → (Int32) → (Int32) → (Int32) → (Nat → Int32) → (Nat → Int32) → (Nat → Int32) → (Nat → Int32) → (Nat → Int32) → (Nat → Int32) → (Nat → Int32) → (Nat → Int32) → (Int32) → (Nat → Int32) → (Nat → Int32) → (Nat → Int32) → (Int32) → (Nat → Int32) → (Nat → Int32) → (Nat → Int32) → (Int32) → (Nat → Int32) → (Nat → Int32) → (Nat → Int32) → (Int32) → (Nat → Int32) → (Nat → Int32) → (Nat → Int32) → (Int32) → (Int32) → (Nat → Int32) → (Nat → Int32) → (Int32) → (Int32) → (Nat → Int32) → (Nat → Int32) → Prop} (hC : CB 3 td) (hR : CDR rcf_voices rcf_step rca_parts rca_heights td) (hc : iv 0 9 rcf_voices) (hp : ∀ (nc0f_voices : Int32) (nc0f_step : Int32) (nc0a_parts : Nat → Int32) (nc0a_heights : Nat → Int32), SL 3 0 (tmk (T.2 0) len fault place (upd (T.2 1) 3 (cmx (T.2 1 3) 0)) (T.1 3) (T.1 4) (T.1 5) (T.1 6) (T.1 7) (T.1 8) (T.1 9) (T.2 2) (T.2 3) (T.2 4) (T.2 5) (T.2 6) (T.2 7) (T.2 8) (T.2 9) (T.1 10) (T.1 11) (T.1 12) (T.1 13) (T.1 14) (T.1 15) (T.1 16) (T.2 10) (T.2 11) (T.2 12) (T.2 13) (T.2 14) (T.2 15) (T.2 16) (T.2 17) (T.1 17) (T.2 18) (T.2 19) (T.2 20) (T.1 18) (T.2 21) (T.2 22) (T.2 23) (T.1 19) (T.2 24) (T.2 25) (T.2 26) (T.1 20) (T.2 27) (T.2 28) (T.2 29) nc0f_voices nc0f_step nc0a_parts nc0a_heights (T.1 23) (T.1 24) (T.2 32) (T.2 33)) td → sameB 3 0 T (tmk (T.2 0) len fault place (upd (T.2 1) 3 (cmx (T.2 1 3) 0)) (T.1 3) (T.1 4) (T.1 5) (T.1 6) (T.1 7) (T.1 8) (T.1 9) (T.2 2) (T.2 3) (T.2 4) (T.2 5) (T.2 6) (T.2 7) (T.2 8) (T.2 9) (T.1 10) (T.1 11) (T.1 12) (T.1 13) (T.1 14) (T.1 15) (T.1 16) (T.2 10) (T.2 11) (T.2 12) (T.2 13) (T.2 14) (T.2 15) (T.2 16) (T.2 17) (T.1 17) (T.2 18) (T.2 19) (T.2 20) (T.1 18) (T.2 21) (T.2 22) (T.2 23) (T.1 19) (T.2 24) (T.2 25) (T.2 26) (T.1 20) (T.2 27) (T.2 28) (T.2 29) nc0f_voices nc0f_step nc0a_parts nc0a_heights (T.1 23) (T.1 24) (T.2 32) (T.2 33)) → post (upd (T.2 1) 3 (cmx (T.2 1 3) 0)) (T.1 3) (T.1 4) (T.1 5) (T.1 6) (T.1 7) (T.1 8) (T.1 9) (T.2 2) (T.2 3) (T.2 4) (T.2 5) (T.2 6) (T.2 7) (T.2 8) (T.2 9) (T.1 10) (T.1 11) (T.1 12) (T.1 13) (T.1 14) (T.1 15) (T.1 16) (T.2 10) (T.2 11) (T.2 12) (T.2 13) (T.2 14) (T.2 15) (T.2 16) (T.2 17) (T.1 17) (T.2 18) (T.2 19) (T.2 20) (T.1 18) (T.2 21) (T.2 22) (T.2 23) (T.1 19) (T.2 24) (T.2 25) (T.2 26) (T.1 20) (T.2 27) (T.2 28) (T.2 29) nc0f_voices nc0f_step nc0a_parts nc0a_heights (T.1 23) (T.1 24) (T.2 32) (T.2 33)) : q_wx_X10_keep_0 (T.2 1) (T.1 3) (T.1 4) (T.1 5) (T.1 6) (T.1 7) (T.1 8) (T.1 9) (T.2 2) (T.2 3) (T.2 4) (T.2 5) (T.2 6) (T.2 7) (T.2 8) (T.2 9) (T.1 10) (T.1 11) (T.1 12) (T.1 13) (T.1 14) (T.1 15) (T.1 16) (T.2 10) (T.2 11) (T.2 12) (T.2 13) (T.2 14) (T.2 15) (T.2 16) (T.2 17) (T.1 17) (T.2 18) (T.2 19) (T.2 20) (T.1 18) (T.2 21) (T.2 22) (T.2 23) (T.1 19) (T.2 24) (T.2 25) (T.2 26) (T.1 20) (T.2 27) (T.2 28) (T.2 29) (T.1 21) (T.1 22) (T.2 30) (T.2 31) (T.1 23) (T.1 24) (T.2 32) (T.2 33) rlf_huts rlf_singers rlf_villages rlf_dams rlf_echoes rlf_deep rlf_slide rla_heights rla_ladders rla_minutes rla_echoFrom rla_echoTo rla_homes rla_talls rla_known rvf_deeds rva_kinds rva_firsts rva_seconds rsf_facts rsa_heard rsa_huts rsa_minutes rcf_voices rcf_step rca_parts rca_heights (nI 3) (nI 0) post := by
  refine ⟨fun _ => ⟨fun _ => ⟨fun _ => ⟨vp_in_nI (by decide) (by decide), fun _ => ?_, fun h9 => absurd h9 (by decide +kernel)⟩, fun h9 => absurd h9 (by decide +kernel)⟩, fun h9 => absurd h9 (by decide +kernel)⟩, fun h9 => absurd h9 (by decide +kernel)⟩
  refine e_cc hc (fun t_a_parts t_a_heights c_a_parts c_a_heights => ?_)
  refine ⟨vp_in_nI (by decide) (by decide), fun v ev => ⟨vp_in_nI (by decide) (by decide), fun cn en => ?_⟩⟩
  have e9 : Int32.toNatClampNeg (nI 3) = 3 := rfl
  rw [e9] at ev en
  rw [en, ev]
  exact hp rcf_voices rcf_step t_a_parts t_a_heights (CDR_cp hR c_a_parts c_a_heights) same_30
set_option maxRecDepth 40000 in
set_option maxHeartbeats 4000000 in
theorem e_keep_31 {T : TT} {rlf_huts rlf_singers rlf_villages rlf_dams rlf_echoes rlf_deep rlf_slide rvf_deeds rsf_facts rcf_voices rcf_step : Int32} {rla_heights rla_ladders rla_minutes rla_echoFrom rla_echoTo rla_homes rla_talls rla_known rva_kinds rva_firsts rva_seconds rsa_heard rsa_huts rsa_minutes rca_parts rca_heights : Nat → Int32} {td : Nat → Int32} {len fault place : Int32} {post : (Nat → Int32) → (Int32) → (Int32) → (Int32) → (Int32) → (Int32) → (Int32) → (Int32) → (Nat → Int32) → (Nat → Int32) → (Nat → Int32) → (Nat → Int32) → (Nat → Int32) → (Nat → Int32) → (Nat → Int32) → (Nat → Int32) → (Int32) → (Int32) → (Int32) → (Int32) → (Int32) → (Int32) → (Int32) → (Nat → Int32) → (Nat → Int32) → (Nat → Int32) → (Nat → Int32) → (Nat → Int32) → (Nat → Int32) → (Nat → Int32) → (Nat → Int32) → (Int32) → (Nat → Int32) → (Nat → Int32) → (Nat → Int32) → (Int32) → (Nat → Int32) → (Nat → Int32) → (Nat → Int32) → (Int32) → (Nat → Int32) → (Nat → Int32) → (Nat → Int32) → (Int32) → (Nat → Int32) → (Nat → Int32) → (Nat → Int32) → (Int32) → (Int32) → (Nat → Int32) → (Nat → Int32) → (Int32) → (Int32) → (Nat → Int32) → (Nat → Int32) → Prop} (hC : CB 3 td) (hR : CDR rcf_voices rcf_step rca_parts rca_heights td) (hc : iv 0 9 rcf_voices) (hp : ∀ (nc1f_voices : Int32) (nc1f_step : Int32) (nc1a_parts : Nat → Int32) (nc1a_heights : Nat → Int32), SL 3 1 (tmk (T.2 0) len fault place (upd (T.2 1) 3 (cmx (T.2 1 3) 1)) (T.1 3) (T.1 4) (T.1 5) (T.1 6) (T.1 7) (T.1 8) (T.1 9) (T.2 2) (T.2 3) (T.2 4) (T.2 5) (T.2 6) (T.2 7) (T.2 8) (T.2 9) (T.1 10) (T.1 11) (T.1 12) (T.1 13) (T.1 14) (T.1 15) (T.1 16) (T.2 10) (T.2 11) (T.2 12) (T.2 13) (T.2 14) (T.2 15) (T.2 16) (T.2 17) (T.1 17) (T.2 18) (T.2 19) (T.2 20) (T.1 18) (T.2 21) (T.2 22) (T.2 23) (T.1 19) (T.2 24) (T.2 25) (T.2 26) (T.1 20) (T.2 27) (T.2 28) (T.2 29) (T.1 21) (T.1 22) (T.2 30) (T.2 31) nc1f_voices nc1f_step nc1a_parts nc1a_heights) td → sameB 3 1 T (tmk (T.2 0) len fault place (upd (T.2 1) 3 (cmx (T.2 1 3) 1)) (T.1 3) (T.1 4) (T.1 5) (T.1 6) (T.1 7) (T.1 8) (T.1 9) (T.2 2) (T.2 3) (T.2 4) (T.2 5) (T.2 6) (T.2 7) (T.2 8) (T.2 9) (T.1 10) (T.1 11) (T.1 12) (T.1 13) (T.1 14) (T.1 15) (T.1 16) (T.2 10) (T.2 11) (T.2 12) (T.2 13) (T.2 14) (T.2 15) (T.2 16) (T.2 17) (T.1 17) (T.2 18) (T.2 19) (T.2 20) (T.1 18) (T.2 21) (T.2 22) (T.2 23) (T.1 19) (T.2 24) (T.2 25) (T.2 26) (T.1 20) (T.2 27) (T.2 28) (T.2 29) (T.1 21) (T.1 22) (T.2 30) (T.2 31) nc1f_voices nc1f_step nc1a_parts nc1a_heights) → post (upd (T.2 1) 3 (cmx (T.2 1 3) 1)) (T.1 3) (T.1 4) (T.1 5) (T.1 6) (T.1 7) (T.1 8) (T.1 9) (T.2 2) (T.2 3) (T.2 4) (T.2 5) (T.2 6) (T.2 7) (T.2 8) (T.2 9) (T.1 10) (T.1 11) (T.1 12) (T.1 13) (T.1 14) (T.1 15) (T.1 16) (T.2 10) (T.2 11) (T.2 12) (T.2 13) (T.2 14) (T.2 15) (T.2 16) (T.2 17) (T.1 17) (T.2 18) (T.2 19) (T.2 20) (T.1 18) (T.2 21) (T.2 22) (T.2 23) (T.1 19) (T.2 24) (T.2 25) (T.2 26) (T.1 20) (T.2 27) (T.2 28) (T.2 29) (T.1 21) (T.1 22) (T.2 30) (T.2 31) nc1f_voices nc1f_step nc1a_parts nc1a_heights) : q_wx_X10_keep_0 (T.2 1) (T.1 3) (T.1 4) (T.1 5) (T.1 6) (T.1 7) (T.1 8) (T.1 9) (T.2 2) (T.2 3) (T.2 4) (T.2 5) (T.2 6) (T.2 7) (T.2 8) (T.2 9) (T.1 10) (T.1 11) (T.1 12) (T.1 13) (T.1 14) (T.1 15) (T.1 16) (T.2 10) (T.2 11) (T.2 12) (T.2 13) (T.2 14) (T.2 15) (T.2 16) (T.2 17) (T.1 17) (T.2 18) (T.2 19) (T.2 20) (T.1 18) (T.2 21) (T.2 22) (T.2 23) (T.1 19) (T.2 24) (T.2 25) (T.2 26) (T.1 20) (T.2 27) (T.2 28) (T.2 29) (T.1 21) (T.1 22) (T.2 30) (T.2 31) (T.1 23) (T.1 24) (T.2 32) (T.2 33) rlf_huts rlf_singers rlf_villages rlf_dams rlf_echoes rlf_deep rlf_slide rla_heights rla_ladders rla_minutes rla_echoFrom rla_echoTo rla_homes rla_talls rla_known rvf_deeds rva_kinds rva_firsts rva_seconds rsf_facts rsa_heard rsa_huts rsa_minutes rcf_voices rcf_step rca_parts rca_heights (nI 3) (nI 1) post := by
  refine ⟨fun _ => ⟨fun _ => ⟨fun _ => ⟨vp_in_nI (by decide) (by decide), fun h9 => absurd h9 (by decide +kernel), fun _ => ?_⟩, fun h9 => absurd h9 (by decide +kernel)⟩, fun h9 => absurd h9 (by decide +kernel)⟩, fun h9 => absurd h9 (by decide +kernel)⟩
  refine e_cc hc (fun t_a_parts t_a_heights c_a_parts c_a_heights => ?_)
  refine ⟨vp_in_nI (by decide) (by decide), fun v ev => ⟨vp_in_nI (by decide) (by decide), fun cn en => ?_⟩⟩
  have e9 : Int32.toNatClampNeg (nI 3) = 3 := rfl
  rw [e9] at ev en
  rw [en, ev]
  exact hp rcf_voices rcf_step t_a_parts t_a_heights (CDR_cp hR c_a_parts c_a_heights) same_31
end
section
theorem xTX_mk {T T' : TT} {a1 a2 r : Int32} {o k : Nat} (ho : o < 4) (hk : k < 2) (e : a1 = nI o) (hN : NUM (T.2 1 o) a2 k) (h0 : T'.1 0 = 0) (ht : T'.2 0 = T.2 0) (h1 : T'.1 1 = (TXr T o).1) (h2 : T'.1 2 = (TXr T o).2.1) (h3 : ¬ (TXr T o).1 = 0 → r = -1 ∧ T'.2 1 = T.2 1 ∧ sameT T T') (h4 : (TXr T o).1 = 0 → r = nI k ∧ T'.2 1 = upd (T.2 1) o (cmx (T.2 1 o) k) ∧ SL o k T' (TXr T o).2.2 ∧ sameB o k T T') : xTX T T' a1 a2 r := by
  refine ⟨h0, ht, fun hno => absurd ⟨o, k, ho, hk, e, hN⟩ hno, fun o' k' ho' hk' e' hN' => ?_⟩
  have eo : o = o' := (nI_eq (by omega) (by omega)).mp (e.symm.trans e')
  subst eo
  have ek := NUM_un hk hk' hN hN'
  subst ek
  exact ⟨h1, h2, h3, h4⟩
theorem nI_nm2 {k : Nat} (hk : k < 2 ^ 31) : ¬ nI k = -2 := fun h => by
  have h1 := congrArg Int32.toInt h
  rw [nI_toInt hk] at h1
  have : (-2 : Int32).toInt = -2 := rfl
  omega
set_option maxRecDepth 40000 in
set_option maxHeartbeats 4000000 in
theorem e_x_text {T : TT} {rlf_huts rlf_singers rlf_villages rlf_dams rlf_echoes rlf_deep rlf_slide rvf_deeds rsf_facts rcf_voices rcf_step rf_fault rf_faultPlace rf_length rf_behind rf_kind rf_first rf_value rf_hutsToldOf rf_singersToldOf : Int32} {rla_heights rla_ladders rla_minutes rla_echoFrom rla_echoTo rla_homes rla_talls rla_known rva_kinds rva_firsts rva_seconds rsa_heard rsa_huts rsa_minutes rca_parts rca_heights ra_numbers ra_tape : Nat → Int32} {x1 x2 : Int32} {post : Int32 → (Int32) → (Int32) → (Int32) → (Nat → Int32) → (Int32) → (Int32) → (Int32) → (Int32) → (Int32) → (Int32) → (Int32) → (Nat → Int32) → (Nat → Int32) → (Nat → Int32) → (Nat → Int32) → (Nat → Int32) → (Nat → Int32) → (Nat → Int32) → (Nat → Int32) → (Int32) → (Int32) → (Int32) → (Int32) → (Int32) → (Int32) → (Int32) → (Nat → Int32) → (Nat → Int32) → (Nat → Int32) → (Nat → Int32) → (Nat → Int32) → (Nat → Int32) → (Nat → Int32) → (Nat → Int32) → (Int32) → (Nat → Int32) → (Nat → Int32) → (Nat → Int32) → (Int32) → (Nat → Int32) → (Nat → Int32) → (Nat → Int32) → (Int32) → (Nat → Int32) → (Nat → Int32) → (Nat → Int32) → (Int32) → (Nat → Int32) → (Nat → Int32) → (Nat → Int32) → (Int32) → (Int32) → (Nat → Int32) → (Nat → Int32) → (Int32) → (Int32) → (Nat → Int32) → (Nat → Int32) → (Int32) → (Int32) → (Int32) → (Int32) → (Int32) → (Int32) → (Int32) → (Nat → Int32) → (Nat → Int32) → (Nat → Int32) → (Nat → Int32) → (Nat → Int32) → (Nat → Int32) → (Nat → Int32) → (Nat → Int32) → (Int32) → (Nat → Int32) → (Nat → Int32) → (Nat → Int32) → (Int32) → (Nat → Int32) → (Nat → Int32) → (Nat → Int32) → (Int32) → (Int32) → (Nat → Int32) → (Nat → Int32) → (Int32) → (Int32) → (Nat → Int32) → (Nat → Int32) → (Int32) → (Int32) → (Int32) → (Int32) → (Int32) → (Int32) → (Int32) → Prop} (hlen : iv 0 600 (T.1 0)) (htape : ∀ j, iv (-128) 127 (T.2 0 j)) (hcnt : ∀ j, iv 0 2 (T.2 1 j)) (hp : ∀ (r : Int32) (nf_length : Int32) (nf_fault : Int32) (nf_place : Int32) (na_counts : Nat → Int32) (nl0f_huts : Int32) (nl0f_singers : Int32) (nl0f_villages : Int32) (nl0f_dams : Int32) (nl0f_echoes : Int32) (nl0f_deep : Int32) (nl0f_slide : Int32) (nl0a_heights : Nat → Int32) (nl0a_ladders : Nat → Int32) (nl0a_minutes : Nat → Int32) (nl0a_echoFrom : Nat → Int32) (nl0a_echoTo : Nat → Int32) (nl0a_homes : Nat → Int32) (nl0a_talls : Nat → Int32) (nl0a_known : Nat → Int32) (nl1f_huts : Int32) (nl1f_singers : Int32) (nl1f_villages : Int32) (nl1f_dams : Int32) (nl1f_echoes : Int32) (nl1f_deep : Int32) (nl1f_slide : Int32) (nl1a_heights : Nat → Int32) (nl1a_ladders : Nat → Int32) (nl1a_minutes : Nat → Int32) (nl1a_echoFrom : Nat → Int32) (nl1a_echoTo : Nat → Int32) (nl1a_homes : Nat → Int32) (nl1a_talls : Nat → Int32) (nl1a_known : Nat → Int32) (nv0f_deeds : Int32) (nv0a_kinds : Nat → Int32) (nv0a_firsts : Nat → Int32) (nv0a_seconds : Nat → Int32) (nv1f_deeds : Int32) (nv1a_kinds : Nat → Int32) (nv1a_firsts : Nat → Int32) (nv1a_seconds : Nat → Int32) (ns0f_facts : Int32) (ns0a_heard : Nat → Int32) (ns0a_huts : Nat → Int32) (ns0a_minutes : Nat → Int32) (ns1f_facts : Int32) (ns1a_heard : Nat → Int32) (ns1a_huts : Nat → Int32) (ns1a_minutes : Nat → Int32) (nc0f_voices : Int32) (nc0f_step : Int32) (nc0a_parts : Nat → Int32) (nc0a_heights : Nat → Int32) (nc1f_voices : Int32) (nc1f_step : Int32) (nc1a_parts : Nat → Int32) (nc1a_heights : Nat → Int32) (rlf_huts' : Int32) (rlf_singers' : Int32) (rlf_villages' : Int32) (rlf_dams' : Int32) (rlf_echoes' : Int32) (rlf_deep' : Int32) (rlf_slide' : Int32) (rla_heights' : Nat → Int32) (rla_ladders' : Nat → Int32) (rla_minutes' : Nat → Int32) (rla_echoFrom' : Nat → Int32) (rla_echoTo' : Nat → Int32) (rla_homes' : Nat → Int32) (rla_talls' : Nat → Int32) (rla_known' : Nat → Int32) (rvf_deeds' : Int32) (rva_kinds' : Nat → Int32) (rva_firsts' : Nat → Int32) (rva_seconds' : Nat → Int32) (rsf_facts' : Int32) (rsa_heard' : Nat → Int32) (rsa_huts' : Nat → Int32) (rsa_minutes' : Nat → Int32) (rcf_voices' : Int32) (rcf_step' : Int32) (rca_parts' : Nat → Int32) (rca_heights' : Nat → Int32) (rf_fault' : Int32) (rf_faultPlace' : Int32) (ra_numbers' : Nat → Int32) (ra_tape' : Nat → Int32) (rf_length' : Int32) (rf_behind' : Int32) (rf_kind' : Int32) (rf_first' : Int32) (rf_value' : Int32) (rf_hutsToldOf' : Int32) (rf_singersToldOf' : Int32), xTX T (tmk (T.2 0) nf_length nf_fault nf_place na_counts nl0f_huts nl0f_singers nl0f_villages nl0f_dams nl0f_echoes nl0f_deep nl0f_slide nl0a_heights nl0a_ladders nl0a_minutes nl0a_echoFrom nl0a_echoTo nl0a_homes nl0a_talls nl0a_known nl1f_huts nl1f_singers nl1f_villages nl1f_dams nl1f_echoes nl1f_deep nl1f_slide nl1a_heights nl1a_ladders nl1a_minutes nl1a_echoFrom nl1a_echoTo nl1a_homes nl1a_talls nl1a_known nv0f_deeds nv0a_kinds nv0a_firsts nv0a_seconds nv1f_deeds nv1a_kinds nv1a_firsts nv1a_seconds ns0f_facts ns0a_heard ns0a_huts ns0a_minutes ns1f_facts ns1a_heard ns1a_huts ns1a_minutes nc0f_voices nc0f_step nc0a_parts nc0a_heights nc1f_voices nc1f_step nc1a_parts nc1a_heights) x1 x2 r → post r nf_length nf_fault nf_place na_counts nl0f_huts nl0f_singers nl0f_villages nl0f_dams nl0f_echoes nl0f_deep nl0f_slide nl0a_heights nl0a_ladders nl0a_minutes nl0a_echoFrom nl0a_echoTo nl0a_homes nl0a_talls nl0a_known nl1f_huts nl1f_singers nl1f_villages nl1f_dams nl1f_echoes nl1f_deep nl1f_slide nl1a_heights nl1a_ladders nl1a_minutes nl1a_echoFrom nl1a_echoTo nl1a_homes nl1a_talls nl1a_known nv0f_deeds nv0a_kinds nv0a_firsts nv0a_seconds nv1f_deeds nv1a_kinds nv1a_firsts nv1a_seconds ns0f_facts ns0a_heard ns0a_huts ns0a_minutes ns1f_facts ns1a_heard ns1a_huts ns1a_minutes nc0f_voices nc0f_step nc0a_parts nc0a_heights nc1f_voices nc1f_step nc1a_parts nc1a_heights rlf_huts' rlf_singers' rlf_villages' rlf_dams' rlf_echoes' rlf_deep' rlf_slide' rla_heights' rla_ladders' rla_minutes' rla_echoFrom' rla_echoTo' rla_homes' rla_talls' rla_known' rvf_deeds' rva_kinds' rva_firsts' rva_seconds' rsf_facts' rsa_heard' rsa_huts' rsa_minutes' rcf_voices' rcf_step' rca_parts' rca_heights' rf_fault' rf_faultPlace' ra_numbers' ra_tape' rf_length' rf_behind' rf_kind' rf_first' rf_value' rf_hutsToldOf' rf_singersToldOf') : q_wx_X10_text_0 (T.2 0) (T.1 0) (T.1 1) (T.1 2) (T.2 1) (T.1 3) (T.1 4) (T.1 5) (T.1 6) (T.1 7) (T.1 8) (T.1 9) (T.2 2) (T.2 3) (T.2 4) (T.2 5) (T.2 6) (T.2 7) (T.2 8) (T.2 9) (T.1 10) (T.1 11) (T.1 12) (T.1 13) (T.1 14) (T.1 15) (T.1 16) (T.2 10) (T.2 11) (T.2 12) (T.2 13) (T.2 14) (T.2 15) (T.2 16) (T.2 17) (T.1 17) (T.2 18) (T.2 19) (T.2 20) (T.1 18) (T.2 21) (T.2 22) (T.2 23) (T.1 19) (T.2 24) (T.2 25) (T.2 26) (T.1 20) (T.2 27) (T.2 28) (T.2 29) (T.1 21) (T.1 22) (T.2 30) (T.2 31) (T.1 23) (T.1 24) (T.2 32) (T.2 33) rlf_huts rlf_singers rlf_villages rlf_dams rlf_echoes rlf_deep rlf_slide rla_heights rla_ladders rla_minutes rla_echoFrom rla_echoTo rla_homes rla_talls rla_known rvf_deeds rva_kinds rva_firsts rva_seconds rsf_facts rsa_heard rsa_huts rsa_minutes rcf_voices rcf_step rca_parts rca_heights rf_fault rf_faultPlace ra_numbers ra_tape rf_length rf_behind rf_kind rf_first rf_value rf_hutsToldOf rf_singersToldOf x1 x2 post := by
  obtain ⟨n, hn, -, hn6, -⟩ := iv_nI hlen (by decide)
  have hcl : (T.1 0).toNatClampNeg = n := by rw [hn]; exact nI_clamp (by omega)
  refine e_numberFor hcnt (fun hno => ⟨fun h => absurd rfl h, fun _ => ?_⟩) (fun o k ho hk e1 hN => ⟨fun _ => ?_, fun h => absurd h (nI_nm2 (by omega))⟩)
  · exact hp (-2) 0 0 (-1) (T.2 1) (T.1 3) (T.1 4) (T.1 5) (T.1 6) (T.1 7) (T.1 8) (T.1 9) (T.2 2) (T.2 3) (T.2 4) (T.2 5) (T.2 6) (T.2 7) (T.2 8) (T.2 9) (T.1 10) (T.1 11) (T.1 12) (T.1 13) (T.1 14) (T.1 15) (T.1 16) (T.2 10) (T.2 11) (T.2 12) (T.2 13) (T.2 14) (T.2 15) (T.2 16) (T.2 17) (T.1 17) (T.2 18) (T.2 19) (T.2 20) (T.1 18) (T.2 21) (T.2 22) (T.2 23) (T.1 19) (T.2 24) (T.2 25) (T.2 26) (T.1 20) (T.2 27) (T.2 28) (T.2 29) (T.1 21) (T.1 22) (T.2 30) (T.2 31) (T.1 23) (T.1 24) (T.2 32) (T.2 33) rlf_huts rlf_singers rlf_villages rlf_dams rlf_echoes rlf_deep rlf_slide rla_heights rla_ladders rla_minutes rla_echoFrom rla_echoTo rla_homes rla_talls rla_known rvf_deeds rva_kinds rva_firsts rva_seconds rsf_facts rsa_heard rsa_huts rsa_minutes rcf_voices rcf_step rca_parts rca_heights rf_fault rf_faultPlace ra_numbers ra_tape rf_length rf_behind rf_kind rf_first rf_value rf_hutsToldOf rf_singersToldOf ⟨rfl, rfl, fun _ => ⟨rfl, rfl, rfl, rfl, same_all⟩, fun o k a b c d => absurd ⟨o, k, a, b, c, d⟩ hno⟩
  · have hTX : TXr T o = tx (nB (T.2 0) n) n o := by unfold TXr; rw [hcl]
    rw [hn, e1]
    refine e_read (B := nB (T.2 0) n) (by omega) (by omega) htape (fun j hj => (if_pos hj).symm) (fun rlf_huts' rlf_singers' rlf_villages' rlf_dams' rlf_echoes' rlf_deep' rlf_slide' rla_heights' rla_ladders' rla_minutes' rla_echoFrom' rla_echoTo' rla_homes' rla_talls' rla_known' rvf_deeds' rva_kinds' rva_firsts' rva_seconds' rsf_facts' rsa_heard' rsa_huts' rsa_minutes' rcf_voices' rcf_step' rca_parts' rca_heights' nums' tp' ln' bh' ki' fi' va' h' s' hD => ?_)
    rw [← hTX] at hD ⊢
    refine ⟨fun hz => ?_, fun hz => ?_⟩
    · obtain ⟨⟨fh, fs, hDR⟩, hCB⟩ := hD hz
      have hoc : o = 0 ∨ o = 1 ∨ o = 2 ∨ o = 3 := by omega
      have hkc : k = 0 ∨ k = 1 := by omega
      rcases hoc with rfl | rfl | rfl | rfl <;> rcases hkc with rfl | rfl
      · refine e_keep_00 (len := 0) (fault := (TXr T 0).1) (place := (TXr T 0).2.1) hCB (hDR.1 rfl).1 (fun nl0f_huts nl0f_singers nl0f_villages nl0f_dams nl0f_echoes nl0f_deep nl0f_slide nl0a_heights nl0a_ladders nl0a_minutes nl0a_echoFrom nl0a_echoTo nl0a_homes nl0a_talls nl0a_known hSL hsm => ?_)
        exact hp (nI 0) 0 (TXr T 0).1 (TXr T 0).2.1 _ nl0f_huts nl0f_singers nl0f_villages nl0f_dams nl0f_echoes nl0f_deep nl0f_slide nl0a_heights nl0a_ladders nl0a_minutes nl0a_echoFrom nl0a_echoTo nl0a_homes nl0a_talls nl0a_known (T.1 10) (T.1 11) (T.1 12) (T.1 13) (T.1 14) (T.1 15) (T.1 16) (T.2 10) (T.2 11) (T.2 12) (T.2 13) (T.2 14) (T.2 15) (T.2 16) (T.2 17) (T.1 17) (T.2 18) (T.2 19) (T.2 20) (T.1 18) (T.2 21) (T.2 22) (T.2 23) (T.1 19) (T.2 24) (T.2 25) (T.2 26) (T.1 20) (T.2 27) (T.2 28) (T.2 29) (T.1 21) (T.1 22) (T.2 30) (T.2 31) (T.1 23) (T.1 24) (T.2 32) (T.2 33) rlf_huts' rlf_singers' rlf_villages' rlf_dams' rlf_echoes' rlf_deep' rlf_slide' rla_heights' rla_ladders' rla_minutes' rla_echoFrom' rla_echoTo' rla_homes' rla_talls' rla_known' rvf_deeds' rva_kinds' rva_firsts' rva_seconds' rsf_facts' rsa_heard' rsa_huts' rsa_minutes' rcf_voices' rcf_step' rca_parts' rca_heights' (TXr T 0).1 (TXr T 0).2.1 nums' tp' ln' bh' ki' fi' va' h' s' (xTX_mk ho hk e1 hN rfl rfl rfl rfl (fun h9 => absurd hz h9) (fun _ => ⟨rfl, rfl, hSL, hsm⟩))
      · refine e_keep_01 (len := 0) (fault := (TXr T 0).1) (place := (TXr T 0).2.1) hCB (hDR.1 rfl).1 (fun nl1f_huts nl1f_singers nl1f_villages nl1f_dams nl1f_echoes nl1f_deep nl1f_slide nl1a_heights nl1a_ladders nl1a_minutes nl1a_echoFrom nl1a_echoTo nl1a_homes nl1a_talls nl1a_known hSL hsm => ?_)
        exact hp (nI 1) 0 (TXr T 0).1 (TXr T 0).2.1 _ (T.1 3) (T.1 4) (T.1 5) (T.1 6) (T.1 7) (T.1 8) (T.1 9) (T.2 2) (T.2 3) (T.2 4) (T.2 5) (T.2 6) (T.2 7) (T.2 8) (T.2 9) nl1f_huts nl1f_singers nl1f_villages nl1f_dams nl1f_echoes nl1f_deep nl1f_slide nl1a_heights nl1a_ladders nl1a_minutes nl1a_echoFrom nl1a_echoTo nl1a_homes nl1a_talls nl1a_known (T.1 17) (T.2 18) (T.2 19) (T.2 20) (T.1 18) (T.2 21) (T.2 22) (T.2 23) (T.1 19) (T.2 24) (T.2 25) (T.2 26) (T.1 20) (T.2 27) (T.2 28) (T.2 29) (T.1 21) (T.1 22) (T.2 30) (T.2 31) (T.1 23) (T.1 24) (T.2 32) (T.2 33) rlf_huts' rlf_singers' rlf_villages' rlf_dams' rlf_echoes' rlf_deep' rlf_slide' rla_heights' rla_ladders' rla_minutes' rla_echoFrom' rla_echoTo' rla_homes' rla_talls' rla_known' rvf_deeds' rva_kinds' rva_firsts' rva_seconds' rsf_facts' rsa_heard' rsa_huts' rsa_minutes' rcf_voices' rcf_step' rca_parts' rca_heights' (TXr T 0).1 (TXr T 0).2.1 nums' tp' ln' bh' ki' fi' va' h' s' (xTX_mk ho hk e1 hN rfl rfl rfl rfl (fun h9 => absurd hz h9) (fun _ => ⟨rfl, rfl, hSL, hsm⟩))
      · refine e_keep_10 (len := 0) (fault := (TXr T 1).1) (place := (TXr T 1).2.1) hCB (hDR.2.1 rfl) (by rw [(hDR.2.1 rfl).1]; exact hCB.1) (fun nv0f_deeds nv0a_kinds nv0a_firsts nv0a_seconds hSL hsm => ?_)
        exact hp (nI 0) 0 (TXr T 1).1 (TXr T 1).2.1 _ (T.1 3) (T.1 4) (T.1 5) (T.1 6) (T.1 7) (T.1 8) (T.1 9) (T.2 2) (T.2 3) (T.2 4) (T.2 5) (T.2 6) (T.2 7) (T.2 8) (T.2 9) (T.1 10) (T.1 11) (T.1 12) (T.1 13) (T.1 14) (T.1 15) (T.1 16) (T.2 10) (T.2 11) (T.2 12) (T.2 13) (T.2 14) (T.2 15) (T.2 16) (T.2 17) nv0f_deeds nv0a_kinds nv0a_firsts nv0a_seconds (T.1 18) (T.2 21) (T.2 22) (T.2 23) (T.1 19) (T.2 24) (T.2 25) (T.2 26) (T.1 20) (T.2 27) (T.2 28) (T.2 29) (T.1 21) (T.1 22) (T.2 30) (T.2 31) (T.1 23) (T.1 24) (T.2 32) (T.2 33) rlf_huts' rlf_singers' rlf_villages' rlf_dams' rlf_echoes' rlf_deep' rlf_slide' rla_heights' rla_ladders' rla_minutes' rla_echoFrom' rla_echoTo' rla_homes' rla_talls' rla_known' rvf_deeds' rva_kinds' rva_firsts' rva_seconds' rsf_facts' rsa_heard' rsa_huts' rsa_minutes' rcf_voices' rcf_step' rca_parts' rca_heights' (TXr T 1).1 (TXr T 1).2.1 nums' tp' ln' bh' ki' fi' va' h' s' (xTX_mk ho hk e1 hN rfl rfl rfl rfl (fun h9 => absurd hz h9) (fun _ => ⟨rfl, rfl, hSL, hsm⟩))
      · refine e_keep_11 (len := 0) (fault := (TXr T 1).1) (place := (TXr T 1).2.1) hCB (hDR.2.1 rfl) (by rw [(hDR.2.1 rfl).1]; exact hCB.1) (fun nv1f_deeds nv1a_kinds nv1a_firsts nv1a_seconds hSL hsm => ?_)
        exact hp (nI 1) 0 (TXr T 1).1 (TXr T 1).2.1 _ (T.1 3) (T.1 4) (T.1 5) (T.1 6) (T.1 7) (T.1 8) (T.1 9) (T.2 2) (T.2 3) (T.2 4) (T.2 5) (T.2 6) (T.2 7) (T.2 8) (T.2 9) (T.1 10) (T.1 11) (T.1 12) (T.1 13) (T.1 14) (T.1 15) (T.1 16) (T.2 10) (T.2 11) (T.2 12) (T.2 13) (T.2 14) (T.2 15) (T.2 16) (T.2 17) (T.1 17) (T.2 18) (T.2 19) (T.2 20) nv1f_deeds nv1a_kinds nv1a_firsts nv1a_seconds (T.1 19) (T.2 24) (T.2 25) (T.2 26) (T.1 20) (T.2 27) (T.2 28) (T.2 29) (T.1 21) (T.1 22) (T.2 30) (T.2 31) (T.1 23) (T.1 24) (T.2 32) (T.2 33) rlf_huts' rlf_singers' rlf_villages' rlf_dams' rlf_echoes' rlf_deep' rlf_slide' rla_heights' rla_ladders' rla_minutes' rla_echoFrom' rla_echoTo' rla_homes' rla_talls' rla_known' rvf_deeds' rva_kinds' rva_firsts' rva_seconds' rsf_facts' rsa_heard' rsa_huts' rsa_minutes' rcf_voices' rcf_step' rca_parts' rca_heights' (TXr T 1).1 (TXr T 1).2.1 nums' tp' ln' bh' ki' fi' va' h' s' (xTX_mk ho hk e1 hN rfl rfl rfl rfl (fun h9 => absurd hz h9) (fun _ => ⟨rfl, rfl, hSL, hsm⟩))
      · refine e_keep_20 (len := 0) (fault := (TXr T 2).1) (place := (TXr T 2).2.1) hCB (hDR.2.2.1 rfl) (by rw [(hDR.2.2.1 rfl).1]; exact hCB.1) (fun ns0f_facts ns0a_heard ns0a_huts ns0a_minutes hSL hsm => ?_)
        exact hp (nI 0) 0 (TXr T 2).1 (TXr T 2).2.1 _ (T.1 3) (T.1 4) (T.1 5) (T.1 6) (T.1 7) (T.1 8) (T.1 9) (T.2 2) (T.2 3) (T.2 4) (T.2 5) (T.2 6) (T.2 7) (T.2 8) (T.2 9) (T.1 10) (T.1 11) (T.1 12) (T.1 13) (T.1 14) (T.1 15) (T.1 16) (T.2 10) (T.2 11) (T.2 12) (T.2 13) (T.2 14) (T.2 15) (T.2 16) (T.2 17) (T.1 17) (T.2 18) (T.2 19) (T.2 20) (T.1 18) (T.2 21) (T.2 22) (T.2 23) ns0f_facts ns0a_heard ns0a_huts ns0a_minutes (T.1 20) (T.2 27) (T.2 28) (T.2 29) (T.1 21) (T.1 22) (T.2 30) (T.2 31) (T.1 23) (T.1 24) (T.2 32) (T.2 33) rlf_huts' rlf_singers' rlf_villages' rlf_dams' rlf_echoes' rlf_deep' rlf_slide' rla_heights' rla_ladders' rla_minutes' rla_echoFrom' rla_echoTo' rla_homes' rla_talls' rla_known' rvf_deeds' rva_kinds' rva_firsts' rva_seconds' rsf_facts' rsa_heard' rsa_huts' rsa_minutes' rcf_voices' rcf_step' rca_parts' rca_heights' (TXr T 2).1 (TXr T 2).2.1 nums' tp' ln' bh' ki' fi' va' h' s' (xTX_mk ho hk e1 hN rfl rfl rfl rfl (fun h9 => absurd hz h9) (fun _ => ⟨rfl, rfl, hSL, hsm⟩))
      · refine e_keep_21 (len := 0) (fault := (TXr T 2).1) (place := (TXr T 2).2.1) hCB (hDR.2.2.1 rfl) (by rw [(hDR.2.2.1 rfl).1]; exact hCB.1) (fun ns1f_facts ns1a_heard ns1a_huts ns1a_minutes hSL hsm => ?_)
        exact hp (nI 1) 0 (TXr T 2).1 (TXr T 2).2.1 _ (T.1 3) (T.1 4) (T.1 5) (T.1 6) (T.1 7) (T.1 8) (T.1 9) (T.2 2) (T.2 3) (T.2 4) (T.2 5) (T.2 6) (T.2 7) (T.2 8) (T.2 9) (T.1 10) (T.1 11) (T.1 12) (T.1 13) (T.1 14) (T.1 15) (T.1 16) (T.2 10) (T.2 11) (T.2 12) (T.2 13) (T.2 14) (T.2 15) (T.2 16) (T.2 17) (T.1 17) (T.2 18) (T.2 19) (T.2 20) (T.1 18) (T.2 21) (T.2 22) (T.2 23) (T.1 19) (T.2 24) (T.2 25) (T.2 26) ns1f_facts ns1a_heard ns1a_huts ns1a_minutes (T.1 21) (T.1 22) (T.2 30) (T.2 31) (T.1 23) (T.1 24) (T.2 32) (T.2 33) rlf_huts' rlf_singers' rlf_villages' rlf_dams' rlf_echoes' rlf_deep' rlf_slide' rla_heights' rla_ladders' rla_minutes' rla_echoFrom' rla_echoTo' rla_homes' rla_talls' rla_known' rvf_deeds' rva_kinds' rva_firsts' rva_seconds' rsf_facts' rsa_heard' rsa_huts' rsa_minutes' rcf_voices' rcf_step' rca_parts' rca_heights' (TXr T 2).1 (TXr T 2).2.1 nums' tp' ln' bh' ki' fi' va' h' s' (xTX_mk ho hk e1 hN rfl rfl rfl rfl (fun h9 => absurd hz h9) (fun _ => ⟨rfl, rfl, hSL, hsm⟩))
      · refine e_keep_30 (len := 0) (fault := (TXr T 3).1) (place := (TXr T 3).2.1) hCB (hDR.2.2.2 rfl) (by rw [(hDR.2.2.2 rfl).1]; exact hCB.1) (fun nc0f_voices nc0f_step nc0a_parts nc0a_heights hSL hsm => ?_)
        exact hp (nI 0) 0 (TXr T 3).1 (TXr T 3).2.1 _ (T.1 3) (T.1 4) (T.1 5) (T.1 6) (T.1 7) (T.1 8) (T.1 9) (T.2 2) (T.2 3) (T.2 4) (T.2 5) (T.2 6) (T.2 7) (T.2 8) (T.2 9) (T.1 10) (T.1 11) (T.1 12) (T.1 13) (T.1 14) (T.1 15) (T.1 16) (T.2 10) (T.2 11) (T.2 12) (T.2 13) (T.2 14) (T.2 15) (T.2 16) (T.2 17) (T.1 17) (T.2 18) (T.2 19) (T.2 20) (T.1 18) (T.2 21) (T.2 22) (T.2 23) (T.1 19) (T.2 24) (T.2 25) (T.2 26) (T.1 20) (T.2 27) (T.2 28) (T.2 29) nc0f_voices nc0f_step nc0a_parts nc0a_heights (T.1 23) (T.1 24) (T.2 32) (T.2 33) rlf_huts' rlf_singers' rlf_villages' rlf_dams' rlf_echoes' rlf_deep' rlf_slide' rla_heights' rla_ladders' rla_minutes' rla_echoFrom' rla_echoTo' rla_homes' rla_talls' rla_known' rvf_deeds' rva_kinds' rva_firsts' rva_seconds' rsf_facts' rsa_heard' rsa_huts' rsa_minutes' rcf_voices' rcf_step' rca_parts' rca_heights' (TXr T 3).1 (TXr T 3).2.1 nums' tp' ln' bh' ki' fi' va' h' s' (xTX_mk ho hk e1 hN rfl rfl rfl rfl (fun h9 => absurd hz h9) (fun _ => ⟨rfl, rfl, hSL, hsm⟩))
      · refine e_keep_31 (len := 0) (fault := (TXr T 3).1) (place := (TXr T 3).2.1) hCB (hDR.2.2.2 rfl) (by rw [(hDR.2.2.2 rfl).1]; exact hCB.1) (fun nc1f_voices nc1f_step nc1a_parts nc1a_heights hSL hsm => ?_)
        exact hp (nI 1) 0 (TXr T 3).1 (TXr T 3).2.1 _ (T.1 3) (T.1 4) (T.1 5) (T.1 6) (T.1 7) (T.1 8) (T.1 9) (T.2 2) (T.2 3) (T.2 4) (T.2 5) (T.2 6) (T.2 7) (T.2 8) (T.2 9) (T.1 10) (T.1 11) (T.1 12) (T.1 13) (T.1 14) (T.1 15) (T.1 16) (T.2 10) (T.2 11) (T.2 12) (T.2 13) (T.2 14) (T.2 15) (T.2 16) (T.2 17) (T.1 17) (T.2 18) (T.2 19) (T.2 20) (T.1 18) (T.2 21) (T.2 22) (T.2 23) (T.1 19) (T.2 24) (T.2 25) (T.2 26) (T.1 20) (T.2 27) (T.2 28) (T.2 29) (T.1 21) (T.1 22) (T.2 30) (T.2 31) nc1f_voices nc1f_step nc1a_parts nc1a_heights rlf_huts' rlf_singers' rlf_villages' rlf_dams' rlf_echoes' rlf_deep' rlf_slide' rla_heights' rla_ladders' rla_minutes' rla_echoFrom' rla_echoTo' rla_homes' rla_talls' rla_known' rvf_deeds' rva_kinds' rva_firsts' rva_seconds' rsf_facts' rsa_heard' rsa_huts' rsa_minutes' rcf_voices' rcf_step' rca_parts' rca_heights' (TXr T 3).1 (TXr T 3).2.1 nums' tp' ln' bh' ki' fi' va' h' s' (xTX_mk ho hk e1 hN rfl rfl rfl rfl (fun h9 => absurd hz h9) (fun _ => ⟨rfl, rfl, hSL, hsm⟩))
    · exact hp (-1) 0 (TXr T o).1 (TXr T o).2.1 (T.2 1) (T.1 3) (T.1 4) (T.1 5) (T.1 6) (T.1 7) (T.1 8) (T.1 9) (T.2 2) (T.2 3) (T.2 4) (T.2 5) (T.2 6) (T.2 7) (T.2 8) (T.2 9) (T.1 10) (T.1 11) (T.1 12) (T.1 13) (T.1 14) (T.1 15) (T.1 16) (T.2 10) (T.2 11) (T.2 12) (T.2 13) (T.2 14) (T.2 15) (T.2 16) (T.2 17) (T.1 17) (T.2 18) (T.2 19) (T.2 20) (T.1 18) (T.2 21) (T.2 22) (T.2 23) (T.1 19) (T.2 24) (T.2 25) (T.2 26) (T.1 20) (T.2 27) (T.2 28) (T.2 29) (T.1 21) (T.1 22) (T.2 30) (T.2 31) (T.1 23) (T.1 24) (T.2 32) (T.2 33) rlf_huts' rlf_singers' rlf_villages' rlf_dams' rlf_echoes' rlf_deep' rlf_slide' rla_heights' rla_ladders' rla_minutes' rla_echoFrom' rla_echoTo' rla_homes' rla_talls' rla_known' rvf_deeds' rva_kinds' rva_firsts' rva_seconds' rsf_facts' rsa_heard' rsa_huts' rsa_minutes' rcf_voices' rcf_step' rca_parts' rca_heights' (TXr T o).1 (TXr T o).2.1 nums' tp' ln' bh' ki' fi' va' h' s' (xTX_mk ho hk e1 hN rfl rfl rfl rfl (fun _ => ⟨rfl, rfl, same_all⟩) (fun h9 => absurd h9 hz))
end
section
theorem e_store_6 {a td : Nat → Int32} {k : Nat} {post : (Nat → Int32) → Prop} (hk : k < 2) (h : ∀ t, (∀ j, j < 132 → t (132 * k + j) = td j) → (∀ j, j < 132 * k ∨ 132 * k + 132 ≤ j → t j = a j) → post t) : q_m_store_6_0 a td 132 (nI k) post := by
  intro P hP
  have loop : ∀ m i (t : Nat → Int32), m + i = 132 → (∀ j, j < i → t (132 * k + j) = td j) → (∀ j, j < 132 * k ∨ 132 * k + 132 ≤ j → t j = a j) → P (nI i) t := by
    intro m
    induction m with
    | zero =>
      intro i t hi h1 h2
      apply hP
      exact pk_le 132 i (fun _ => h t (fun j hj => h1 j (by omega)) h2) (fun h9 => absurd h9 (by omega))
    | succ m ih =>
      intro i t hi h1 h2
      apply hP
      have hix : (132 : Int32) * nI k + nI i = nI (132 * k + i) := by rw [show (132 : Int32) = nI 132 from rfl, pk_mul, nI_add]
      refine pk_le 132 i (fun h9 => absurd h9 (by omega)) (fun _ => ⟨vp_in_nI (by omega) (by omega), fun v ev => ⟨by rw [hix]; exact vp_in_nI (by omega) (by omega), fun t1 e1 v2 e2 => ?_⟩⟩)
      rw [nI_clamp (by omega)] at ev
      rw [hix, nI_clamp (by omega)] at e1
      rw [e2, nI_1, e1, ev]
      refine ih (i + 1) _ (by omega) (fun j hj => ?_) (fun j hj => ?_)
      · by_cases hji : j = i
        · subst hji; exact up_s
        · rw [up_n (by omega)]; exact h1 j (by omega)
      · rw [up_n (by omega)]; exact h2 j hj
  exact loop 132 0 a (by omega) (fun j hj => absurd hj (by omega)) (fun _ _ => rfl)
theorem e_store_7 {a td : Nat → Int32} {k : Nat} {post : (Nat → Int32) → Prop} (hk : k < 2) (h : ∀ t, (∀ j, j < 121 → t (121 * k + j) = td j) → (∀ j, j < 121 * k ∨ 121 * k + 121 ≤ j → t j = a j) → post t) : q_m_store_7_0 a td 121 (nI k) post := by
  intro P hP
  have loop : ∀ m i (t : Nat → Int32), m + i = 121 → (∀ j, j < i → t (121 * k + j) = td j) → (∀ j, j < 121 * k ∨ 121 * k + 121 ≤ j → t j = a j) → P (nI i) t := by
    intro m
    induction m with
    | zero =>
      intro i t hi h1 h2
      apply hP
      exact pk_le 121 i (fun _ => h t (fun j hj => h1 j (by omega)) h2) (fun h9 => absurd h9 (by omega))
    | succ m ih =>
      intro i t hi h1 h2
      apply hP
      have hix : (121 : Int32) * nI k + nI i = nI (121 * k + i) := by rw [show (121 : Int32) = nI 121 from rfl, pk_mul, nI_add]
      refine pk_le 121 i (fun h9 => absurd h9 (by omega)) (fun _ => ⟨vp_in_nI (by omega) (by omega), fun v ev => ⟨by rw [hix]; exact vp_in_nI (by omega) (by omega), fun t1 e1 v2 e2 => ?_⟩⟩)
      rw [nI_clamp (by omega)] at ev
      rw [hix, nI_clamp (by omega)] at e1
      rw [e2, nI_1, e1, ev]
      refine ih (i + 1) _ (by omega) (fun j hj => ?_) (fun j hj => ?_)
      · by_cases hji : j = i
        · subst hji; exact up_s
        · rw [up_n (by omega)]; exact h1 j (by omega)
      · rw [up_n (by omega)]; exact h2 j hj
  exact loop 121 0 a (by omega) (fun j hj => absurd hj (by omega)) (fun _ _ => rfl)
theorem e_store_8 {a td : Nat → Int32} {k : Nat} {post : (Nat → Int32) → Prop} (hk : k < 2) (h : ∀ t, (∀ j, j < 31 → t (31 * k + j) = td j) → (∀ j, j < 31 * k ∨ 31 * k + 31 ≤ j → t j = a j) → post t) : q_m_store_8_0 a td 31 (nI k) post := by
  intro P hP
  have loop : ∀ m i (t : Nat → Int32), m + i = 31 → (∀ j, j < i → t (31 * k + j) = td j) → (∀ j, j < 31 * k ∨ 31 * k + 31 ≤ j → t j = a j) → P (nI i) t := by
    intro m
    induction m with
    | zero =>
      intro i t hi h1 h2
      apply hP
      exact pk_le 31 i (fun _ => h t (fun j hj => h1 j (by omega)) h2) (fun h9 => absurd h9 (by omega))
    | succ m ih =>
      intro i t hi h1 h2
      apply hP
      have hix : (31 : Int32) * nI k + nI i = nI (31 * k + i) := by rw [show (31 : Int32) = nI 31 from rfl, pk_mul, nI_add]
      refine pk_le 31 i (fun h9 => absurd h9 (by omega)) (fun _ => ⟨vp_in_nI (by omega) (by omega), fun v ev => ⟨by rw [hix]; exact vp_in_nI (by omega) (by omega), fun t1 e1 v2 e2 => ?_⟩⟩)
      rw [nI_clamp (by omega)] at ev
      rw [hix, nI_clamp (by omega)] at e1
      rw [e2, nI_1, e1, ev]
      refine ih (i + 1) _ (by omega) (fun j hj => ?_) (fun j hj => ?_)
      · by_cases hji : j = i
        · subst hji; exact up_s
        · rw [up_n (by omega)]; exact h1 j (by omega)
      · rw [up_n (by omega)]; exact h2 j hj
  exact loop 31 0 a (by omega) (fun j hj => absurd hj (by omega)) (fun _ _ => rfl)
theorem e_store_9 {a td : Nat → Int32} {k : Nat} {post : (Nat → Int32) → Prop} (hk : k < 2) (h : ∀ t, (∀ j, j < 20 → t (20 * k + j) = td j) → (∀ j, j < 20 * k ∨ 20 * k + 20 ≤ j → t j = a j) → post t) : q_m_store_9_0 a td 20 (nI k) post := by
  intro P hP
  have loop : ∀ m i (t : Nat → Int32), m + i = 20 → (∀ j, j < i → t (20 * k + j) = td j) → (∀ j, j < 20 * k ∨ 20 * k + 20 ≤ j → t j = a j) → P (nI i) t := by
    intro m
    induction m with
    | zero =>
      intro i t hi h1 h2
      apply hP
      exact pk_le 20 i (fun _ => h t (fun j hj => h1 j (by omega)) h2) (fun h9 => absurd h9 (by omega))
    | succ m ih =>
      intro i t hi h1 h2
      apply hP
      have hix : (20 : Int32) * nI k + nI i = nI (20 * k + i) := by rw [show (20 : Int32) = nI 20 from rfl, pk_mul, nI_add]
      refine pk_le 20 i (fun h9 => absurd h9 (by omega)) (fun _ => ⟨vp_in_nI (by omega) (by omega), fun v ev => ⟨by rw [hix]; exact vp_in_nI (by omega) (by omega), fun t1 e1 v2 e2 => ?_⟩⟩)
      rw [nI_clamp (by omega)] at ev
      rw [hix, nI_clamp (by omega)] at e1
      rw [e2, nI_1, e1, ev]
      refine ih (i + 1) _ (by omega) (fun j hj => ?_) (fun j hj => ?_)
      · by_cases hji : j = i
        · subst hji; exact up_s
        · rw [up_n (by omega)]; exact h1 j (by omega)
      · rw [up_n (by omega)]; exact h2 j hj
  exact loop 20 0 a (by omega) (fun j hj => absurd hj (by omega)) (fun _ _ => rfl)
noncomputable def MXr (M : Nat → Nat → Int32) (o : Nat) : Int32 × Int32 × (Nat → Int32) := tx (nB (M 0) (M 1 0).toNatClampNeg) (M 1 0).toNatClampNeg o
def mTX (M M' : Nat → Nat → Int32) (a1 a2 r : Int32) : Prop := M' 0 = M 0 ∧ M' 9 = M 9 ∧ M' 1 0 = 0 ∧ (∀ j, ¬ j = 0 → M' 1 j = M 1 j ∧ M' 2 j = M 2 j ∧ M' 3 j = M 3 j) ∧
  ((¬ ∃ o k, o < 4 ∧ k < 2 ∧ a1 = nI o ∧ NUM (M 4 o) a2 k) → r = -2 ∧ M' 2 0 = 0 ∧ M' 3 0 = -1 ∧ ∀ i, 4 ≤ i → i < 9 → M' i = M i) ∧
  (∀ o k, o < 4 → k < 2 → a1 = nI o → NUM (M 4 o) a2 k → M' 2 0 = (MXr M o).1 ∧ M' 3 0 = (MXr M o).2.1 ∧ (¬ (MXr M o).1 = 0 → r = -1 ∧ ∀ i, 4 ≤ i → i < 9 → M' i = M i) ∧ ((MXr M o).1 = 0 → r = nI k ∧ M' 4 = upd (M 4) o (cmx (M 4 o) k) ∧ (∀ j, j < wD o → M' (5 + o) (wD o * k + j) = (MXr M o).2.2 j) ∧ (∀ j, j < wD o * k ∨ wD o * k + wD o ≤ j → M' (5 + o) j = M (5 + o) j) ∧ ∀ i, 5 ≤ i → i < 9 → ¬ i = 5 + o → M' i = M i))
theorem mTX_mk {M M' : Nat → Nat → Int32} {a1 a2 r : Int32} {o k : Nat} (ho : o < 4) (hk : k < 2) (e : a1 = nI o) (hN : NUM (M 4 o) a2 k) (h0 : M' 0 = M 0) (h9 : M' 9 = M 9) (h1 : M' 1 0 = 0) (hs : ∀ j, ¬ j = 0 → M' 1 j = M 1 j ∧ M' 2 j = M 2 j ∧ M' 3 j = M 3 j) (h2 : M' 2 0 = (MXr M o).1) (h3 : M' 3 0 = (MXr M o).2.1) (h4 : ¬ (MXr M o).1 = 0 → r = -1 ∧ ∀ i, 4 ≤ i → i < 9 → M' i = M i) (h5 : (MXr M o).1 = 0 → r = nI k ∧ M' 4 = upd (M 4) o (cmx (M 4 o) k) ∧ (∀ j, j < wD o → M' (5 + o) (wD o * k + j) = (MXr M o).2.2 j) ∧ (∀ j, j < wD o * k ∨ wD o * k + wD o ≤ j → M' (5 + o) j = M (5 + o) j) ∧ ∀ i, 5 ≤ i → i < 9 → ¬ i = 5 + o → M' i = M i) : mTX M M' a1 a2 r := by
  refine ⟨h0, h9, h1, hs, fun hno => absurd ⟨o, k, ho, hk, e, hN⟩ hno, fun o' k' ho' hk' e' hN' => ?_⟩
  have eo : o = o' := (nI_eq (by omega) (by omega)).mp (e.symm.trans e')
  subst eo
  have ek := NUM_un hk hk' hN hN'
  subst ek
  exact ⟨h2, h3, h4, h5⟩
theorem up_2 {f : Nat → Int32} {a v w : Int32} (j : Nat) (h : ¬ j = a.toNatClampNeg) : upd (upd f a.toNatClampNeg v) a.toNatClampNeg w j = f j := by rw [up_n h, up_n h]
set_option maxRecDepth 40000 in
set_option maxHeartbeats 4000000 in
theorem e_m_text2 {M : Nat → Nat → Int32} {cd re ln be so va wr lf lp fh fs gd x1 x2 : Int32} {wd : Int64} {told rd : Nat → Int32} {post : Int32 → Int32 → (Nat → Int32) → (Nat → Int32) → (Nat → Int32) → (Nat → Int32) → (Nat → Int32) → (Nat → Int32) → (Nat → Int32) → (Nat → Int32) → Int32 → Int32 → Int32 → Int32 → Int32 → Int64 → Int32 → Int32 → Int32 → (Nat → Int32) → (Nat → Int32) → Int32 → Int32 → Int32 → Prop} (hlen : iv 0 600 (M 1 0)) (htape : ∀ j, iv (-128) 127 (M 0 j)) (hcnt : ∀ j, iv 0 2 (M 4 j)) (hp : ∀ (r : Int32) (sz fl fp mn ld ev sg ch : Nat → Int32) (re ln be so va : Int32) (wd : Int64) (wr lf lp : Int32) (td rd : Nat → Int32) (fh fs gd : Int32), mTX M (mmk (M 0) sz fl fp mn ld ev sg ch (M 9)) x1 x2 r → post r 0 sz fl fp mn ld ev sg ch re ln be so va wd wr lf lp td rd fh fs gd) : q_m_text_0 cd (M 0) (M 1) (M 2) (M 3) (M 4) (M 5) (M 6) (M 7) (M 8) re ln be so va wd wr lf lp told rd fh fs gd x1 x2 post := by
  obtain ⟨n, hn, -, hn6, -⟩ := iv_nI hlen (by decide)
  have hcl : (M 1 0).toNatClampNeg = n := by rw [hn]; exact nI_clamp (by omega)
  intro v ev sz es fl ef fp ep
  rw [c_0] at ev es ef ep
  rw [hn] at ev
  subst ev
  have no : (¬ ∃ o k, o < 4 ∧ k < 2 ∧ x1 = nI o ∧ NUM (M 4 o) x2 k) → post (-2) 0 sz fl fp (M 4) (M 5) (M 6) (M 7) (M 8) re (nI n) be so va wd wr lf lp told rd fh fs gd := by
    intro hno
    refine hp _ _ _ _ _ _ _ _ _ _ _ _ _ _ _ _ _ _ _ _ _ _ _ ⟨rfl, rfl, ?_, fun j hj => ⟨?_, ?_, ?_⟩, fun _ => ⟨rfl, ?_, ?_, fun i h1 h2 => ?_⟩, fun o k a b c d => absurd ⟨o, k, a, b, c, d⟩ hno⟩
    · show sz 0 = 0
      rw [es]; exact up_s
    · show sz j = M 1 j
      rw [es]; exact up_n hj
    · show fl j = M 2 j
      rw [ef]; exact up_n hj
    · show fp j = M 3 j
      rw [ep]; exact up_n hj
    · show fl 0 = 0
      rw [ef]; exact up_s
    · show fp 0 = -1
      rw [ep]; exact up_s
    · have : i = 4 ∨ i = 5 ∨ i = 6 ∨ i = 7 ∨ i = 8 := by omega
      rcases this with rfl | rfl | rfl | rfl | rfl <;> rfl
  -- a text of a sort, as number k
  have yes : ∀ o k, o < 4 → k < 2 → x1 = nI o → NUM (M 4 o) x2 k → q_m_text_75 0 (M 0) sz fl fp (M 4) (M 5) (M 6) (M 7) (M 8) re (nI n) be so va wd wr lf lp told rd fh fs gd x1 x2 post := by
    intro o k ho hk e1 hN
    have hMX : MXr M o = tx (nB (M 0) n) n o := by unfold MXr; rw [hcl]
    have hbb : ∀ j, iv (-128) 127 (nB (M 0) n j) := fun j => by
      unfold nB
      by_cases hj : j < n
      · rw [if_pos hj]; exact htape j
      · rw [if_neg hj]; exact iv_lit (by decide)
    rw [e1]
    refine e_readText (B := nB (M 0) n) (by omega) (fun j hj => (if_pos hj).symm) hbb (by omega) (fun hz re be so va wd wr lf lp td rd fh fs gd => zi ?_) (fun hz re be so va wd wr lf lp td rd fh fs gd htd => io ?_)
    · rw [← hMX] at hz ⊢
      refine hp _ _ _ _ _ _ _ _ _ _ _ _ _ _ _ _ _ _ _ _ _ _ _ (mTX_mk ho hk e1 hN rfl rfl ?_ (fun j hj => ⟨?_, ?_, ?_⟩) ?_ ?_ (fun _ => ⟨rfl, fun i h1 h2 => ?_⟩) (fun h9 => absurd h9 hz))
      · show sz 0 = 0
        rw [es]; exact up_s
      · show sz j = M 1 j
        rw [es]; exact up_n hj
      · show upd fl 0 _ j = M 2 j
        rw [up_n hj, ef]; exact up_n hj
      · show upd fp 0 _ j = M 3 j
        rw [up_n hj, ep]; exact up_n hj
      · exact up_s
      · exact up_s
      · have : i = 4 ∨ i = 5 ∨ i = 6 ∨ i = 7 ∨ i = 8 := by omega
        rcases this with rfl | rfl | rfl | rfl | rfl <;> rfl
    · rw [← hMX] at hz htd ⊢
      -- the number, the count
      have t100 : q_m_text_100 0 (M 0) sz (upd fl 0 (MXr M o).1) (upd fp 0 (MXr M o).2.1) (M 4) (M 5) (M 6) (M 7) (M 8) re (nI n) be so va wd wr lf lp td rd fh fs gd (nI o) x2 (nI k) post := by
        have t118 : ∀ y : Int32, M 4 o + y = cmx (M 4 o) k → q_m_text_118 0 (M 0) sz (upd fl 0 (MXr M o).1) (upd fp 0 (MXr M o).2.1) (M 4) (M 5) (M 6) (M 7) (M 8) re (nI n) be so va wd wr lf lp td rd fh fs gd (nI o) (nI k) (nI o) (M 4 o) y post := by
          intro y hy v1 e9
          refine ⟨vp_in_nI (by omega) (by omega), fun mn em => ?_⟩
          rw [nI_clamp (by omega), e9, hy] at em
          have fin : ∀ ld ev sg ch : Nat → Int32, (∀ j, j < wD o → (mmk (M 0) sz (upd fl 0 (MXr M o).1) (upd fp 0 (MXr M o).2.1) mn ld ev sg ch (M 9)) (5 + o) (wD o * k + j) = td j) → (∀ j, j < wD o * k ∨ wD o * k + wD o ≤ j → (mmk (M 0) sz (upd fl 0 (MXr M o).1) (upd fp 0 (MXr M o).2.1) mn ld ev sg ch (M 9)) (5 + o) j = M (5 + o) j) → (∀ i, 5 ≤ i → i < 9 → ¬ i = 5 + o → (mmk (M 0) sz (upd fl 0 (MXr M o).1) (upd fp 0 (MXr M o).2.1) mn ld ev sg ch (M 9)) i = M i) → post (nI k) 0 sz (upd fl 0 (MXr M o).1) (upd fp 0 (MXr M o).2.1) mn ld ev sg ch re (nI n) be so va wd wr lf lp td rd fh fs gd := by
            intro ld ev sg ch g1 g2 g3
            refine hp _ _ _ _ _ _ _ _ _ _ _ _ _ _ _ _ _ _ _ _ _ _ _ (mTX_mk ho hk e1 hN rfl rfl ?_ (fun j hj => ⟨?_, ?_, ?_⟩) ?_ ?_ (fun h9 => absurd hz h9) (fun _ => ⟨rfl, ?_, fun j hj => (g1 j hj).trans (htd j ?_), g2, g3⟩))
            · show sz 0 = 0
              rw [es]; exact up_s
            · show sz j = M 1 j
              rw [es]; exact up_n hj
            · show upd fl 0 _ j = M 2 j
              rw [up_n hj, ef]; exact up_n hj
            · show upd fp 0 _ j = M 3 j
              rw [up_n hj, ep]; exact up_n hj
            · exact up_s
            · exact up_s
            · exact em
            · have hw : ∀ o, o < 4 → wD o ≤ 132 := by decide
              have := hw o ho
              omega
          have hoc : o = 0 ∨ o = 1 ∨ o = 2 ∨ o = 3 := by omega
          rcases hoc with rfl | rfl | rfl | rfl
          · refine ⟨fun h9 => absurd h9 (by decide +kernel), fun _ => ?_, fun h9 => absurd h9 (by decide +kernel), fun h9 => absurd h9 (by decide +kernel)⟩
            exact e_store_6 hk (fun t a b => fin t _ _ _ a b (fun i h1 h2 h3 => by
              have : i = 6 ∨ i = 7 ∨ i = 8 := by omega
              rcases this with rfl | rfl | rfl <;> rfl))
          · refine ⟨fun h9 => absurd h9 (by decide +kernel), fun h9 => absurd h9 (by decide +kernel), fun _ => ?_, fun h9 => absurd h9 (by decide +kernel)⟩
            exact e_store_7 hk (fun t a b => fin _ t _ _ a b (fun i h1 h2 h3 => by
              have : i = 5 ∨ i = 7 ∨ i = 8 := by omega
              rcases this with rfl | rfl | rfl <;> rfl))
          · refine ⟨fun h9 => absurd h9 (by decide +kernel), fun h9 => absurd h9 (by decide +kernel), fun h9 => absurd h9 (by decide +kernel), fun _ => ?_⟩
            exact e_store_8 hk (fun t a b => fin _ _ t _ a b (fun i h1 h2 h3 => by
              have : i = 5 ∨ i = 6 ∨ i = 8 := by omega
              rcases this with rfl | rfl | rfl <;> rfl))
          · refine ⟨fun _ => ?_, fun h9 => absurd h9 (by decide +kernel), fun h9 => absurd h9 (by decide +kernel), fun h9 => absurd h9 (by decide +kernel)⟩
            exact e_store_9 hk (fun t a b => fin _ _ _ t a b (fun i h1 h2 h3 => by
              have : i = 5 ∨ i = 6 ∨ i = 7 := by omega
              rcases this with rfl | rfl | rfl <;> rfl))
        refine ⟨vp_in_nI (by omega) (by omega), fun hx => ?_, fun hx => ?_⟩
        · rw [nI_clamp (by omega)]
          refine t118 0 ?_
          rcases hN with ⟨q1, _⟩ | ⟨_, _, q3⟩
          · exact absurd q1 hx
          · unfold cmx
            rw [nI_1, if_neg (Int32.not_lt.mpr ?_)]
            · simp
            · obtain ⟨c, hc, -, hc2, -⟩ := iv_nI (hcnt o) (by decide)
              rw [hc] at q3 ⊢
              have := (nI_ltI (by omega) (by omega)).mp q3
              exact nI_le (by omega) (by omega)
        · rw [nI_clamp (by omega)]
          refine t118 1 ?_
          rcases hN with ⟨_, q2⟩ | ⟨q1, _, _⟩
          · unfold cmx
            rw [q2, nI_1, if_pos (nI_lt (by omega) (by omega))]
          · exact absurd hx q1
      refine ⟨fun hx => ?_, fun hx => ⟨vp_in_nI (by omega) (by omega), ?_⟩⟩
      · rcases hN with ⟨q1, _⟩ | ⟨_, q2, _⟩
        · exact absurd q1 hx
        · have e : q_m_text_100 0 (M 0) sz (upd fl 0 (MXr M o).1) (upd fp 0 (MXr M o).2.1) (M 4) (M 5) (M 6) (M 7) (M 8) re (nI n) be so va wd wr lf lp td rd fh fs gd (nI o) x2 x2 post = q_m_text_100 0 (M 0) sz (upd fl 0 (MXr M o).1) (upd fp 0 (MXr M o).2.1) (M 4) (M 5) (M 6) (M 7) (M 8) re (nI n) be so va wd wr lf lp td rd fh fs gd (nI o) x2 (nI k) post := by rw [← q2]
          rw [e]
          exact t100
      · rw [nI_clamp (by omega)]
        rcases hN with ⟨_, q2⟩ | ⟨q1, _, _⟩
        · have e : q_m_text_100 0 (M 0) sz (upd fl 0 (MXr M o).1) (upd fp 0 (MXr M o).2.1) (M 4) (M 5) (M 6) (M 7) (M 8) re (nI n) be so va wd wr lf lp td rd fh fs gd (nI o) x2 (M 4 o) post = q_m_text_100 0 (M 0) sz (upd fl 0 (MXr M o).1) (upd fp 0 (MXr M o).2.1) (M 4) (M 5) (M 6) (M 7) (M 8) re (nI n) be so va wd wr lf lp td rd fh fs gd (nI o) x2 (nI k) post := by rw [← q2]
          rw [e]
          exact t100
        · exact absurd hx q1
  refine sp_in (fun h => iz (no ?_)) (fun h1 h2 => oi ?_)
  · rintro ⟨o, k, ho, _, e, _⟩
    rw [e] at h
    exact h ⟨nI_pos' (by omega), nI_le (b := 3) (by omega) (by omega)⟩
  · obtain ⟨o, ho, e⟩ := nI_of2 (M := 3) (n := 3) (by decide) (Int32.not_lt.mpr h1) h2
    obtain ⟨c, hc, -, hc2, -⟩ := iv_nI (hcnt o) (by decide)
    have noN : (∀ k, k < 2 → ¬ NUM (M 4 o) x2 k) → ¬ ∃ o k, o < 4 ∧ k < 2 ∧ x1 = nI o ∧ NUM (M 4 o) x2 k := by
      rintro hno ⟨o', k, ho', hk, e', hN⟩
      have : o = o' := (nI_eq (by omega) (by omega)).mp (e.symm.trans e')
      subst this
      exact hno k hk hN
    have hclo : Int32.toNatClampNeg x1 = o := by rw [e]; exact nI_clamp (by omega)
    have hin16 : vp_in x1 16 := by rw [e]; exact vp_in_nI (by omega) (by omega)
    refine ⟨fun hx => ⟨hin16, ?_⟩, fun hx => ⟨hin16, ?_⟩⟩
    · rw [hclo]
      refine sp_in (fun h => ⟨rfl, zi (no (noN ?_))⟩) (fun g1 g2 => ⟨rfl, io ?_⟩)
      · rintro k hk (⟨q1, _⟩ | ⟨_, q2, q3⟩)
        · exact hx q1
        · refine h ⟨?_, ?_⟩
          · rw [q2]; exact nI_pos' (by omega)
          · rw [q2, hc]
            rw [hc] at q3
            have := (nI_ltI (by omega) (by omega)).mp q3
            rw [show (1 : Int32) = nI 1 from rfl, pk_sub (by omega)]
            exact nI_le (by omega) (by omega)
      · rw [hc] at g2
        have h1c : 1 ≤ c := by
          by_cases hc0 : c = 0
          · exfalso
            rw [hc0] at g2
            have a := r_le g1
            have b := r_le g2
            have e0 : (0 : Int32).toInt = 0 := rfl
            have em : (nI 0 - 1 : Int32).toInt = -1 := by decide
            omega
          · omega
        rw [show (1 : Int32) = nI 1 from rfl, pk_sub h1c] at g2
        obtain ⟨k, hk, ek⟩ := nI_of2 (M := nI (c - 1)) (n := c - 1) (x := x2) (nI_toInt (by omega)) (Int32.not_lt.mpr g1) g2
        exact yes o k (by omega) (by omega) e (Or.inr ⟨hx, ek, by rw [hc]; exact nI_lt (by omega) (by omega)⟩)
    · rw [hclo]
      refine ⟨fun h => ?_, fun h => no (noN ?_)⟩
      · have hcl2 : c < 2 := by
          by_cases h9 : c = 2
          · exact absurd (by rw [hc, h9]; rfl) h
          · omega
        exact yes o c (by omega) hcl2 e (Or.inl ⟨hx, hc⟩)
      · rintro k hk (⟨_, q2⟩ | ⟨q1, _, _⟩)
        · rw [q2] at h
          have := (nI_eq (a := k) (b := 2) (by omega) (by omega)).mp h
          omega
        · exact q1 hx
end
section
/-- bytes of a number -/
def byt (v : Int32) (i : Nat) : Int32 := (Int32.toInt8 (v >>> (nI (24 - 8 * i) &&& 31))).toInt32
theorem sh_eq (v : Int32) (s : Int32) (k : Nat) (hk : k ≤ 24) (h1 : (s.toBitVec.smod 32).toNat = k) (h2 : ((s.toUInt32 &&& Int32.toUInt32 31).toBitVec % 32).toNat = k) : Int32.toInt8 ((Int32.toUInt32 v >>> (Int32.toUInt32 s &&& Int32.toUInt32 31)).toInt32) = Int32.toInt8 (v >>> s) := by
  apply Int8.toBitVec_inj.mp
  have e1 : ((Int32.toUInt32 v >>> (Int32.toUInt32 s &&& Int32.toUInt32 31)).toInt32).toBitVec = v.toBitVec >>> k := by
    have h3 : ((Int32.toUInt32 v >>> (Int32.toUInt32 s &&& Int32.toUInt32 31)).toInt32).toBitVec = v.toBitVec >>> ((s.toUInt32 &&& Int32.toUInt32 31).toBitVec % 32) := rfl
    rw [h3, BitVec.ushiftRight_eq', h2]
  have e2 : (v >>> s).toBitVec = v.toBitVec.sshiftRight k := by
    have h3 : (v >>> s).toBitVec = v.toBitVec.sshiftRight' (s.toBitVec.smod 32) := rfl
    rw [h3, BitVec.sshiftRight_eq', h1]
  show ((Int32.toUInt32 v >>> (Int32.toUInt32 s &&& Int32.toUInt32 31)).toInt32).toBitVec.signExtend 8 = (v >>> s).toBitVec.signExtend 8
  rw [e1, e2]
  apply BitVec.eq_of_getLsbD_eq
  intro i hi
  rw [BitVec.getLsbD_signExtend, BitVec.getLsbD_signExtend]
  have hi32 : i < 32 := by omega
  simp only [hi, hi32, decide_true, Bool.true_and, if_true]
  rw [BitVec.getLsbD_ushiftRight, BitVec.getLsbD_sshiftRight]
  have h4 : ¬ 32 ≤ i := by omega
  have h5 : k + i < 32 := by omega
  simp [h4, h5]
theorem byt_x (v : Int32) : ∀ i, i < 4 → (Int32.toInt8 ((Int32.toUInt32 v >>> (Int32.toUInt32 (nI (24 - 8 * i)) &&& Int32.toUInt32 31)).toInt32)).toInt32 = byt v i := by
  intro i hi
  have hc : i = 0 ∨ i = 1 ∨ i = 2 ∨ i = 3 := by omega
  unfold byt
  rcases hc with rfl | rfl | rfl | rfl
  · rw [sh_eq v (nI 24) 24 (by omega) (by decide) (by decide), show nI 24 &&& 31 = nI 24 by decide]
  · rw [sh_eq v (nI 16) 16 (by omega) (by decide) (by decide), show nI 16 &&& 31 = nI 16 by decide]
  · rw [sh_eq v (nI 8) 8 (by omega) (by decide) (by decide), show nI 8 &&& 31 = nI 8 by decide]
  · rw [sh_eq v (nI 0) 0 (by omega) (by decide) (by decide), show nI 0 &&& 31 = nI 0 by decide]
/-- four bytes come behind n -/
def B4 (t t' : Nat → Int32) (n : Nat) (v : Int32) : Prop := (∀ j, ¬ (n ≤ j ∧ j < n + 4) → t' j = t j) ∧ ∀ i, i < 4 → t' (n + i) = byt v i
theorem B4_of {t t1 t2 t3 t4 : Nat → Int32} {n : Nat} {v : Int32} (h1 : t1 = upd t n (byt v 0)) (h2 : t2 = upd t1 (n + 1) (byt v 1)) (h3 : t3 = upd t2 (n + 2) (byt v 2)) (h4 : t4 = upd t3 (n + 3) (byt v 3)) : B4 t t4 n v := by
  refine ⟨fun j hj => ?_, fun i hi => ?_⟩
  · rw [h4, up_n (by omega), h3, up_n (by omega), h2, up_n (by omega), h1, up_n (by omega)]
  · have hc : i = 0 ∨ i = 1 ∨ i = 2 ∨ i = 3 := by omega
    rcases hc with rfl | rfl | rfl | rfl
    · rw [h4, up_n (by omega), h3, up_n (by omega), h2, up_n (by omega), h1]; exact up_s
    · rw [h4, up_n (by omega), h3, up_n (by omega), h2]; exact up_s
    · rw [h4, up_n (by omega), h3]; exact up_s
    · rw [h4]; exact up_s
theorem e_put2 {t : Nat → Int32} {n : Nat} {v : Int32} {post : (Nat → Int32) → Int32 → Prop} (hn : n + 4 ≤ 600) (h : ∀ t', B4 t t' n v → post t' (nI (n + 4))) : q_wx_X9_put_0 t (nI n) v post := by
  intro P hP
  have st : ∀ (i : Nat) (x y : Int32) (t : Nat → Int32) (m : Nat), i < 4 → x = nI (24 - 8 * i) → ¬ x < 0 → y = x + -8 → m + 1 ≤ 600 → P y (upd t m (byt v i)) (nI (m + 1)) → P x t (nI m) := by
    intro i x y t m hi hx h1 h2 h3 h5
    apply hP
    refine ⟨fun h => absurd h h1, fun _ => ⟨fun h => absurd h (nI_ge (b := 600) (by omega) (by omega)), fun _ v1 e1 => ⟨vp_in_nI (by omega) (by omega), fun t1 e2 v2 e3 v3 e5 => ?_⟩⟩⟩
    rw [hx, byt_x v i hi] at e1
    rw [e1, nI_clamp (by omega)] at e2
    have e6 : vp_nar .byte (byt v i) = byt v i := pk_vb _
    rw [e6] at e2
    rw [e3, nI_1, e5, ← h2, e2]
    exact h5
  refine st 0 24 16 _ n (by omega) rfl (by decide) (by decide) (by omega) ?_
  refine st 1 16 8 _ (n + 1) (by omega) rfl (by decide) (by decide) (by omega) ?_
  refine st 2 8 0 _ (n + 2) (by omega) rfl (by decide) (by decide) (by omega) ?_
  refine st 3 0 (-8) _ (n + 3) (by omega) rfl (by decide) (by decide) (by omega) ?_
  apply hP
  exact ⟨fun _ => h _ (B4_of rfl rfl rfl rfl), fun h => absurd (by decide) h⟩
theorem e_four2 {t z : Nat → Int32} {n : Nat} {v : Int32} {post : (Nat → Int32) → (Nat → Int32) → Prop} (hs : z 0 = nI n) (hn : n + 4 ≤ 600) (h : ∀ t' z', B4 t t' n v → z' 0 = nI (n + 4) → (∀ j, ¬ j = 0 → z' j = z j) → post t' z') : q_m_four_0 t z v post := by
  intro P hP
  have st : ∀ (i : Nat) (x y : Int32) (t z : Nat → Int32) (m : Nat), i < 4 → x = nI (24 - 8 * i) → ¬ x < 0 → y = x + -8 → z 0 = nI m → m + 1 ≤ 600 → (∀ z', z' 0 = nI (m + 1) → (∀ j, ¬ j = 0 → z' j = z j) → P y (upd t m (byt v i)) z') → P x t z := by
    intro i x y t z m hi hx h1 h2 h3 h4 h5
    apply hP
    refine ⟨fun h => absurd h h1, fun _ v1 e1 => ?_⟩
    rw [c_0, h3]
    refine ⟨vp_in_nI (by omega) (by omega), fun t1 e2 v2 e3 z1 e4 v3 e5 => ?_⟩
    rw [hx] at e1
    rw [e1, nI_clamp (by omega)] at e2
    have e6 : vp_nar .byte (byt v i) = byt v i := pk_vb _
    have e7 : t1 = upd t m (byt v i) := by rw [e2]; exact congrArg _ e6
    rw [nI_1] at e3
    rw [e5, ← h2, e7]
    refine h5 z1 ?_ (fun j hj => ?_)
    · rw [e4, e3]; exact up_s
    · rw [e4]; exact up_n hj
  refine st 0 24 16 _ _ n (by omega) rfl (by decide) (by decide) hs (by omega) fun z1 a1 n1 => ?_
  refine st 1 16 8 _ _ (n + 1) (by omega) rfl (by decide) (by decide) a1 (by omega) fun z2 a2 n2 => ?_
  refine st 2 8 0 _ _ (n + 2) (by omega) rfl (by decide) (by decide) a2 (by omega) fun z3 a3 n3 => ?_
  refine st 3 0 (-8) _ _ (n + 3) (by omega) rfl (by decide) (by decide) a3 (by omega) fun z4 a4 n4 => ?_
  apply hP
  exact ⟨fun _ => h _ z4 (B4_of rfl rfl rfl rfl) a4 (fun j hj => by rw [n4 j hj, n3 j hj, n2 j hj, n1 j hj]), fun h => absurd (by decide) h⟩
/-- twenty bytes come behind n -/
def B20 (t t' : Nat → Int32) (n : Nat) (a b c d e : Int32) : Prop := ∃ t1 t2 t3 t4, B4 t t1 n a ∧ B4 t1 t2 (n + 4) b ∧ B4 t2 t3 (n + 4 + 4) c ∧ B4 t3 t4 (n + 4 + 4 + 4) d ∧ B4 t4 t' (n + 4 + 4 + 4 + 4) e
theorem B4_un {t u t' u' : Nat → Int32} {n m : Nat} {v : Int32} (hm : m ≤ n) (h : B4 t t' n v) (g : B4 u u' n v) (he : ∀ j, j < n → t j = u j) : ∀ j, j < n + 4 → t' j = u' j := by
  intro j hj
  by_cases hjn : j < n
  · rw [h.1 j (by omega), g.1 j (by omega)]; exact he j hjn
  · obtain ⟨i, hi⟩ : ∃ i, j = n + i := ⟨j - n, by omega⟩
    rw [hi, h.2 i (by omega), g.2 i (by omega)]
theorem B20_un {t u t' u' : Nat → Int32} {n : Nat} {a b c d e : Int32} (h : B20 t t' n a b c d e) (g : B20 u u' n a b c d e) (he : ∀ j, j < n → t j = u j) : ∀ j, j < n + 20 → t' j = u' j := by
  obtain ⟨t1, t2, t3, t4, h1, h2, h3, h4, h5⟩ := h
  obtain ⟨u1, u2, u3, u4, g1, g2, g3, g4, g5⟩ := g
  have k1 := B4_un (m := 0) (by omega) h1 g1 he
  have k2 := B4_un (m := 0) (by omega) h2 g2 k1
  have k3 := B4_un (m := 0) (by omega) h3 g3 k2
  have k4 := B4_un (m := 0) (by omega) h4 g4 k3
  have k5 := B4_un (m := 0) (by omega) h5 g5 k4
  exact fun j hj => k5 j (by omega)
theorem B20_out {t t' : Nat → Int32} {n : Nat} {a b c d e : Int32} (h : B20 t t' n a b c d e) : ∀ j, n + 20 ≤ j → t' j = t j := by
  obtain ⟨t1, t2, t3, t4, h1, h2, h3, h4, h5⟩ := h
  intro j hj
  rw [h5.1 j (by omega), h4.1 j (by omega), h3.1 j (by omega), h2.1 j (by omega), h1.1 j (by omega)]
theorem e_x_feed2 {t : Nat → Int32} {l x1 x2 x3 x4 x5 : Int32} {post : Int32 → (Nat → Int32) → Int32 → Prop} (hl : iv 0 600 l) (h0 : ¬ l + 20 ≤ 600 → post (-1) t l) (h1 : ∀ n, l = nI n → n + 20 ≤ 600 → ∀ t', B20 t t' n x1 x2 x3 x4 x5 → post (nI (n + 20)) t' (nI (n + 20))) : q_wx_X10_feed_0 t l x1 x2 x3 x4 x5 post := by
  obtain ⟨n, rfl, -, hn6, hn2⟩ := iv_nI hl (by omega)
  have hn : n ≤ 600 := by omega
  refine ⟨fun hc => ?_, fun hc => h0 hc⟩
  have hle := (e_len hn).mp hc
  refine e_put2 (by omega) fun t1 d1 => ?_
  refine e_put2 (n := n + 4) (by omega) fun t2 d2 => ?_
  refine e_put2 (n := n + 4 + 4) (by omega) fun t3 d3 => ?_
  refine e_put2 (n := n + 4 + 4 + 4) (by omega) fun t4 d4 => ?_
  refine e_put2 (n := n + 4 + 4 + 4 + 4) (by omega) fun t5 d5 => ?_
  exact h1 n rfl hle t5 ⟨t1, t2, t3, t4, d1, d2, d3, d4, d5⟩
theorem e_m_feed2 {f_code : Int32} {t z : Nat → Int32} {x1 x2 x3 x4 x5 : Int32} {post : Int32 → Int32 → (Nat → Int32) → (Nat → Int32) → Prop} (hz : iv 0 600 (z 0)) (h0 : ¬ z 0 + 20 ≤ 600 → post (-1) 0 t z) (h1 : ∀ n, z 0 = nI n → n + 20 ≤ 600 → ∀ t' z', B20 t t' n x1 x2 x3 x4 x5 → z' 0 = nI (n + 20) → (∀ j, ¬ j = 0 → z' j = z j) → post (nI (n + 20)) 0 t' z') : q_m_feed_0 f_code t z x1 x2 x3 x4 x5 post := by
  obtain ⟨n, hn, -, hn6, hn2⟩ := iv_nI hz (by omega)
  refine ⟨fun hc => ?_, fun hc => h0 (by rw [c_0] at hc; exact hc)⟩
  rw [c_0, hn] at hc
  have hle := (e_len (by omega)).mp hc
  refine e_four2 hn (by omega) fun t1 z1 d1 a1 n1 => ?_
  refine e_four2 a1 (by omega) fun t2 z2 d2 a2 n2 => ?_
  refine e_four2 a2 (by omega) fun t3 z3 d3 a3 n3 => ?_
  refine e_four2 a3 (by omega) fun t4 z4 d4 a4 n4 => ?_
  refine e_four2 a4 (by omega) fun t5 z5 d5 a5 n5 => ?_
  have g := h1 n hn hle t5 z5 ⟨t1, t2, t3, t4, d1, d2, d3, d4, d5⟩ a5 (fun j hj => by rw [n5 j hj, n4 j hj, n3 j hj, n2 j hj, n1 j hj])
  rw [c_0, a5]
  exact g
/-- the reference copies a slot to another -/
def wR (c : Nat) : Nat := [600, 1, 1, 1, 4, 264, 242, 62, 40].getD c 0
def rCP (a a' : Nat → Int32) (w f g : Nat) : Prop := (∀ i, i < w → a' (w * g + i) = a (w * f + i)) ∧ ∀ j, j < w * g ∨ w * g + w ≤ j → a' j = a j
def mCP (M M' : Nat → Nat → Int32) (f g : Nat) : Prop := ∀ c, c < 9 → rCP (M c) (M' c) (wR c) f g
theorem nar_b {x : Int32} (h : iv (-128) 127 x) : vp_nar .byte x = x := by
  rw [vp_nar_byte]
  apply Int32.toInt_inj.mp
  rw [Int8.toInt_toInt32, Int32.toInt_toInt8]
  have := h.1
  have := h.2
  exact Int.bmod_eq_of_le (by omega) (by omega)
theorem e_copyAll2 {M : Nat → Nat → Int32} {f g : Nat} {post : (Nat → Int32) → (Nat → Int32) → (Nat → Int32) → (Nat → Int32) → (Nat → Int32) → (Nat → Int32) → (Nat → Int32) → (Nat → Int32) → (Nat → Int32) → Prop} (hf : f ≤ 3) (hg : g ≤ 3) (hne : ¬ f = g) (ht : ∀ j, iv (-128) 127 (M 0 j)) (h : ∀ t z fa fp mn l e s c kp, mCP M (mmk t z fa fp mn l e s c kp) f g → post t z fa fp mn l e s c) : q_m_copyAll_0 (M 0) (M 1) (M 2) (M 3) (M 4) (M 5) (M 6) (M 7) (M 8) (nI f) (nI g) post := by
  intro P hP
  have ef : (600 : Int32) * nI f = nI (600 * f) := pk_mul 600 f
  have eg : (600 : Int32) * nI g = nI (600 * g) := pk_mul 600 g
  have loop : ∀ (n i : Nat) (t : Nat → Int32), n + i = 600 → (∀ j, j < i → t (600 * g + j) = M 0 (600 * f + j)) → (∀ j, j < 600 * g ∨ 600 * g + i ≤ j → t j = M 0 j) → P (nI i) t := by
    intro n
    induction n with
    | zero =>
      intro i t hi h1 h2
      apply hP
      refine ⟨fun _ => ?_, fun h2 => absurd (nI_le (a := 600) (by omega) (by omega)) h2⟩
      refine sp_row2E hf hg hne fun z' a1 a2 => sp_row3E hf hg hne fun _ b1 b2 => sp_row4E hf hg hne fun _ c1 c2 => sp_row5E hf hg hne fun m' d1 d2 => sp_row6E hf hg hne fun l' f1 f2 => sp_row7E hf hg hne fun e' g1 g2 => sp_row8E hf hg hne fun s' i1 i2 => sp_row9E hf hg hne fun c' j1 j2 => ?_
      refine h _ _ _ _ _ _ _ _ _ (fun _ => 0) (fun c hc => ?_)
      have hcc : c = 0 ∨ c = 1 ∨ c = 2 ∨ c = 3 ∨ c = 4 ∨ c = 5 ∨ c = 6 ∨ c = 7 ∨ c = 8 := by omega
      rcases hcc with rfl | rfl | rfl | rfl | rfl | rfl | rfl | rfl | rfl
      · exact ⟨fun j hj => h1 j (by have : wR 0 = 600 := rfl; omega), fun j hj => h2 j (by have hj2 : j < 600 * g ∨ 600 * g + 600 ≤ j := hj; omega)⟩
      · exact ⟨a1, a2⟩
      · exact ⟨b1, b2⟩
      · exact ⟨c1, c2⟩
      · exact ⟨d1, d2⟩
      · exact ⟨f1, f2⟩
      · exact ⟨g1, g2⟩
      · exact ⟨i1, i2⟩
      · exact ⟨j1, j2⟩
    | succ n ih =>
      intro i t hi h1 h2
      apply hP
      refine ⟨fun h2 => absurd h2 (nI_ge (b := 600) (by omega) (by omega)), fun _ => ?_⟩
      rw [ef, eg, nI_add, nI_add]
      refine ⟨vp_in_nI (by omega) (by omega), fun v1 ev => ⟨vp_in_nI (by omega) (by omega), fun t1 e1 v2 e2 => ?_⟩⟩
      rw [nI_clamp (by omega)] at ev e1
      have e3 : v1 = M 0 (600 * f + i) := by
        rw [ev]
        exact h2 _ (by omega)
      rw [e3, nar_b (ht _)] at e1
      rw [e2, nI_1, e1]
      refine ih (i + 1) _ (by omega) (fun j hj => ?_) (fun j hj => ?_)
      · by_cases hji : j = i
        · subst hji; exact up_s
        · rw [up_n (by omega)]; exact h1 j (by omega)
      · rw [up_n (by omega)]; exact h2 j (by omega)
  exact loop 600 0 (M 0) rfl (fun j hj => absurd hj (by omega)) (fun _ _ => rfl)
end
section
def tCP (T' T : TT) : Prop := (∀ i, i < 25 → T'.1 i = T.1 i) ∧ (∀ j, j < (T.1 0).toNatClampNeg → T'.2 0 j = T.2 0 j) ∧ (∀ j, j < 4 → T'.2 1 j = T.2 1 j) ∧ (∀ o k td, o < 4 → k < 2 → SL o k T td → SL o k T' td)
theorem cs_S0 {i : Nat} (h2 : i < 25) : i = 0 ∨ i = 1 ∨ i = 2 ∨ i = 3 ∨ i = 4 ∨ i = 5 ∨ i = 6 ∨ i = 7 ∨ i = 8 ∨ i = 9 ∨ i = 10 ∨ i = 11 ∨ i = 12 ∨ i = 13 ∨ i = 14 ∨ i = 15 ∨ i = 16 ∨ i = 17 ∨ i = 18 ∨ i = 19 ∨ i = 20 ∨ i = 21 ∨ i = 22 ∨ i = 23 ∨ i = 24 := by omega
set_option maxRecDepth 40000 in
set_option maxHeartbeats 4000000 in
theorem e_cp {f_length f_fault f_place l0f_huts l0f_singers l0f_villages l0f_dams l0f_echoes l0f_deep l0f_slide l1f_huts l1f_singers l1f_villages l1f_dams l1f_echoes l1f_deep l1f_slide v0f_deeds v1f_deeds s0f_facts s1f_facts c0f_voices c0f_step c1f_voices c1f_step : Int32} {a_tape a_counts l0a_heights l0a_ladders l0a_minutes l0a_echoFrom l0a_echoTo l0a_homes l0a_talls l0a_known l1a_heights l1a_ladders l1a_minutes l1a_echoFrom l1a_echoTo l1a_homes l1a_talls l1a_known v0a_kinds v0a_firsts v0a_seconds v1a_kinds v1a_firsts v1a_seconds s0a_heard s0a_huts s0a_minutes s1a_heard s1a_huts s1a_minutes c0a_parts c0a_heights c1a_parts c1a_heights : Nat → Int32} {of_length of_fault of_place ol0f_huts ol0f_singers ol0f_villages ol0f_dams ol0f_echoes ol0f_deep ol0f_slide ol1f_huts ol1f_singers ol1f_villages ol1f_dams ol1f_echoes ol1f_deep ol1f_slide ov0f_deeds ov1f_deeds os0f_facts os1f_facts oc0f_voices oc0f_step oc1f_voices oc1f_step : Int32} {oa_tape oa_counts ol0a_heights ol0a_ladders ol0a_minutes ol0a_echoFrom ol0a_echoTo ol0a_homes ol0a_talls ol0a_known ol1a_heights ol1a_ladders ol1a_minutes ol1a_echoFrom ol1a_echoTo ol1a_homes ol1a_talls ol1a_known ov0a_kinds ov0a_firsts ov0a_seconds ov1a_kinds ov1a_firsts ov1a_seconds os0a_heard os0a_huts os0a_minutes os1a_heard os1a_huts os1a_minutes oc0a_parts oc0a_heights oc1a_parts oc1a_heights : Nat → Int32} {post : (Nat → Int32) → (Int32) → (Int32) → (Int32) → (Nat → Int32) → (Int32) → (Int32) → (Int32) → (Int32) → (Int32) → (Int32) → (Int32) → (Nat → Int32) → (Nat → Int32) → (Nat → Int32) → (Nat → Int32) → (Nat → Int32) → (Nat → Int32) → (Nat → Int32) → (Nat → Int32) → (Int32) → (Int32) → (Int32) → (Int32) → (Int32) → (Int32) → (Int32) → (Nat → Int32) → (Nat → Int32) → (Nat → Int32) → (Nat → Int32) → (Nat → Int32) → (Nat → Int32) → (Nat → Int32) → (Nat → Int32) → (Int32) → (Nat → Int32) → (Nat → Int32) → (Nat → Int32) → (Int32) → (Nat → Int32) → (Nat → Int32) → (Nat → Int32) → (Int32) → (Nat → Int32) → (Nat → Int32) → (Nat → Int32) → (Int32) → (Nat → Int32) → (Nat → Int32) → (Nat → Int32) → (Int32) → (Int32) → (Nat → Int32) → (Nat → Int32) → (Int32) → (Int32) → (Nat → Int32) → (Nat → Int32) → Prop} (k_f_length : iv 0 600 of_length) (k_a_tape : ∀ j, iv (-128) 127 (oa_tape j)) (k_l0f_huts : iv 0 9 ol0f_huts) (k_l0f_singers : iv 0 6 ol0f_singers) (k_l0f_echoes : iv 0 4 ol0f_echoes) (k_v0f_deeds : iv 0 40 ov0f_deeds) (k_s0f_facts : iv 0 10 os0f_facts) (k_c0f_voices : iv 0 9 oc0f_voices) (k_l1f_huts : iv 0 9 ol1f_huts) (k_l1f_singers : iv 0 6 ol1f_singers) (k_l1f_echoes : iv 0 4 ol1f_echoes) (k_v1f_deeds : iv 0 40 ov1f_deeds) (k_s1f_facts : iv 0 10 os1f_facts) (k_c1f_voices : iv 0 9 oc1f_voices) (hp : ∀ (na_tape : Nat → Int32) (nf_length : Int32) (nf_fault : Int32) (nf_place : Int32) (na_counts : Nat → Int32) (nl0f_huts : Int32) (nl0f_singers : Int32) (nl0f_villages : Int32) (nl0f_dams : Int32) (nl0f_echoes : Int32) (nl0f_deep : Int32) (nl0f_slide : Int32) (nl0a_heights : Nat → Int32) (nl0a_ladders : Nat → Int32) (nl0a_minutes : Nat → Int32) (nl0a_echoFrom : Nat → Int32) (nl0a_echoTo : Nat → Int32) (nl0a_homes : Nat → Int32) (nl0a_talls : Nat → Int32) (nl0a_known : Nat → Int32) (nl1f_huts : Int32) (nl1f_singers : Int32) (nl1f_villages : Int32) (nl1f_dams : Int32) (nl1f_echoes : Int32) (nl1f_deep : Int32) (nl1f_slide : Int32) (nl1a_heights : Nat → Int32) (nl1a_ladders : Nat → Int32) (nl1a_minutes : Nat → Int32) (nl1a_echoFrom : Nat → Int32) (nl1a_echoTo : Nat → Int32) (nl1a_homes : Nat → Int32) (nl1a_talls : Nat → Int32) (nl1a_known : Nat → Int32) (nv0f_deeds : Int32) (nv0a_kinds : Nat → Int32) (nv0a_firsts : Nat → Int32) (nv0a_seconds : Nat → Int32) (nv1f_deeds : Int32) (nv1a_kinds : Nat → Int32) (nv1a_firsts : Nat → Int32) (nv1a_seconds : Nat → Int32) (ns0f_facts : Int32) (ns0a_heard : Nat → Int32) (ns0a_huts : Nat → Int32) (ns0a_minutes : Nat → Int32) (ns1f_facts : Int32) (ns1a_heard : Nat → Int32) (ns1a_huts : Nat → Int32) (ns1a_minutes : Nat → Int32) (nc0f_voices : Int32) (nc0f_step : Int32) (nc0a_parts : Nat → Int32) (nc0a_heights : Nat → Int32) (nc1f_voices : Int32) (nc1f_step : Int32) (nc1a_parts : Nat → Int32) (nc1a_heights : Nat → Int32), tCP (tmk na_tape nf_length nf_fault nf_place na_counts nl0f_huts nl0f_singers nl0f_villages nl0f_dams nl0f_echoes nl0f_deep nl0f_slide nl0a_heights nl0a_ladders nl0a_minutes nl0a_echoFrom nl0a_echoTo nl0a_homes nl0a_talls nl0a_known nl1f_huts nl1f_singers nl1f_villages nl1f_dams nl1f_echoes nl1f_deep nl1f_slide nl1a_heights nl1a_ladders nl1a_minutes nl1a_echoFrom nl1a_echoTo nl1a_homes nl1a_talls nl1a_known nv0f_deeds nv0a_kinds nv0a_firsts nv0a_seconds nv1f_deeds nv1a_kinds nv1a_firsts nv1a_seconds ns0f_facts ns0a_heard ns0a_huts ns0a_minutes ns1f_facts ns1a_heard ns1a_huts ns1a_minutes nc0f_voices nc0f_step nc0a_parts nc0a_heights nc1f_voices nc1f_step nc1a_parts nc1a_heights) (tmk oa_tape of_length of_fault of_place oa_counts ol0f_huts ol0f_singers ol0f_villages ol0f_dams ol0f_echoes ol0f_deep ol0f_slide ol0a_heights ol0a_ladders ol0a_minutes ol0a_echoFrom ol0a_echoTo ol0a_homes ol0a_talls ol0a_known ol1f_huts ol1f_singers ol1f_villages ol1f_dams ol1f_echoes ol1f_deep ol1f_slide ol1a_heights ol1a_ladders ol1a_minutes ol1a_echoFrom ol1a_echoTo ol1a_homes ol1a_talls ol1a_known ov0f_deeds ov0a_kinds ov0a_firsts ov0a_seconds ov1f_deeds ov1a_kinds ov1a_firsts ov1a_seconds os0f_facts os0a_heard os0a_huts os0a_minutes os1f_facts os1a_heard os1a_huts os1a_minutes oc0f_voices oc0f_step oc0a_parts oc0a_heights oc1f_voices oc1f_step oc1a_parts oc1a_heights) → post na_tape nf_length nf_fault nf_place na_counts nl0f_huts nl0f_singers nl0f_villages nl0f_dams nl0f_echoes nl0f_deep nl0f_slide nl0a_heights nl0a_ladders nl0a_minutes nl0a_echoFrom nl0a_echoTo nl0a_homes nl0a_talls nl0a_known nl1f_huts nl1f_singers nl1f_villages nl1f_dams nl1f_echoes nl1f_deep nl1f_slide nl1a_heights nl1a_ladders nl1a_minutes nl1a_echoFrom nl1a_echoTo nl1a_homes nl1a_talls nl1a_known nv0f_deeds nv0a_kinds nv0a_firsts nv0a_seconds nv1f_deeds nv1a_kinds nv1a_firsts nv1a_seconds ns0f_facts ns0a_heard ns0a_huts ns0a_minutes ns1f_facts ns1a_heard ns1a_huts ns1a_minutes nc0f_voices nc0f_step nc0a_parts nc0a_heights nc1f_voices nc1f_step nc1a_parts nc1a_heights) : q_wtt_X9_copyFrom_47_0 a_tape f_length f_fault f_place a_counts l0f_huts l0f_singers l0f_villages l0f_dams l0f_echoes l0f_deep l0f_slide l0a_heights l0a_ladders l0a_minutes l0a_echoFrom l0a_echoTo l0a_homes l0a_talls l0a_known l1f_huts l1f_singers l1f_villages l1f_dams l1f_echoes l1f_deep l1f_slide l1a_heights l1a_ladders l1a_minutes l1a_echoFrom l1a_echoTo l1a_homes l1a_talls l1a_known v0f_deeds v0a_kinds v0a_firsts v0a_seconds v1f_deeds v1a_kinds v1a_firsts v1a_seconds s0f_facts s0a_heard s0a_huts s0a_minutes s1f_facts s1a_heard s1a_huts s1a_minutes c0f_voices c0f_step c0a_parts c0a_heights c1f_voices c1f_step c1a_parts c1a_heights oa_tape of_length of_fault of_place oa_counts ol0f_huts ol0f_singers ol0f_villages ol0f_dams ol0f_echoes ol0f_deep ol0f_slide ol0a_heights ol0a_ladders ol0a_minutes ol0a_echoFrom ol0a_echoTo ol0a_homes ol0a_talls ol0a_known ol1f_huts ol1f_singers ol1f_villages ol1f_dams ol1f_echoes ol1f_deep ol1f_slide ol1a_heights ol1a_ladders ol1a_minutes ol1a_echoFrom ol1a_echoTo ol1a_homes ol1a_talls ol1a_known ov0f_deeds ov0a_kinds ov0a_firsts ov0a_seconds ov1f_deeds ov1a_kinds ov1a_firsts ov1a_seconds os0f_facts os0a_heard os0a_huts os0a_minutes os1f_facts os1a_heard os1a_huts os1a_minutes oc0f_voices oc0f_step oc0a_parts oc0a_heights oc1f_voices oc1f_step oc1a_parts oc1a_heights post := by
  have h0 : ¬ of_length < 0 := iv_nn k_f_length (by decide)
  have h1 : Int32.toNatClampNeg (0 : Int32) + Int32.toNatClampNeg of_length ≤ 600 := by rw [c_0, Nat.zero_add]; exact cl_le k_f_length (by decide)
  refine ⟨h0, h1, h1, fun i _ => iv_fitB (k_a_tape _), fun tp et cn en => ?_⟩
  intro P hP
  apply hP
  refine ⟨fun h => absurd h (by decide), fun _ => ⟨vp_in_nI (n := 0) (by decide) (by decide), fun _ => ?_, fun h => absurd rfl h⟩⟩
  refine e_ll (fun nl0a_heights nl0a_ladders nl0a_minutes nl0a_echoFrom nl0a_echoTo nl0a_homes nl0a_talls nl0a_known ql0a_heights ql0a_ladders ql0a_minutes ql0a_echoFrom ql0a_echoTo ql0a_homes ql0a_talls ql0a_known => ?_)
  refine e_vv k_v0f_deeds (fun nv0a_kinds nv0a_firsts nv0a_seconds qv0a_kinds qv0a_firsts qv0a_seconds => ?_)
  refine e_ss k_s0f_facts (fun ns0a_heard ns0a_huts ns0a_minutes qs0a_heard qs0a_huts qs0a_minutes => ?_)
  refine e_cc k_c0f_voices (fun nc0a_parts nc0a_heights qc0a_parts qc0a_heights v0 ev0 => ?_)
  have ev : v0 = 1 := ev0.trans (by decide)
  subst ev
  apply hP
  refine ⟨fun h => absurd h (by decide), fun _ => ⟨vp_in_nI (n := 1) (by decide) (by decide), fun h => absurd h (by decide), fun _ => ?_⟩⟩
  refine e_ll (fun nl1a_heights nl1a_ladders nl1a_minutes nl1a_echoFrom nl1a_echoTo nl1a_homes nl1a_talls nl1a_known ql1a_heights ql1a_ladders ql1a_minutes ql1a_echoFrom ql1a_echoTo ql1a_homes ql1a_talls ql1a_known => ?_)
  refine e_vv k_v1f_deeds (fun nv1a_kinds nv1a_firsts nv1a_seconds qv1a_kinds qv1a_firsts qv1a_seconds => ?_)
  refine e_ss k_s1f_facts (fun ns1a_heard ns1a_huts ns1a_minutes qs1a_heard qs1a_huts qs1a_minutes => ?_)
  refine e_cc k_c1f_voices (fun nc1a_parts nc1a_heights qc1a_parts qc1a_heights v1 ev1 => ?_)
  have ev : v1 = 2 := ev1.trans (by decide)
  subst ev
  apply hP
  refine ⟨fun _ => hp tp of_length of_fault of_place cn ol0f_huts ol0f_singers ol0f_villages ol0f_dams ol0f_echoes ol0f_deep ol0f_slide nl0a_heights nl0a_ladders nl0a_minutes nl0a_echoFrom nl0a_echoTo nl0a_homes nl0a_talls nl0a_known ol1f_huts ol1f_singers ol1f_villages ol1f_dams ol1f_echoes ol1f_deep ol1f_slide nl1a_heights nl1a_ladders nl1a_minutes nl1a_echoFrom nl1a_echoTo nl1a_homes nl1a_talls nl1a_known ov0f_deeds nv0a_kinds nv0a_firsts nv0a_seconds ov1f_deeds nv1a_kinds nv1a_firsts nv1a_seconds os0f_facts ns0a_heard ns0a_huts ns0a_minutes os1f_facts ns1a_heard ns1a_huts ns1a_minutes oc0f_voices oc0f_step nc0a_parts nc0a_heights oc1f_voices oc1f_step nc1a_parts nc1a_heights ⟨fun i hi => ?_, cpy0 et rfl, cpy0 en rfl, fun o k td ho hk hSL => ?_⟩, fun h => absurd (by decide) h⟩
  · rcases cs_S0 hi with rfl | rfl | rfl | rfl | rfl | rfl | rfl | rfl | rfl | rfl | rfl | rfl | rfl | rfl | rfl | rfl | rfl | rfl | rfl | rfl | rfl | rfl | rfl | rfl | rfl <;> rfl
  · have hoc : o = 0 ∨ o = 1 ∨ o = 2 ∨ o = 3 := by omega
    have hkc : k = 0 ∨ k = 1 := by omega
    rcases hoc with rfl | rfl | rfl | rfl <;> rcases hkc with rfl | rfl
    · have hR : LDR ol0f_huts ol0f_singers ol0f_villages ol0f_dams ol0f_echoes ol0f_deep ol0f_slide ol0a_heights ol0a_ladders ol0a_minutes ol0a_echoFrom ol0a_echoTo ol0a_homes ol0a_talls ol0a_known td := hSL
      exact LDR_cp hR (by rw [← hR.1]; exact cl_le k_l0f_huts (by decide)) (by rw [← hR.2.1]; exact cl_le k_l0f_singers (by decide)) (by rw [← hR.2.2.2.2.1]; exact cl_le k_l0f_echoes (by decide)) ql0a_heights ql0a_ladders ql0a_minutes ql0a_echoFrom ql0a_echoTo ql0a_homes ql0a_talls ql0a_known
    · have hR : LDR ol1f_huts ol1f_singers ol1f_villages ol1f_dams ol1f_echoes ol1f_deep ol1f_slide ol1a_heights ol1a_ladders ol1a_minutes ol1a_echoFrom ol1a_echoTo ol1a_homes ol1a_talls ol1a_known td := hSL
      exact LDR_cp hR (by rw [← hR.1]; exact cl_le k_l1f_huts (by decide)) (by rw [← hR.2.1]; exact cl_le k_l1f_singers (by decide)) (by rw [← hR.2.2.2.2.1]; exact cl_le k_l1f_echoes (by decide)) ql1a_heights ql1a_ladders ql1a_minutes ql1a_echoFrom ql1a_echoTo ql1a_homes ql1a_talls ql1a_known
    · have hR : R3 ov0f_deeds ov0a_kinds ov0a_firsts ov0a_seconds td := hSL
      exact R3_cp hR qv0a_kinds qv0a_firsts qv0a_seconds
    · have hR : R3 ov1f_deeds ov1a_kinds ov1a_firsts ov1a_seconds td := hSL
      exact R3_cp hR qv1a_kinds qv1a_firsts qv1a_seconds
    · have hR : R3 os0f_facts os0a_heard os0a_huts os0a_minutes td := hSL
      exact R3_cp hR qs0a_heard qs0a_huts qs0a_minutes
    · have hR : R3 os1f_facts os1a_heard os1a_huts os1a_minutes td := hSL
      exact R3_cp hR qs1a_heard qs1a_huts qs1a_minutes
    · have hR : CDR oc0f_voices oc0f_step oc0a_parts oc0a_heights td := hSL
      exact CDR_cp hR qc0a_parts qc0a_heights
    · have hR : CDR oc1f_voices oc1f_step oc1a_parts oc1a_heights td := hSL
      exact CDR_cp hR qc1a_parts qc1a_heights
end
section
def tB (T : TT) : Prop := iv 0 600 (T.1 0) ∧ (∀ j, iv (-128) 127 (T.2 0 j)) ∧ (∀ j, iv 0 2 (T.2 1 j)) ∧ iv 0 9 (T.1 3) ∧ iv 0 6 (T.1 4) ∧ iv 0 4 (T.1 7) ∧ iv 0 40 (T.1 17) ∧ iv 0 10 (T.1 19) ∧ iv 0 9 (T.1 21) ∧ iv 0 9 (T.1 10) ∧ iv 0 6 (T.1 11) ∧ iv 0 4 (T.1 14) ∧ iv 0 40 (T.1 18) ∧ iv 0 10 (T.1 20) ∧ iv 0 9 (T.1 23)
theorem tB_of {T : TT} (hT : tJ T) : tB T := ⟨hT.1 0, hT.2 0, hT.2 1, hT.1 3, hT.1 4, hT.1 7, hT.1 17, hT.1 19, hT.1 21, hT.1 10, hT.1 11, hT.1 14, hT.1 18, hT.1 20, hT.1 23⟩
theorem LDR_ext {huts singers villages dams echoes deep slide : Int32} {heights ladders minutes echoFrom echoTo homes talls known td td' : Nat → Int32} (h : LDR huts singers villages dams echoes deep slide heights ladders minutes echoFrom echoTo homes talls known td) (b0 : huts.toNatClampNeg ≤ 9) (b1 : singers.toNatClampNeg ≤ 6) (b4 : echoes.toNatClampNeg ≤ 4) (e : ∀ j, j < 132 → td j = td' j) : LDR huts singers villages dams echoes deep slide heights ladders minutes echoFrom echoTo homes talls known td' := by
  obtain ⟨e0, e1, e2, e3, e4, e5, e6, f1, f2, f3, f4, f5, f6⟩ := h
  rw [e0] at b0
  rw [e1] at b1
  rw [e4] at b4
  refine ⟨e0.trans (e 0 (by omega)), e1.trans (e 1 (by omega)), e2.trans (e 2 (by omega)), e3.trans (e 3 (by omega)), e4.trans (e 4 (by omega)), e5.trans (e 5 (by omega)), e6.trans (e 6 (by omega)), fun j hj => ?_, fun j hj => ?_, fun j hj => ?_, fun j hj => ?_, fun j hj => ?_, fun j hj => ?_⟩
  · rw [← e 0 (by omega)] at hj
    exact (f1 j hj).trans (e _ (by omega))
  · exact (f2 j hj).trans (e _ (by omega))
  · exact (f3 j hj).trans (e _ (by omega))
  · rw [← e 4 (by omega)] at hj
    exact ⟨(f4 j hj).1.trans (e _ (by omega)), (f4 j hj).2.trans (e _ (by omega))⟩
  · rw [← e 1 (by omega)] at hj
    exact ⟨(f5 j hj).1.trans (e _ (by omega)), (f5 j hj).2.trans (e _ (by omega))⟩
  · exact (f6 j hj).trans (e _ (by omega))
theorem R3_ext {c : Int32} {a b d td td' : Nat → Int32} {m w : Nat} (h : R3 c a b d td) (hc : c.toNatClampNeg ≤ m) (hm : 3 * m < w) (e : ∀ j, j < w → td j = td' j) : R3 c a b d td' := by
  have hc2 := hc
  rw [h.1] at hc2
  refine ⟨h.1.trans (e 0 (by omega)), fun j hj => ?_⟩
  rw [← e 0 (by omega)] at hj
  exact ⟨(h.2 j hj).1.trans (e _ (by omega)), (h.2 j hj).2.1.trans (e _ (by omega)), (h.2 j hj).2.2.trans (e _ (by omega))⟩
theorem CDR_ext {c st : Int32} {a b td td' : Nat → Int32} (h : CDR c st a b td) (hc : c.toNatClampNeg ≤ 9) (e : ∀ j, j < 20 → td j = td' j) : CDR c st a b td' := by
  have hc2 := hc
  rw [h.1] at hc2
  refine ⟨h.1.trans (e 0 (by omega)), h.2.1.trans (e 19 (by omega)), fun j hj => ?_⟩
  rw [← e 0 (by omega)] at hj
  exact ⟨(h.2.2 j hj).1.trans (e _ (by omega)), (h.2.2 j hj).2.trans (e _ (by omega))⟩
theorem SL_ext {o k : Nat} {T : TT} {td td' : Nat → Int32} (ho : o < 4) (hk : k < 2) (hB : tB T) (e : ∀ j, j < wD o → td j = td' j) (h : SL o k T td) : SL o k T td' := by
  have hoc : o = 0 ∨ o = 1 ∨ o = 2 ∨ o = 3 := by omega
  have hkc : k = 0 ∨ k = 1 := by omega
  rcases hoc with rfl | rfl | rfl | rfl <;> rcases hkc with rfl | rfl
  · exact LDR_ext h (cl_le (hB.2.2.2.1) (by decide)) (cl_le (hB.2.2.2.2.1) (by decide)) (cl_le (hB.2.2.2.2.2.1) (by decide)) e
  · exact LDR_ext h (cl_le (hB.2.2.2.2.2.2.2.2.2.1) (by decide)) (cl_le (hB.2.2.2.2.2.2.2.2.2.2.1) (by decide)) (cl_le (hB.2.2.2.2.2.2.2.2.2.2.2.1) (by decide)) e
  · exact R3_ext (m := 40) (w := 121) h (cl_le (hB.2.2.2.2.2.2.1) (by decide)) (by decide) e
  · exact R3_ext (m := 40) (w := 121) h (cl_le (hB.2.2.2.2.2.2.2.2.2.2.2.2.1) (by decide)) (by decide) e
  · exact R3_ext (m := 10) (w := 31) h (cl_le (hB.2.2.2.2.2.2.2.1) (by decide)) (by decide) e
  · exact R3_ext (m := 10) (w := 31) h (cl_le (hB.2.2.2.2.2.2.2.2.2.2.2.2.2.1) (by decide)) (by decide) e
  · exact CDR_ext h (cl_le (hB.2.2.2.2.2.2.2.2.1) (by decide)) e
  · exact CDR_ext h (cl_le (hB.2.2.2.2.2.2.2.2.2.2.2.2.2.2) (by decide)) e
/-- slot s of the reference's rows is as a told state of the class -/
def TM (T : TT) (M : Nat → Nat → Int32) (s : Nat) : Prop := M 1 s = T.1 0 ∧ (∀ j, j < (T.1 0).toNatClampNeg → M 0 (600 * s + j) = T.2 0 j) ∧ M 2 s = T.1 1 ∧ M 3 s = T.1 2 ∧ (∀ o, o < 4 → M 4 (4 * s + o) = T.2 1 o) ∧ (∀ o k, o < 4 → k < 2 → nI k < T.2 1 o → SL o k T (fun j => M (5 + o) (2 * wD o * s + wD o * k + j)))
theorem wD_R : ∀ o, o < 4 → wR (5 + o) = 2 * wD o := by decide
theorem TM_mv {T : TT} {M M' : Nat → Nat → Int32} {s s' : Nat} (hB : tB T) (h : ∀ c, c < 9 → ∀ i, i < wR c → M' c (wR c * s' + i) = M c (wR c * s + i)) (hT : TM T M s) : TM T M' s' := by
  obtain ⟨h1, h2, h3, h4, h5, h6⟩ := hT
  have one : ∀ c, (c = 1 ∨ c = 2 ∨ c = 3) → M' c s' = M c s := by
    intro c hc
    have hw : wR c = 1 := by rcases hc with rfl | rfl | rfl <;> rfl
    have g := h c (by omega) 0 (by omega)
    rw [hw, Nat.one_mul, Nat.one_mul, Nat.add_zero, Nat.add_zero] at g
    exact g
  refine ⟨(one 1 (by omega)).trans h1, fun j hj => ?_, (one 2 (by omega)).trans h3, (one 3 (by omega)).trans h4, fun o ho => (h 4 (by omega) o ho).trans (h5 o ho), fun o k ho hk hl => ?_⟩
  · have hle : (T.1 0).toNatClampNeg ≤ 600 := cl_le hB.1 (by decide)
    exact (h 0 (by omega) j (by have : wR 0 = 600 := rfl; omega)).trans (h2 j hj)
  · refine SL_ext ho hk hB (fun j hj => ?_) (h6 o k ho hk hl)
    have hw := wD_R o ho
    have hkw : wD o * k + j < 2 * wD o := by
      have hkc : k = 0 ∨ k = 1 := by omega
      rcases hkc with rfl | rfl
      · rw [Nat.mul_zero]; omega
      · rw [Nat.mul_one]; omega
    have g := h (5 + o) (by omega) (wD o * k + j) (by rw [hw]; exact hkw)
    rw [hw] at g
    show M (5 + o) (2 * wD o * s + wD o * k + j) = M' (5 + o) (2 * wD o * s' + wD o * k + j)
    rw [Nat.add_assoc, Nat.add_assoc]
    exact g.symm
theorem TM_cp {T T' : TT} {M : Nat → Nat → Int32} {s : Nat} (hc : tCP T' T) (hT : TM T M s) : TM T' M s := by
  obtain ⟨h1, h2, h3, h4, h5, h6⟩ := hT
  obtain ⟨c1, c2, c3, c4⟩ := hc
  refine ⟨h1.trans (c1 0 (by omega)).symm, fun j hj => ?_, h3.trans (c1 1 (by omega)).symm, h4.trans (c1 2 (by omega)).symm, fun o ho => (h5 o ho).trans (c3 o ho).symm, fun o k ho hk hl => c4 o k _ ho hk (h6 o k ho hk (by rw [← c3 o ho]; exact hl))⟩
  rw [c1 0 (by omega)] at hj
  exact (h2 j hj).trans (c2 j hj).symm
/-- the relation that all calls keep -/
def RF (T : TT) (M : Nat → Nat → Int32) (I : Nat → TT) (mi : Nat → Option Nat) : Prop := TM T M 0 ∧ ∀ j, j < 3 → (mi j = none ↔ M 9 j = 0) ∧ (¬ mi j = none → TM (I j) M (j + 1))
theorem mCP_out {M M' : Nat → Nat → Int32} {f g s : Nat} (h : mCP M M' f g) (hs : ¬ s = g) : ∀ c, c < 9 → ∀ i, i < wR c → M' c (wR c * s + i) = M c (wR c * s + i) := by
  intro c hc i hi
  refine (h c hc).2 _ ?_
  rcases Nat.lt_or_ge s g with hl | hl
  · left
    have : wR c * (s + 1) ≤ wR c * g := Nat.mul_le_mul_left _ hl
    rw [Nat.mul_succ] at this
    omega
  · right
    have hl2 : g + 1 ≤ s := by omega
    have : wR c * (g + 1) ≤ wR c * s := Nat.mul_le_mul_left _ hl2
    rw [Nat.mul_succ] at this
    omega
end
section
def tBI (I : Nat → TT) (mi : Nat → Option Nat) : Prop := ∀ j, j < 3 → ¬ mi j = none → tB (I j)
/-- what feed and end do -/
def xSA (T T' : TT) : Prop := (∀ i, 1 ≤ i → i < 25 → T'.1 i = T.1 i) ∧ (∀ i, 1 ≤ i → i < 34 → T'.2 i = T.2 i)
def xFD (T T' : TT) (a b c d e r : Int32) : Prop := xSA T T' ∧ (¬ T.1 0 + 20 ≤ 600 → r = -1 ∧ T'.1 0 = T.1 0 ∧ T'.2 0 = T.2 0) ∧ (∀ n, T.1 0 = nI n → n + 20 ≤ 600 → r = nI (n + 20) ∧ T'.1 0 = nI (n + 20) ∧ B20 (T.2 0) (T'.2 0) n a b c d e)
def mSA (M M' : Nat → Nat → Int32) : Prop := (∀ i, 2 ≤ i → i < 10 → M' i = M i) ∧ (∀ j, ¬ j = 0 → M' 1 j = M 1 j)
def mFD (M M' : Nat → Nat → Int32) (a b c d e r : Int32) : Prop := mSA M M' ∧ (¬ M 1 0 + 20 ≤ 600 → r = -1 ∧ M' 1 0 = M 1 0 ∧ M' 0 = M 0) ∧ (∀ n, M 1 0 = nI n → n + 20 ≤ 600 → r = nI (n + 20) ∧ M' 1 0 = nI (n + 20) ∧ B20 (M 0) (M' 0) n a b c d e)
def xEN (T T' : TT) (a r : Int32) : Prop := xSA T T' ∧ T'.2 0 = T.2 0 ∧ r = enR (T.1 0) a ∧ T'.1 0 = enL (T.1 0) a
def mEN (M M' : Nat → Nat → Int32) (a r : Int32) : Prop := mSA M M' ∧ M' 0 = M 0 ∧ r = enR (M 1 0) a ∧ M' 1 0 = enL (M 1 0) a
theorem TM_sa {T T' : TT} {M M' : Nat → Nat → Int32} (h : TM T M 0) (hx : xSA T T') (hm : mSA M M') (hl : M' 1 0 = T'.1 0) (ht : ∀ j, j < (T'.1 0).toNatClampNeg → M' 0 j = T'.2 0 j) : TM T' M' 0 := by
  obtain ⟨h1, h2, h3, h4, h5, h6⟩ := h
  refine ⟨hl, fun j hj => ?_, ?_, ?_, fun o ho => ?_, fun o k ho hk hlt => ?_⟩
  · rw [Nat.mul_zero, Nat.zero_add]; exact ht j hj
  · rw [hm.1 2 (by omega) (by omega), hx.1 1 (by omega) (by omega)]; exact h3
  · rw [hm.1 3 (by omega) (by omega), hx.1 2 (by omega) (by omega)]; exact h4
  · rw [hm.1 4 (by omega) (by omega), hx.2 1 (by omega) (by omega)]; exact h5 o ho
  · rw [hx.2 1 (by omega) (by omega)] at hlt
    rw [hm.1 (5 + o) (by omega) (by omega)]
    have hz : ∀ o, o < 4 → ∀ k, k < 2 → ∀ i, i < 25 → slS o k i = true → 1 ≤ i := by decide
    have hz2 : ∀ o, o < 4 → ∀ k, k < 2 → ∀ i, i < 34 → slA o k i = true → 1 ≤ i := by decide
    exact SL_same ho hk (fun i hi hs => hx.1 i (hz o ho k hk i hi hs) hi) (fun i hi hs => hx.2 i (hz2 o ho k hk i hi hs) hi) (h6 o k ho hk hlt)
theorem TM_im {T : TT} {M M' : Nat → Nat → Int32} {s : Nat} (hB : tB T) (hs : 1 ≤ s) (hm : mSA M M') (ht : ∀ j, 600 ≤ j → M' 0 j = M 0 j) (h : TM T M s) : TM T M' s := by
  refine TM_mv hB (fun c hc i hi => ?_) h
  have hcc : c = 0 ∨ c = 1 ∨ 2 ≤ c := by omega
  rcases hcc with rfl | rfl | hc2
  · exact ht _ (by have : wR 0 = 600 := rfl; rw [this]; omega)
  · exact hm.2 _ (by have : wR 1 = 1 := rfl; rw [this]; omega)
  · rw [hm.1 c hc2 (by omega)]
theorem RF_sa {T T' : TT} {M M' : Nat → Nat → Int32} {I : Nat → TT} {mi : Nat → Option Nat} (h : RF T M I mi) (hI : tBI I mi) (hm : mSA M M') (ht : ∀ j, 600 ≤ j → M' 0 j = M 0 j) (h0 : TM T' M' 0) : RF T' M' I mi := by
  refine ⟨h0, fun j hj => ⟨?_, fun hn => ?_⟩⟩
  · rw [hm.1 9 (by omega) (by omega)]; exact (h.2 j hj).1
  · exact TM_im (hI j hj hn) (by omega) hm ht ((h.2 j hj).2 hn)
theorem RF_fd {T T' : TT} {M M' : Nat → Nat → Int32} {I : Nat → TT} {mi : Nat → Option Nat} {a b c d e r1 r2 : Int32} (h : RF T M I mi) (hB : tB T) (hI : tBI I mi) (h1 : xFD T T' a b c d e r1) (h2 : mFD M M' a b c d e r2) : r1 = r2 ∧ RF T' M' I mi := by
  obtain ⟨hx, x0, x1⟩ := h1
  obtain ⟨hm, m0, m1⟩ := h2
  have hl := h.1.1
  obtain ⟨n, hn, -, hn6, -⟩ := iv_nI hB.1 (by decide)
  have hcl : (T.1 0).toNatClampNeg = n := by rw [hn]; exact nI_clamp (by omega)
  have ht0 : ∀ j, j < n → M 0 j = T.2 0 j := fun j hj => by
    have g := h.1.2.1 j (by rw [hcl]; exact hj)
    rw [Nat.mul_zero, Nat.zero_add] at g
    exact g
  by_cases hc : T.1 0 + 20 ≤ 600
  · have hle : n + 20 ≤ 600 := by rw [hn] at hc; exact (e_len (by omega)).mp hc
    obtain ⟨a1, a2, a3⟩ := x1 n hn hle
    obtain ⟨b1, b2, b3⟩ := m1 n (hl.trans hn) hle
    refine ⟨a1.trans b1.symm, RF_sa h hI hm (fun j hj => B20_out b3 j (by omega)) (TM_sa h.1 hx hm (b2.trans a2.symm) (fun j hj => ?_))⟩
    rw [a2, nI_clamp (by omega)] at hj
    exact B20_un b3 a3 ht0 j hj
  · obtain ⟨a1, a2, a3⟩ := x0 hc
    obtain ⟨b1, b2, b3⟩ := m0 (by rw [hl]; exact hc)
    refine ⟨a1.trans b1.symm, RF_sa h hI hm (fun j hj => by rw [b3]) (TM_sa h.1 hx hm (b2.trans (hl.trans a2.symm)) (fun j hj => ?_))⟩
    rw [a2, hcl] at hj
    rw [b3, a3]
    exact ht0 j hj
theorem RF_en {T T' : TT} {M M' : Nat → Nat → Int32} {I : Nat → TT} {mi : Nat → Option Nat} {a r1 r2 : Int32} (h : RF T M I mi) (hB : tB T) (hI : tBI I mi) (h1 : xEN T T' a r1) (h2 : mEN M M' a r2) : r1 = r2 ∧ RF T' M' I mi := by
  obtain ⟨hx, x1, x2, x3⟩ := h1
  obtain ⟨hm, m1, m2, m3⟩ := h2
  have hl := h.1.1
  refine ⟨by rw [x2, m2, hl], RF_sa h hI hm (fun j hj => by rw [m1]) (TM_sa h.1 hx hm (by rw [x3, m3, hl]) (fun j hj => ?_))⟩
  have hle : (T'.1 0).toNatClampNeg ≤ (T.1 0).toNatClampNeg := by
    rw [x3]
    unfold enL
    by_cases hc : 0 ≤ a ∧ a ≤ T.1 0
    · rw [if_pos hc]
      have := r_le hc.2
      have e1 : a.toNatClampNeg = a.toInt.toNat := rfl
      have e2 : (T.1 0).toNatClampNeg = (T.1 0).toInt.toNat := rfl
      omega
    · rw [if_neg hc]; exact Nat.le_refl _
  have g := h.1.2.1 j (by omega)
  rw [Nat.mul_zero, Nat.zero_add] at g
  rw [m1, x1]
  exact g
/-- images -/
def xIM (mi mi' : Nat → Option Nat) (I I' : Nat → TT) (T : TT) (a r : Int32) : Prop := (¬ imJ a → r = 0 ∧ mi' = mi ∧ I' = I) ∧ (∀ k, k < 3 → a = nI k → r = 1 ∧ ¬ mi' k = none ∧ (∀ j, ¬ j = k → mi' j = mi j ∧ I' j = I j) ∧ tCP (I' k) T)
def xAG (mi : Nat → Option Nat) (I : Nat → TT) (T T' : TT) (a r : Int32) : Prop := (¬ (∃ k, k < 3 ∧ a = nI k ∧ ¬ mi k = none) → r = 0 ∧ T' = T) ∧ (∀ k, k < 3 → a = nI k → ¬ mi k = none → r = 1 ∧ tCP T' (I k))
def mIM (M M' : Nat → Nat → Int32) (a r : Int32) : Prop := (¬ imJ a → r = 0 ∧ ∀ i, i < 10 → M' i = M i) ∧ (∀ k, k < 3 → a = nI k → r = 1 ∧ mCP M M' 0 (k + 1) ∧ M' 9 k = 1 ∧ ∀ j, ¬ j = k → M' 9 j = M 9 j)
def mAG (M M' : Nat → Nat → Int32) (a r : Int32) : Prop := (¬ (∃ k, k < 3 ∧ a = nI k ∧ ¬ M 9 k = 0) → r = 0 ∧ ∀ i, i < 10 → M' i = M i) ∧ (∀ k, k < 3 → a = nI k → ¬ M 9 k = 0 → r = 1 ∧ mCP M M' (k + 1) 0 ∧ M' 9 = M 9)
theorem TM_eq {T : TT} {M M' : Nat → Nat → Int32} {s : Nat} (hB : tB T) (h : ∀ i, i < 10 → M' i = M i) (hT : TM T M s) : TM T M' s := TM_mv hB (fun c hc i _ => by rw [h c (by omega)]) hT
theorem RF_im {T : TT} {M M' : Nat → Nat → Int32} {I I' : Nat → TT} {mi mi' : Nat → Option Nat} {a r1 r2 : Int32} (h : RF T M I mi) (hB : tB T) (hI : tBI I mi) (h1 : xIM mi mi' I I' T a r1) (h2 : mIM M M' a r2) : r1 = r2 ∧ RF T M' I' mi' := by
  by_cases hj : imJ a
  rotate_left
  · obtain ⟨e1, rfl, rfl⟩ := h1.1 hj
    obtain ⟨e2, m1⟩ := h2.1 hj
    refine ⟨by rw [e1, e2], TM_eq hB m1 h.1, fun j hj => ⟨?_, fun hn => TM_eq (hI j hj hn) m1 ((h.2 j hj).2 hn)⟩⟩
    rw [m1 9 (by omega)]; exact (h.2 j hj).1
  · obtain ⟨k, hk, rfl⟩ := imJ_nI.mp hj
    obtain ⟨e1, a2, a3, a4⟩ := h1.2 k hk rfl
    obtain ⟨e2, b1, b3, b4⟩ := h2.2 k hk rfl
    refine ⟨by rw [e1, e2], TM_mv hB (mCP_out b1 (by omega)) h.1, fun j hj => ?_⟩
    by_cases hjk : j = k
    · subst hjk
      refine ⟨⟨fun h9 => absurd h9 a2, fun h9 => absurd (b3.symm.trans h9) (by decide)⟩, fun _ => TM_cp a4 (TM_mv hB (fun c hc i hi => (b1 c hc).1 i hi) h.1)⟩
    · rw [(a3 j hjk).1, (a3 j hjk).2, b4 j hjk]
      exact ⟨(h.2 j hj).1, fun hn => TM_mv (hI j hj hn) (mCP_out b1 (by omega)) ((h.2 j hj).2 hn)⟩
theorem RF_ag {T T' : TT} {M M' : Nat → Nat → Int32} {I : Nat → TT} {mi : Nat → Option Nat} {a r1 r2 : Int32} (h : RF T M I mi) (hB : tB T) (hI : tBI I mi) (h1 : xAG mi I T T' a r1) (h2 : mAG M M' a r2) : r1 = r2 ∧ RF T' M' I mi := by
  by_cases hj : ∃ k, k < 3 ∧ a = nI k ∧ ¬ mi k = none
  · obtain ⟨k, hk, e, hm⟩ := hj
    obtain ⟨e1, a1⟩ := h1.2 k hk e hm
    obtain ⟨e2, b1, b2⟩ := h2.2 k hk e (fun h9 => hm ((h.2 k hk).1.mpr h9))
    refine ⟨by rw [e1, e2], TM_cp a1 (TM_mv (hI k hk hm) (fun c hc i hi => (b1 c hc).1 i hi) ((h.2 k hk).2 hm)), fun j hj => ?_⟩
    rw [b2]
    exact ⟨(h.2 j hj).1, fun hn => TM_mv (hI j hj hn) (mCP_out b1 (by omega)) ((h.2 j hj).2 hn)⟩
  · obtain ⟨e1, rfl⟩ := h1.1 hj
    obtain ⟨e2, m1⟩ := h2.1 (fun ⟨k, hk, e, h9⟩ => hj ⟨k, hk, e, fun h8 => h9 ((h.2 k hk).1.mp h8)⟩)
    refine ⟨by rw [e1, e2], TM_eq hB m1 h.1, fun j hj => ⟨?_, fun hn => TM_eq (hI j hj hn) m1 ((h.2 j hj).2 hn)⟩⟩
    rw [m1 9 (by omega)]; exact (h.2 j hj).1
/-- texts -/
theorem TX_eq {T : TT} {M : Nat → Nat → Int32} (h : TM T M 0) (o : Nat) : MXr M o = TXr T o := by
  unfold MXr TXr
  rw [h.1]
  have e : nB (M 0) (T.1 0).toNatClampNeg = nB (T.2 0) (T.1 0).toNatClampNeg := by
    funext j
    unfold nB
    by_cases hj : j < (T.1 0).toNatClampNeg
    · rw [if_pos hj, if_pos hj]
      have g := h.2.1 j hj
      rw [Nat.mul_zero, Nat.zero_add] at g
      exact g
    · rw [if_neg hj, if_neg hj]
  rw [e]
theorem sl_neS : ((List.range 4).all fun o => (List.range 2).all fun k => (List.range 4).all fun o' => (List.range 2).all fun k' => (List.range 25).all fun i => (o == o' && k == k') || !slS o' k' i || (decide (3 ≤ i) && !slS o k i)) = true := by decide +kernel
theorem sl_neA : ((List.range 4).all fun o => (List.range 2).all fun k => (List.range 4).all fun o' => (List.range 2).all fun k' => (List.range 34).all fun i => (o == o' && k == k') || !slA o' k' i || (decide (2 ≤ i) && !slA o k i)) = true := by decide +kernel
theorem sl_ne (o : Nat) (ho : o < 4) (k : Nat) (hk : k < 2) (o' : Nat) (ho' : o' < 4) (k' : Nat) (hk' : k' < 2) (hn : ¬ (o = o' ∧ k = k')) : (∀ i, i < 25 → slS o' k' i = true → 3 ≤ i ∧ ¬ slS o k i = true) ∧ (∀ i, i < 34 → slA o' k' i = true → 2 ≤ i ∧ ¬ slA o k i = true) := by
  have rg : ∀ {n : Nat} {p : Nat → Bool}, (List.range n).all p = true → ∀ x, x < n → p x = true := fun h x hx => List.all_eq_true.mp h x (List.mem_range.mpr hx)
  refine ⟨fun i hi hs => ?_, fun i hi hs => ?_⟩
  · have h := rg (rg (rg (rg (rg sl_neS o ho) k hk) o' ho') k' hk') i hi
    simp only [hs, Bool.not_true, Bool.or_false, Bool.or_eq_true, Bool.and_eq_true, beq_iff_eq, decide_eq_true_eq, Bool.not_eq_true'] at h
    rcases h with h | h
    · exact absurd h hn
    · exact ⟨h.1, by rw [h.2]; decide⟩
  · have h := rg (rg (rg (rg (rg sl_neA o ho) k hk) o' ho') k' hk') i hi
    simp only [hs, Bool.not_true, Bool.or_false, Bool.or_eq_true, Bool.and_eq_true, beq_iff_eq, decide_eq_true_eq, Bool.not_eq_true'] at h
    rcases h with h | h
    · exact absurd h hn
    · exact ⟨h.1, by rw [h.2]; decide⟩
theorem sl_lo : ∀ o, o < 4 → ∀ k, k < 2 → (∀ i, i < 25 → slS o k i = true → 3 ≤ i) ∧ (∀ i, i < 34 → slA o k i = true → 2 ≤ i) := by decide +kernel
theorem wD_le : ∀ o, o < 4 → 20 ≤ wD o ∧ wD o ≤ 132 := by decide
/-- the other slots behind a text -/
theorem RF_tx {T T' : TT} {M M' : Nat → Nat → Int32} {I : Nat → TT} {mi : Nat → Option Nat} {a1 a2 r1 r2 : Int32} (h : RF T M I mi) (hB : tB T) (hB' : tB T') (hI : tBI I mi) (h1 : xTX T T' a1 a2 r1) (h2 : mTX M M' a1 a2 r2) : r1 = r2 ∧ RF T' M' I mi := by
  obtain ⟨x0, xt, xn, xy⟩ := h1
  obtain ⟨m0, m9, ml, ms, mn, my⟩ := h2
  have hT := h.1
  have hcnt : ∀ o, o < 4 → M 4 o = T.2 1 o := fun o ho => by
    have g := hT.2.2.2.2.1 o ho
    rw [Nat.mul_zero, Nat.zero_add] at g
    exact g
  have emp : ∀ j, j < (T'.1 0).toNatClampNeg → M' 0 (600 * 0 + j) = T'.2 0 j := fun j hj => by
    rw [x0] at hj
    exact absurd hj (by have : Int32.toNatClampNeg 0 = 0 := rfl; omega)
  -- nothing of the rows changes
  have stay : (∀ i, 4 ≤ i → i < 9 → M' i = M i) → T'.2 1 = T.2 1 → sameT T T' → M' 2 0 = T'.1 1 → M' 3 0 = T'.1 2 → RF T' M' I mi := by
    intro q1 q2 q3 q4 q5
    refine ⟨⟨ml.trans x0.symm, emp, q4, q5, fun o ho => ?_, fun o k ho hk hlt => ?_⟩, fun j hj => ⟨by rw [m9]; exact (h.2 j hj).1, fun hn => TM_mv (hI j hj hn) (fun c hc i hi => ?_) ((h.2 j hj).2 hn)⟩⟩
    · rw [q1 4 (by omega) (by omega), q2]; exact hT.2.2.2.2.1 o ho
    · rw [q2] at hlt
      rw [q1 (5 + o) (by omega) (by omega)]
      exact SL_same ho hk (fun i hi hs => q3.1 i ((sl_lo o ho k hk).1 i hi hs) hi) (fun i hi hs => q3.2 i ((sl_lo o ho k hk).2 i hi hs) hi) (hT.2.2.2.2.2 o k ho hk hlt)
    · have hcc : c = 0 ∨ c = 1 ∨ c = 2 ∨ c = 3 ∨ 4 ≤ c := by omega
      have hpos : ∀ c, (c = 1 ∨ c = 2 ∨ c = 3) → ¬ wR c * (j + 1) + i = 0 := by
        intro c hc9
        have : wR c = 1 := by rcases hc9 with rfl | rfl | rfl <;> rfl
        rw [this]; omega
      rcases hcc with rfl | rfl | rfl | rfl | hc4
      · rw [m0]
      · exact (ms _ (hpos 1 (by omega))).1
      · exact (ms _ (hpos 2 (by omega))).2.1
      · exact (ms _ (hpos 3 (by omega))).2.2
      · rw [q1 c hc4 (by omega)]
  by_cases hex : ∃ o k, o < 4 ∧ k < 2 ∧ a1 = nI o ∧ NUM (T.2 1 o) a2 k
  rotate_left
  · obtain ⟨u1, u2, u3, u4, u5⟩ := xn hex
    obtain ⟨w1, w2, w3, w4⟩ := mn (fun ⟨o, k, ho, hk, e, hN⟩ => hex ⟨o, k, ho, hk, e, by rw [← hcnt o ho]; exact hN⟩)
    exact ⟨u1.trans w1.symm, stay w4 u4 u5 (w2.trans u2.symm) (w3.trans u3.symm)⟩
  · obtain ⟨o, k, ho, hk, e, hN⟩ := hex
    obtain ⟨u1, u2, u3, u4⟩ := xy o k ho hk e hN
    obtain ⟨w1, w2, w3, w4⟩ := my o k ho hk e (by rw [hcnt o ho]; exact hN)
    rw [TX_eq hT o] at w1 w2 w3 w4
    by_cases hz : (TXr T o).1 = 0
    rotate_left
    · obtain ⟨p1, p2, p3⟩ := u3 hz
      obtain ⟨s1, s2⟩ := w3 hz
      exact ⟨p1.trans s1.symm, stay s2 p2 p3 (w1.trans u1.symm) (w2.trans u2.symm)⟩
    · obtain ⟨p1, p2, p3, p4⟩ := u4 hz
      obtain ⟨s1, s2, s3, s4, s5⟩ := w4 hz
      refine ⟨p1.trans s1.symm, ⟨ml.trans x0.symm, emp, w1.trans u1.symm, w2.trans u2.symm, fun o' ho' => ?_, fun o' k' ho' hk' hlt => ?_⟩, fun j hj => ⟨by rw [m9]; exact (h.2 j hj).1, fun hn => TM_mv (hI j hj hn) (fun c hc i hi => ?_) ((h.2 j hj).2 hn)⟩⟩
      · rw [Nat.mul_zero, Nat.zero_add, s2, p2, hcnt o ho]
        by_cases hoo : o' = o
        · subst hoo; rw [up_s, up_s]
        · rw [up_n hoo, up_n hoo]; exact hcnt o' ho'
      · have hw := wD_le o ho
        have hw' := wD_le o' ho'
        by_cases hsame : o = o' ∧ k = k'
        · obtain ⟨rfl, rfl⟩ := hsame
          refine SL_ext ho hk hB' (fun j hj => ?_) p3
          show (TXr T o).2.2 j = M' (5 + o) (2 * wD o * 0 + wD o * k + j)
          rw [Nat.mul_zero, Nat.zero_add]
          exact (s3 j hj).symm
        · have hsl := sl_ne o ho k hk o' ho' k' hk' hsame
          rw [p2] at hlt
          by_cases hoo : o' = o
          · subst hoo
            rw [up_s] at hlt
            have hkk : ¬ k' = k := fun h9 => hsame ⟨rfl, h9.symm⟩
            have hlt2 : nI k' < T.2 1 o' := by
              obtain ⟨c, hc, -, hc2, -⟩ := iv_nI (hB.2.2.1 o') (by decide)
              rw [hc] at hlt ⊢
              unfold cmx at hlt
              rw [nI_1] at hlt
              by_cases hcl : nI c < nI (k + 1)
              · rw [if_pos hcl] at hlt
                have q1 := (nI_ltI (by omega) (by omega)).mp hlt
                rcases hN with ⟨_, q2⟩ | ⟨_, _, q3⟩
                · rw [hc] at q2
                  have := (nI_eq (by omega) (by omega)).mp q2
                  exact nI_lt (by omega) (by omega)
                · rw [hc] at q3
                  have q4 := (nI_ltI (by omega) (by omega)).mp q3
                  have q5 := (nI_ltI (by omega) (by omega)).mp hcl
                  omega
              · rw [if_neg hcl] at hlt; exact hlt
            have hq := SL_same (T' := T') ho' hk' (fun i hi hs => p4.1 i (hsl.1 i hi hs).1 hi (hsl.1 i hi hs).2) (fun i hi hs => p4.2 i (hsl.2 i hi hs).1 hi (hsl.2 i hi hs).2) (hT.2.2.2.2.2 o' k' ho' hk' hlt2)
            refine SL_ext ho' hk' hB' (fun j hj => ?_) hq
            show M (5 + o') (2 * wD o' * 0 + wD o' * k' + j) = M' (5 + o') (2 * wD o' * 0 + wD o' * k' + j)
            rw [Nat.mul_zero, Nat.zero_add]
            refine (s4 _ ?_).symm
            have hkc : (k = 0 ∧ k' = 1) ∨ (k = 1 ∧ k' = 0) := by omega
            rcases hkc with ⟨rfl, rfl⟩ | ⟨rfl, rfl⟩
            · rw [Nat.mul_zero, Nat.mul_one]; omega
            · rw [Nat.mul_zero, Nat.mul_one]; omega
          · rw [up_n hoo] at hlt
            rw [s5 (5 + o') (by omega) (by omega) (by omega)]
            exact SL_same ho' hk' (fun i hi hs => p4.1 i (hsl.1 i hi hs).1 hi (hsl.1 i hi hs).2) (fun i hi hs => p4.2 i (hsl.2 i hi hs).1 hi (hsl.2 i hi hs).2) (hT.2.2.2.2.2 o' k' ho' hk' hlt)
      · have hcc : c = 0 ∨ c = 1 ∨ c = 2 ∨ c = 3 ∨ c = 4 ∨ 5 ≤ c := by omega
        have hpos : ∀ c, (c = 1 ∨ c = 2 ∨ c = 3) → ¬ wR c * (j + 1) + i = 0 := by
          intro c hc9
          have : wR c = 1 := by rcases hc9 with rfl | rfl | rfl <;> rfl
          rw [this]; omega
        rcases hcc with rfl | rfl | rfl | rfl | rfl | hc5
        · rw [m0]
        · exact (ms _ (hpos 1 (by omega))).1
        · exact (ms _ (hpos 2 (by omega))).2.1
        · exact (ms _ (hpos 3 (by omega))).2.2
        · rw [s2, up_n (by have : wR 4 = 4 := rfl; rw [this]; omega)]
        · by_cases hco : c = 5 + o
          · subst hco
            refine s4 _ (Or.inr ?_)
            rw [wD_R o ho]
            have hkc : k = 0 ∨ k = 1 := by omega
            have hj1 : 2 * wD o * 1 ≤ 2 * wD o * (j + 1) := Nat.mul_le_mul_left _ (by omega)
            rcases hkc with rfl | rfl
            · rw [Nat.mul_zero]; omega
            · rw [Nat.mul_one]; omega
          · rw [s5 c hc5 hc hco]
end
section
theorem mCP_k {M : Nat → Nat → Int32} {t z fa fp mn l e s c kp kp' : Nat → Int32} {f g : Nat} (h : mCP M (mmk t z fa fp mn l e s c kp) f g) : mCP M (mmk t z fa fp mn l e s c kp') f g := by
  intro q hq
  have h1 := h q hq
  have : q = 0 ∨ q = 1 ∨ q = 2 ∨ q = 3 ∨ q = 4 ∨ q = 5 ∨ q = 6 ∨ q = 7 ∨ q = 8 := by omega
  rcases this with rfl | rfl | rfl | rfl | rfl | rfl | rfl | rfl | rfl <;> exact h1
theorem e_m_image2 {M : Nat → Nat → Int32} {f_code x1 : Int32} {post : Int32 → Int32 → (Nat → Int32) → (Nat → Int32) → (Nat → Int32) → (Nat → Int32) → (Nat → Int32) → (Nat → Int32) → (Nat → Int32) → (Nat → Int32) → (Nat → Int32) → (Nat → Int32) → Prop} (ht : ∀ j, iv (-128) 127 (M 0 j)) (hp : ∀ r t z fa fp mn l e s c kp, mIM M (mmk t z fa fp mn l e s c kp) x1 r → post r 0 t z fa fp mn l e s c kp) : q_m_image_0 f_code (M 0) (M 1) (M 2) (M 3) (M 4) (M 5) (M 6) (M 7) (M 8) (M 9) x1 post := by
  refine sp_in (fun h => zi (hp _ _ _ _ _ _ _ _ _ _ _ ⟨fun _ => ⟨rfl, fun i hi => ?_⟩, fun k hk e => absurd (imJ_nI.mpr ⟨k, hk, e⟩) h⟩)) (fun a1 a2 => io ?_)
  · have : i = 0 ∨ i = 1 ∨ i = 2 ∨ i = 3 ∨ i = 4 ∨ i = 5 ∨ i = 6 ∨ i = 7 ∨ i = 8 ∨ i = 9 := by omega
    rcases this with rfl | rfl | rfl | rfl | rfl | rfl | rfl | rfl | rfl | rfl <;> rfl
  · obtain ⟨j, rfl, -, hj, hj2⟩ := iv_nI (iv_of (l := 0) (h := 2) rfl rfl a1 a2) (by omega)
    rw [nI_1]
    refine e_copyAll2 (f := 0) (by omega) (by omega) (by omega) ht (fun t z fa fp mn l e s c kp hcp => ⟨vp_in_nI (by omega) (by omega), fun kp2 ek => ?_⟩)
    rw [nI_clamp (by omega)] at ek
    refine hp _ _ _ _ _ _ _ _ _ _ _ ⟨fun h => absurd (imJ_nI.mpr ⟨j, by omega, rfl⟩) h, fun k hk e => ?_⟩
    have hkj : k = j := (nI_eq (by omega) (by omega)).mp e.symm
    subst hkj
    exact ⟨rfl, mCP_k hcp, by show kp2 k = 1; rw [ek]; exact up_s, fun q hq => by show kp2 q = M 9 q; rw [ek]; exact up_n hq⟩
theorem e_m_again2 {M : Nat → Nat → Int32} {f_code x1 : Int32} {post : Int32 → Int32 → (Nat → Int32) → (Nat → Int32) → (Nat → Int32) → (Nat → Int32) → (Nat → Int32) → (Nat → Int32) → (Nat → Int32) → (Nat → Int32) → (Nat → Int32) → Prop} (hb : ∀ j, iv (-128) 127 (M 0 j)) (hp : ∀ r t z fa fp mn l e s c, mAG M (mmk t z fa fp mn l e s c (M 9)) x1 r → post r 0 t z fa fp mn l e s c) : q_m_again_0 f_code (M 0) (M 1) (M 2) (M 3) (M 4) (M 5) (M 6) (M 7) (M 8) (M 9) x1 post := by
  have no : ¬ (∃ k, k < 3 ∧ x1 = nI k ∧ ¬ M 9 k = 0) → post 0 0 (M 0) (M 1) (M 2) (M 3) (M 4) (M 5) (M 6) (M 7) (M 8) := by
    intro h
    refine hp _ _ _ _ _ _ _ _ _ _ ⟨fun _ => ⟨rfl, fun i hi => ?_⟩, fun k hk e h9 => absurd ⟨k, hk, e, h9⟩ h⟩
    have : i = 0 ∨ i = 1 ∨ i = 2 ∨ i = 3 ∨ i = 4 ∨ i = 5 ∨ i = 6 ∨ i = 7 ∨ i = 8 ∨ i = 9 := by omega
    rcases this with rfl | rfl | rfl | rfl | rfl | rfl | rfl | rfl | rfl | rfl <;> rfl
  refine sp_in (fun h => ⟨fun _ => no (fun ⟨k, hk, e, _⟩ => h (by rw [e]; exact ⟨nI_pos' (by omega), nI_le (b := 2) (by omega) (by omega)⟩)), fun h9 => absurd rfl h9⟩) (fun a1 a2 => ⟨fun h9 => absurd h9 (by decide), fun _ => ?_⟩)
  obtain ⟨j, rfl, -, hj, hj2⟩ := iv_nI (iv_of (l := 0) (h := 2) rfl rfl a1 a2) (by omega)
  refine ⟨vp_in_nI (by omega) (by omega), ?_⟩
  rw [nI_clamp (by omega)]
  refine ⟨fun hk => ?_, fun hk => no (fun ⟨k, hk3, e, h9⟩ => h9 (by rw [(nI_eq (by omega) (by omega)).mp e] at hk; exact hk))⟩
  rw [nI_1]
  refine e_copyAll2 (g := 0) (by omega) (by omega) (by omega) hb (fun t z fa fp mn l e s c kp hcp => ?_)
  refine hp _ _ _ _ _ _ _ _ _ _ ⟨fun h => absurd ⟨j, by omega, rfl, hk⟩ h, fun k hk3 e _ => ?_⟩
  have hkj : k = j := (nI_eq (by omega) (by omega)).mp e.symm
  subst hkj
  exact ⟨rfl, mCP_k hcp, rfl⟩
set_option maxRecDepth 40000 in
theorem xSA_mk {T : TT} {t : Nat → Int32} {l : Int32} : xSA T (tmk t l (T.1 1) (T.1 2) (T.2 1) (T.1 3) (T.1 4) (T.1 5) (T.1 6) (T.1 7) (T.1 8) (T.1 9) (T.2 2) (T.2 3) (T.2 4) (T.2 5) (T.2 6) (T.2 7) (T.2 8) (T.2 9) (T.1 10) (T.1 11) (T.1 12) (T.1 13) (T.1 14) (T.1 15) (T.1 16) (T.2 10) (T.2 11) (T.2 12) (T.2 13) (T.2 14) (T.2 15) (T.2 16) (T.2 17) (T.1 17) (T.2 18) (T.2 19) (T.2 20) (T.1 18) (T.2 21) (T.2 22) (T.2 23) (T.1 19) (T.2 24) (T.2 25) (T.2 26) (T.1 20) (T.2 27) (T.2 28) (T.2 29) (T.1 21) (T.1 22) (T.2 30) (T.2 31) (T.1 23) (T.1 24) (T.2 32) (T.2 33)) := by
  refine ⟨fun i h1 h2 => ?_, fun i h1 h2 => ?_⟩
  · have : i = 1 ∨ i = 2 ∨ i = 3 ∨ i = 4 ∨ i = 5 ∨ i = 6 ∨ i = 7 ∨ i = 8 ∨ i = 9 ∨ i = 10 ∨ i = 11 ∨ i = 12 ∨ i = 13 ∨ i = 14 ∨ i = 15 ∨ i = 16 ∨ i = 17 ∨ i = 18 ∨ i = 19 ∨ i = 20 ∨ i = 21 ∨ i = 22 ∨ i = 23 ∨ i = 24 := by omega
    rcases this with rfl | rfl | rfl | rfl | rfl | rfl | rfl | rfl | rfl | rfl | rfl | rfl | rfl | rfl | rfl | rfl | rfl | rfl | rfl | rfl | rfl | rfl | rfl | rfl <;> rfl
  · have : i = 1 ∨ i = 2 ∨ i = 3 ∨ i = 4 ∨ i = 5 ∨ i = 6 ∨ i = 7 ∨ i = 8 ∨ i = 9 ∨ i = 10 ∨ i = 11 ∨ i = 12 ∨ i = 13 ∨ i = 14 ∨ i = 15 ∨ i = 16 ∨ i = 17 ∨ i = 18 ∨ i = 19 ∨ i = 20 ∨ i = 21 ∨ i = 22 ∨ i = 23 ∨ i = 24 ∨ i = 25 ∨ i = 26 ∨ i = 27 ∨ i = 28 ∨ i = 29 ∨ i = 30 ∨ i = 31 ∨ i = 32 ∨ i = 33 := by omega
    rcases this with rfl | rfl | rfl | rfl | rfl | rfl | rfl | rfl | rfl | rfl | rfl | rfl | rfl | rfl | rfl | rfl | rfl | rfl | rfl | rfl | rfl | rfl | rfl | rfl | rfl | rfl | rfl | rfl | rfl | rfl | rfl | rfl | rfl <;> rfl
theorem xFD_no {T : TT} {a b c d e : Int32} (hlen : iv 0 600 (T.1 0)) (h : ¬ T.1 0 + 20 ≤ 600) : xFD T (tmk (T.2 0) (T.1 0) (T.1 1) (T.1 2) (T.2 1) (T.1 3) (T.1 4) (T.1 5) (T.1 6) (T.1 7) (T.1 8) (T.1 9) (T.2 2) (T.2 3) (T.2 4) (T.2 5) (T.2 6) (T.2 7) (T.2 8) (T.2 9) (T.1 10) (T.1 11) (T.1 12) (T.1 13) (T.1 14) (T.1 15) (T.1 16) (T.2 10) (T.2 11) (T.2 12) (T.2 13) (T.2 14) (T.2 15) (T.2 16) (T.2 17) (T.1 17) (T.2 18) (T.2 19) (T.2 20) (T.1 18) (T.2 21) (T.2 22) (T.2 23) (T.1 19) (T.2 24) (T.2 25) (T.2 26) (T.1 20) (T.2 27) (T.2 28) (T.2 29) (T.1 21) (T.1 22) (T.2 30) (T.2 31) (T.1 23) (T.1 24) (T.2 32) (T.2 33)) a b c d e (-1) := ⟨xSA_mk, fun _ => ⟨rfl, rfl, rfl⟩, fun n hn hle => absurd (by rw [hn]; exact (e_len (by omega)).mpr hle) h⟩
theorem xFD_yes {T : TT} {a b c d e : Int32} {n : Nat} {t : Nat → Int32} (hn : T.1 0 = nI n) (hle : n + 20 ≤ 600) (hb : B20 (T.2 0) t n a b c d e) : xFD T (tmk t (nI (n + 20)) (T.1 1) (T.1 2) (T.2 1) (T.1 3) (T.1 4) (T.1 5) (T.1 6) (T.1 7) (T.1 8) (T.1 9) (T.2 2) (T.2 3) (T.2 4) (T.2 5) (T.2 6) (T.2 7) (T.2 8) (T.2 9) (T.1 10) (T.1 11) (T.1 12) (T.1 13) (T.1 14) (T.1 15) (T.1 16) (T.2 10) (T.2 11) (T.2 12) (T.2 13) (T.2 14) (T.2 15) (T.2 16) (T.2 17) (T.1 17) (T.2 18) (T.2 19) (T.2 20) (T.1 18) (T.2 21) (T.2 22) (T.2 23) (T.1 19) (T.2 24) (T.2 25) (T.2 26) (T.1 20) (T.2 27) (T.2 28) (T.2 29) (T.1 21) (T.1 22) (T.2 30) (T.2 31) (T.1 23) (T.1 24) (T.2 32) (T.2 33)) a b c d e (nI (n + 20)) := by
  refine ⟨xSA_mk, fun h => absurd (by rw [hn]; exact (e_len (by omega)).mpr hle) h, fun m hm hle2 => ?_⟩
  have : m = n := (nI_eq (by omega) (by omega)).mp (hm.symm.trans hn)
  subst this
  exact ⟨rfl, rfl, hb⟩
theorem mSA_mk {M : Nat → Nat → Int32} {t z : Nat → Int32} (hz : ∀ j, ¬ j = 0 → z j = M 1 j) : mSA M (mmk t z (M 2) (M 3) (M 4) (M 5) (M 6) (M 7) (M 8) (M 9)) := by
  refine ⟨fun i h1 h2 => ?_, hz⟩
  have : i = 2 ∨ i = 3 ∨ i = 4 ∨ i = 5 ∨ i = 6 ∨ i = 7 ∨ i = 8 ∨ i = 9 := by omega
  rcases this with rfl | rfl | rfl | rfl | rfl | rfl | rfl | rfl <;> rfl
theorem mFD_no {M : Nat → Nat → Int32} {a b c d e : Int32} (h : ¬ M 1 0 + 20 ≤ 600) : mFD M (mmk (M 0) (M 1) (M 2) (M 3) (M 4) (M 5) (M 6) (M 7) (M 8) (M 9)) a b c d e (-1) := ⟨mSA_mk (fun _ _ => rfl), fun _ => ⟨rfl, rfl, rfl⟩, fun n hn hle => absurd (by rw [hn]; exact (e_len (by omega)).mpr hle) h⟩
theorem mFD_yes {M : Nat → Nat → Int32} {a b c d e : Int32} {n : Nat} {t z : Nat → Int32} (hn : M 1 0 = nI n) (hle : n + 20 ≤ 600) (hb : B20 (M 0) t n a b c d e) (h0 : z 0 = nI (n + 20)) (hz : ∀ j, ¬ j = 0 → z j = M 1 j) : mFD M (mmk t z (M 2) (M 3) (M 4) (M 5) (M 6) (M 7) (M 8) (M 9)) a b c d e (nI (n + 20)) := by
  refine ⟨mSA_mk hz, fun h => absurd (by rw [hn]; exact (e_len (by omega)).mpr hle) h, fun m hm hle2 => ?_⟩
  have : m = n := (nI_eq (by omega) (by omega)).mp (hm.symm.trans hn)
  subst this
  exact ⟨rfl, h0, hb⟩
end
section
def AN_count (M : Nat → Nat → Int32) (a : Int32) : Int32 := if 0 ≤ a ∧ a ≤ 3 then M 4 a.toNatClampNeg else -2
def AN_fault (M : Nat → Nat → Int32) (a : Int32) : Int32 := if a = 0 then M 2 0 else if a = 1 then M 3 0 else -1
def rowM (M : Nat → Nat → Int32) (o : Nat) (a : Int32) : Nat → Int32 := fun j => M (5 + o) (wD o * a.toNatClampNeg + j)
def F3 (td : Nat → Int32) (b c : Int32) : Int32 := if b = -1 then (if c = 0 then td 0 else -2) else if (0 ≤ b ∧ b < td 0) ∧ 0 ≤ c ∧ c ≤ 2 then td (1 + 3 * b.toNatClampNeg + c.toNatClampNeg) else -2
def AN_deed (M : Nat → Nat → Int32) (a b c : Int32) : Int32 := if 0 ≤ a ∧ a < M 4 1 then F3 (rowM M 1 a) b c else -2
def AN_fact (M : Nat → Nat → Int32) (a b c : Int32) : Int32 := if 0 ≤ a ∧ a < M 4 2 then F3 (rowM M 2 a) b c else -2
def Fec (td : Nat → Int32) (b c : Int32) : Int32 := if (0 ≤ b ∧ b < td 4) ∧ 0 ≤ c ∧ c ≤ 1 then td (43 + 2 * b.toNatClampNeg + c.toNatClampNeg) else -1
def AN_echo (M : Nat → Nat → Int32) (a b c : Int32) : Int32 := if 0 ≤ a ∧ a < M 4 0 then Fec (rowM M 0 a) b c else -1
def FL (td : Nat → Int32) (n : Nat) : Int32 := if 60 ≤ n then (if nI ((n - 60) / 9) < td 0 ∧ nI ((n - 60) % 9) < td 0 then td (51 + 9 * ((n - 60) / 9) + (n - 60) % 9) else -1) else if n / 10 = 1 then (if nI (n % 10) < td 0 then td (7 + n % 10) else -1) else if n / 10 = 2 then (if nI (n % 10) < td 0 then td (16 + n % 10) else -1) else if n / 10 = 3 then (if nI (n % 10) < td 1 then td (25 + n % 10) else -1) else if n / 10 = 4 then (if nI (n % 10) < td 1 then td (31 + n % 10) else -1) else if n / 10 = 5 then (if nI (n % 10) < td 1 then td (37 + n % 10) else -1) else if n ≤ 6 then td n else -1
def AN_land (M : Nat → Nat → Int32) (a b : Int32) : Int32 := if 0 ≤ a ∧ a < M 4 0 then (if 0 ≤ b ∧ b ≤ 140 then FL (rowM M 0 a) b.toNatClampNeg else -1) else -1
theorem TM_cnt {T : TT} {M : Nat → Nat → Int32} (h : TM T M 0) (o : Nat) (ho : o < 4) : M 4 o = T.2 1 o := by
  have g := h.2.2.2.2.1 o ho
  rw [Nat.mul_zero, Nat.zero_add] at g
  exact g
theorem TM_sl {T : TT} {M : Nat → Nat → Int32} (h : TM T M 0) (o k : Nat) (ho : o < 4) (hk : k < 2) (hl : nI k < T.2 1 o) : SL o k T (rowM M o (nI k)) := by
  have g := h.2.2.2.2.2 o k ho hk hl
  unfold rowM
  rw [nI_clamp (by omega)]
  rw [Nat.mul_zero, Nat.zero_add] at g
  exact g
theorem in_lt {x c : Int32} (hc : iv 0 1000 c) : (0 ≤ x ∧ x ≤ c - 1) ↔ (0 ≤ x ∧ x < c) := by
  have e0 : (0 : Int32).toInt = 0 := rfl
  have e1 : (1 : Int32).toInt = 1 := rfl
  have es : (c - 1).toInt = c.toInt - 1 := by
    rw [Int32.toInt_sub, e1]
    have := hc.1
    have := hc.2
    exact Int.bmod_eq_of_le (by omega) (by omega)
  constructor
  · rintro ⟨h1, h2⟩
    refine ⟨h1, Int32.lt_iff_toInt_lt.mpr ?_⟩
    have := r_le h2
    omega
  · rintro ⟨h1, h2⟩
    refine ⟨h1, Int32.le_iff_toInt_le.mpr ?_⟩
    have := r_lt h2
    omega
theorem lt_nI {x c : Int32} {m : Nat} (hc : iv 0 m c) (h : 0 ≤ x ∧ x < c) : ∃ k : Nat, k < m ∧ x = nI k := by
  obtain ⟨j, hj, e⟩ := nI_of (Int32.not_lt.mpr h.1)
  refine ⟨j, ?_, e⟩
  have := r_lt h.2
  rw [e, nI_toInt hj] at this
  have := hc.2
  omega
theorem e_is {mn : Nat → Int32} {o : Nat} {x : Int32} {post : Int32 → Prop} (ho : o < 4) (hc : iv 0 2 (mn o)) (h0 : ¬ (0 ≤ x ∧ x < mn o) → post 0) (h1 : (0 ≤ x ∧ x < mn o) → post 1) : q_m_is_0 mn (nI o) x post := by
  refine ⟨vp_in_nI (by omega) (by omega), ?_⟩
  rw [nI_clamp (by omega)]
  have e := in_lt (x := x) (iv_w hc (by decide) : iv 0 1000 (mn o))
  exact sp_in (fun h => ⟨rfl, h0 (fun h2 => h (e.mpr h2))⟩) (fun a b => ⟨rfl, h1 (e.mp ⟨a, b⟩)⟩)
theorem e_at {c : Int32} {x : Int32} {A C D : Prop} (hc : iv 0 2 c) (h0 : ¬ (0 ≤ x ∧ x < c) → A) (h2 : x = nI 0 → nI 0 < c → C) (h1 : x = nI 1 → nI 1 < c → D) : (x < 0 → A) ∧ (¬ x < 0 → ((c ≤ x → A) ∧ (¬ c ≤ x → (vp_in x 2 ∧ (x = 0 → C) ∧ (¬ x = 0 → D))))) := by
  refine ⟨fun h => h0 (fun h9 => absurd h (Int32.not_lt.mpr h9.1)), fun h => ⟨fun h9 => h0 (fun h8 => absurd h8.2 (Int32.not_lt.mpr h9)), fun h9 => ?_⟩⟩
  have hlt := Int32.not_le.mp h9
  obtain ⟨k, hk, e⟩ := lt_nI (m := 2) hc ⟨Int32.not_lt.mp h, hlt⟩
  refine ⟨by rw [e]; exact vp_in_nI hk (by omega), fun hx => ?_, fun hx => ?_⟩
  · exact h2 hx (by rw [hx] at hlt; exact hlt)
  · have hk1 : k = 1 := by
      by_cases h0 : k = 0
      · exact absurd (by rw [e, h0]; rfl) hx
      · omega
    rw [hk1] at e
    exact h1 e (by rw [e] at hlt; exact hlt)
theorem e_x_count {T : TT} {M : Nat → Nat → Int32} {a : Int32} {post : Int32 → Prop} (h : TM T M 0) (hp : post (AN_count M a)) : q_wx_X10_count_0 (T.2 1) a post := by
  unfold AN_count at hp
  refine ⟨fun h9 => ?_, fun h9 => ⟨fun h4 => ?_, fun h4 => ?_⟩⟩
  · rw [if_neg (fun h8 => absurd h9 (Int32.not_lt.mpr h8.1))] at hp; exact hp
  · have h3 : a ≤ 3 := Int32.le_iff_toInt_le.mpr (by have := r_lt h4; have e3 : (3 : Int32).toInt = 3 := rfl; have e4 : (4 : Int32).toInt = 4 := rfl; omega)
    obtain ⟨o, ho, e⟩ := nI_of2 (M := 3) (n := 3) (by decide) h9 h3
    rw [if_pos ⟨Int32.not_lt.mp h9, h3⟩] at hp
    subst e
    rw [nI_clamp (by omega)] at hp ⊢
    rw [TM_cnt h o (by omega)] at hp
    exact ⟨vp_in_nI (by omega) (by omega), hp⟩
  · rw [if_neg (fun h8 => h4 (Int32.lt_iff_toInt_lt.mpr (by have := r_le h8.2; have e3 : (3 : Int32).toInt = 3 := rfl; have e4 : (4 : Int32).toInt = 4 := rfl; omega)))] at hp; exact hp
theorem e_m_count {M : Nat → Nat → Int32} {cd a : Int32} {post : Int32 → Int32 → Prop} (hp : post (AN_count M a) 0) : q_m_count_0 cd (M 4) a post := by
  unfold AN_count at hp
  refine sp_in (fun h => iz ?_) (fun h1 h2 => oi ?_)
  · rw [if_neg h] at hp; exact hp
  · rw [if_pos ⟨h1, h2⟩] at hp
    obtain ⟨o, ho, e⟩ := nI_of2 (M := 3) (n := 3) (by decide) (Int32.not_lt.mpr h1) h2
    exact ⟨by rw [e]; exact vp_in_nI (by omega) (by omega), hp⟩
theorem e_x_fault {T : TT} {M : Nat → Nat → Int32} {a : Int32} {post : Int32 → Prop} (h : TM T M 0) (hp : post (AN_fault M a)) : q_wx_X10_fault_0 (T.1 1) (T.1 2) a post := by
  unfold AN_fault at hp
  rw [h.2.2.1, h.2.2.2.1] at hp
  refine ⟨fun h0 => ?_, fun h0 => ?_⟩
  · rw [if_neg h0] at hp
    refine ⟨fun h1 => ?_, fun h1 => ?_⟩
    · rw [if_neg h1] at hp; exact hp
    · rw [if_pos h1] at hp; exact hp
  · rw [if_pos h0] at hp; exact hp
theorem e_m_fault {M : Nat → Nat → Int32} {cd a : Int32} {post : Int32 → Int32 → Prop} (hp : post (AN_fault M a) 0) : q_m_fault_0 cd (M 2) (M 3) a post := by
  unfold AN_fault at hp
  refine ⟨fun h0 => ?_, fun h0 => ?_⟩
  · rw [if_neg h0] at hp
    refine ⟨fun h1 => ?_, fun h1 => ?_⟩
    · rw [if_neg h1] at hp; exact hp
    · rw [if_pos h1] at hp; exact hp
  · rw [if_pos h0] at hp; exact hp
theorem e_look_deed {c x b : Int32} {p q s td : Nat → Int32} {post : Int32 → Prop} (hR : R3 c p q s td) (hc : iv 0 40 c) (hb : ¬ b = -1) (hlt : 0 ≤ b ∧ b < c) (hp : post (F3 td b x)) : q_wv_X1_look_0 p q s b x post := by
  have hlt' : 0 ≤ b ∧ b < td 0 := by rw [← hR.1]; exact hlt
  obtain ⟨k, hk, e⟩ := lt_nI (m := 40) hc hlt
  have hin : vp_in b 40 := by rw [e]; exact vp_in_nI hk (by omega)
  have hkc : k < (td 0).toNatClampNeg := by
    rw [← hR.1]
    have h1 := r_lt hlt.2
    rw [e, nI_toInt (by omega)] at h1
    have e2 : c.toNatClampNeg = c.toInt.toNat := rfl
    omega
  have hcl : b.toNatClampNeg = k := by rw [e]; exact nI_clamp (by omega)
  obtain ⟨r1, r2, r3⟩ := hR.2 k hkc
  unfold F3 at hp
  rw [if_neg hb] at hp
  refine ⟨fun h => ?_, fun h => ⟨hin, ?_⟩, fun h => ⟨hin, ?_⟩, fun h => ⟨hin, ?_⟩⟩
  · rw [if_neg (fun h9 => ?_)] at hp
    · exact hp
    · have a1 := r_le h9.2.1
      have a2 := r_le h9.2.2
      have e0 : (0 : Int32).toInt = 0 := rfl
      have e2 : (2 : Int32).toInt = 2 := rfl
      omega
  · subst h
    rw [if_pos ⟨hlt', by decide⟩, hcl, c_0] at hp
    rw [hcl, r1]
    exact hp
  · subst h
    rw [if_pos ⟨hlt', by decide⟩, hcl, c_1, show 1 + 3 * k + 1 = 2 + 3 * k by omega] at hp
    rw [hcl, r2]
    exact hp
  · subst h
    rw [if_pos ⟨hlt', by decide⟩, hcl, c_2, show 1 + 3 * k + 2 = 3 + 3 * k by omega] at hp
    rw [hcl, r3]
    exact hp
set_option maxRecDepth 40000 in
theorem e_x_deed {T : TT} {M : Nat → Nat → Int32} {a b c : Int32} {post : Int32 → Prop} (h : TM T M 0) (hB : tB T) (hp : post (AN_deed M a b c)) : q_wx_X10_deed_0 (T.2 1) (T.1 17) (T.2 18) (T.2 19) (T.2 20) (T.1 18) (T.2 21) (T.2 22) (T.2 23) a b c post := by
  unfold AN_deed at hp
  rw [TM_cnt h 1 (by decide)] at hp
  have hc2 : iv 0 2 (T.2 1 1) := hB.2.2.1 1
  have sl1 : a = nI 1 → nI 1 < T.2 1 1 → (post (F3 (rowM M 1 a) b c) → ((¬ b = -1 → q_wx_X10_deed_30k1 (T.2 1) (T.1 17) (T.2 18) (T.2 19) (T.2 20) (T.1 18) (T.2 21) (T.2 22) (T.2 23) b c post) ∧ (b = -1 → ((¬ c = 0 → q_wx_X10_deed_30k1 (T.2 1) (T.1 17) (T.2 18) (T.2 19) (T.2 20) (T.1 18) (T.2 21) (T.2 22) (T.2 23) b c post) ∧ (c = 0 → post (T.1 18)))))) := by
    intro ea hl hp
    rw [ea] at hp
    have hR : R3 (T.1 18) (T.2 21) (T.2 22) (T.2 23) (rowM M 1 (nI 1)) := TM_sl h 1 1 (by decide) (by decide) hl
    have k30 : (b = -1 → ¬ c = 0) → q_wx_X10_deed_30k1 (T.2 1) (T.1 17) (T.2 18) (T.2 19) (T.2 20) (T.1 18) (T.2 21) (T.2 22) (T.2 23) b c post := by
      intro hbc
      refine ⟨fun h9 => ?_, fun h9 => ⟨fun h8 => ?_, fun h8 => ?_⟩⟩
      · unfold F3 at hp
        by_cases hb : b = -1
        · rw [if_pos hb, if_neg (hbc hb)] at hp; exact hp
        · rw [if_neg hb, if_neg (fun h7 => absurd h9 (Int32.not_lt.mpr h7.1.1))] at hp; exact hp
      · have hb : ¬ b = -1 := fun h7 => h9 (by rw [h7]; decide)
        exact e_look_deed hR (hB.2.2.2.2.2.2.2.2.2.2.2.2.1) hb ⟨Int32.not_lt.mp h9, h8⟩ hp
      · have hb : ¬ b = -1 := fun h7 => h9 (by rw [h7]; decide)
        unfold F3 at hp
        rw [if_neg hb, if_neg (fun h7 => h8 (by rw [hR.1]; exact h7.1.2))] at hp; exact hp
    refine ⟨fun hb => k30 (fun h9 => absurd h9 hb), fun hb => ⟨fun hcc => k30 (fun _ => hcc), fun hcc => ?_⟩⟩
    unfold F3 at hp
    rw [if_pos hb, if_pos hcc, ← hR.1] at hp
    exact hp
  have sl0 : a = nI 0 → nI 0 < T.2 1 1 → (post (F3 (rowM M 1 a) b c) → ((¬ b = -1 → q_wx_X10_deed_30k0 (T.2 1) (T.1 17) (T.2 18) (T.2 19) (T.2 20) (T.1 18) (T.2 21) (T.2 22) (T.2 23) b c post) ∧ (b = -1 → ((¬ c = 0 → q_wx_X10_deed_30k0 (T.2 1) (T.1 17) (T.2 18) (T.2 19) (T.2 20) (T.1 18) (T.2 21) (T.2 22) (T.2 23) b c post) ∧ (c = 0 → post (T.1 17)))))) := by
    intro ea hl hp
    rw [ea] at hp
    have hR : R3 (T.1 17) (T.2 18) (T.2 19) (T.2 20) (rowM M 1 (nI 0)) := TM_sl h 1 0 (by decide) (by decide) hl
    have k30 : (b = -1 → ¬ c = 0) → q_wx_X10_deed_30k0 (T.2 1) (T.1 17) (T.2 18) (T.2 19) (T.2 20) (T.1 18) (T.2 21) (T.2 22) (T.2 23) b c post := by
      intro hbc
      refine ⟨fun h9 => ?_, fun h9 => ⟨fun h8 => ?_, fun h8 => ?_⟩⟩
      · unfold F3 at hp
        by_cases hb : b = -1
        · rw [if_pos hb, if_neg (hbc hb)] at hp; exact hp
        · rw [if_neg hb, if_neg (fun h7 => absurd h9 (Int32.not_lt.mpr h7.1.1))] at hp; exact hp
      · have hb : ¬ b = -1 := fun h7 => h9 (by rw [h7]; decide)
        exact e_look_deed hR (hB.2.2.2.2.2.2.1) hb ⟨Int32.not_lt.mp h9, h8⟩ hp
      · have hb : ¬ b = -1 := fun h7 => h9 (by rw [h7]; decide)
        unfold F3 at hp
        rw [if_neg hb, if_neg (fun h7 => h8 (by rw [hR.1]; exact h7.1.2))] at hp; exact hp
    refine ⟨fun hb => k30 (fun h9 => absurd h9 hb), fun hb => ⟨fun hcc => k30 (fun _ => hcc), fun hcc => ?_⟩⟩
    unfold F3 at hp
    rw [if_pos hb, if_pos hcc, ← hR.1] at hp
    exact hp
  refine e_at hc2 (fun (hn : ¬ (0 ≤ a ∧ a < T.2 1 1)) => ?_) (fun ea hl => ?_) (fun ea hl => ?_)
  · rw [if_neg hn] at hp
    exact ⟨fun _ => hp, fun h9 => absurd h9 (by decide), fun h9 => absurd rfl h9⟩
  · rw [if_pos (by rw [ea]; exact ⟨by decide, hl⟩)] at hp
    exact ⟨fun h9 => absurd h9 (by decide), fun h9 => absurd h9 (by decide), fun _ _ => sl0 ea hl hp⟩
  · rw [if_pos (by rw [ea]; exact ⟨by decide, hl⟩)] at hp
    exact ⟨fun h9 => absurd h9 (by decide), fun _ => sl1 ea hl hp, fun _ h9 => absurd rfl h9⟩
set_option maxRecDepth 40000 in
theorem e_m_deed {M : Nat → Nat → Int32} {cd ev a b c : Int32} {post : Int32 → Int32 → Int32 → Prop} (hcnt : iv 0 2 (M 4 1)) (hE : mEve (M 6)) (hp : ∀ ev', post (AN_deed M a b c) 0 ev') : q_m_deed_0 cd (M 4) (M 6) ev a b c post := by
  unfold AN_deed at hp
  refine e_is (o := 1) (by decide) hcnt (fun hn => ⟨rfl, zi ?_⟩) (fun hy => ⟨rfl, io ?_⟩)
  · rw [if_neg hn] at hp; exact hp _
  · rw [if_pos hy] at hp
    obtain ⟨k, hk, ea⟩ := lt_nI (m := 2) hcnt hy
    have hcl : a.toNatClampNeg = k := by rw [ea]; exact nI_clamp (by omega)
    have row : ∀ j, rowM M 1 a j = M 6 (121 * k + j) := fun j => by unfold rowM; rw [hcl]; rfl
    have dd : ∀ {Q : Int32 → Prop}, Q (rowM M 1 a 0) → q_m_deeds_0 (M 6) a Q := by
      intro Q hQ
      have e : (121 : Int32) * a = nI (121 * k) := by rw [ea]; exact pk_mul 121 k
      refine ⟨by rw [e]; exact vp_in_nI (by omega) (by omega), ?_⟩
      rw [e, nI_clamp (by omega)]
      rw [row 0, Nat.add_zero] at hQ
      exact hQ
    have hr0 : iv 0 40 (rowM M 1 a 0) := by rw [row 0, Nat.add_zero]; exact (hE k (by omega)).1
    have il := in_lt (x := b) (iv_w hr0 (by decide) : iv 0 1000 (rowM M 1 a 0))
    unfold F3 at hp
    refine ⟨fun hb => dd ?_, fun hb => ⟨fun hc => ?_, fun hc => dd ?_⟩⟩
    · rw [if_neg hb] at hp
      refine sp_in (fun h => iz ?_) (fun h1 h2 => oi (sp_in (fun h => iz ?_) (fun h3 h4 => oi ?_)))
      · rw [if_neg (fun h9 => h (il.mpr h9.1))] at hp; exact hp _
      · rw [if_neg (fun h9 => h h9.2)] at hp; exact hp _
      · rw [if_pos ⟨il.mp ⟨h1, h2⟩, h3, h4⟩] at hp
        obtain ⟨j, hj, eb⟩ := lt_nI (m := 40) hr0 (il.mp ⟨h1, h2⟩)
        obtain ⟨i, hi, ec⟩ := nI_of2 (M := 2) (n := 2) (by decide) (Int32.not_lt.mpr h3) h4
        have e : (((121 * a) + 1) + (3 * b)) + c = nI (121 * k + 1 + 3 * j + i) := by rw [ea, eb, ec]; exact ix3 121
        refine ⟨by rw [e]; exact vp_in_nI (by omega) (by omega), ?_⟩
        rw [e, nI_clamp (by omega)]
        rw [row, eb, ec, nI_clamp (by omega), nI_clamp (by omega), show 121 * k + (1 + 3 * j + i) = 121 * k + 1 + 3 * j + i by omega] at hp
        exact hp _
    · rw [if_pos hb, if_neg hc] at hp; exact hp _
    · rw [if_pos hb, if_pos hc] at hp; exact hp _
theorem e_look_fact {c x b : Int32} {p q s td : Nat → Int32} {post : Int32 → Prop} (hR : R3 c p q s td) (hc : iv 0 10 c) (hb : ¬ b = -1) (hlt : 0 ≤ b ∧ b < c) (hp : post (F3 td b x)) : q_ws_X6_look_0 p q s b x post := by
  have hlt' : 0 ≤ b ∧ b < td 0 := by rw [← hR.1]; exact hlt
  obtain ⟨k, hk, e⟩ := lt_nI (m := 10) hc hlt
  have hin : vp_in b 10 := by rw [e]; exact vp_in_nI hk (by omega)
  have hkc : k < (td 0).toNatClampNeg := by
    rw [← hR.1]
    have h1 := r_lt hlt.2
    rw [e, nI_toInt (by omega)] at h1
    have e2 : c.toNatClampNeg = c.toInt.toNat := rfl
    omega
  have hcl : b.toNatClampNeg = k := by rw [e]; exact nI_clamp (by omega)
  obtain ⟨r1, r2, r3⟩ := hR.2 k hkc
  unfold F3 at hp
  rw [if_neg hb] at hp
  refine ⟨fun h => ?_, fun h => ⟨hin, ?_⟩, fun h => ⟨hin, ?_⟩, fun h => ⟨hin, ?_⟩⟩
  · rw [if_neg (fun h9 => ?_)] at hp
    · exact hp
    · have a1 := r_le h9.2.1
      have a2 := r_le h9.2.2
      have e0 : (0 : Int32).toInt = 0 := rfl
      have e2 : (2 : Int32).toInt = 2 := rfl
      omega
  · subst h
    rw [if_pos ⟨hlt', by decide⟩, hcl, c_0] at hp
    rw [hcl, r1]
    exact hp
  · subst h
    rw [if_pos ⟨hlt', by decide⟩, hcl, c_1, show 1 + 3 * k + 1 = 2 + 3 * k by omega] at hp
    rw [hcl, r2]
    exact hp
  · subst h
    rw [if_pos ⟨hlt', by decide⟩, hcl, c_2, show 1 + 3 * k + 2 = 3 + 3 * k by omega] at hp
    rw [hcl, r3]
    exact hp
set_option maxRecDepth 40000 in
theorem e_x_fact {T : TT} {M : Nat → Nat → Int32} {a b c : Int32} {post : Int32 → Prop} (h : TM T M 0) (hB : tB T) (hp : post (AN_fact M a b c)) : q_wx_X10_fact_0 (T.2 1) (T.1 19) (T.2 24) (T.2 25) (T.2 26) (T.1 20) (T.2 27) (T.2 28) (T.2 29) a b c post := by
  unfold AN_fact at hp
  rw [TM_cnt h 2 (by decide)] at hp
  have hc2 : iv 0 2 (T.2 1 2) := hB.2.2.1 2
  have sl1 : a = nI 1 → nI 1 < T.2 1 2 → (post (F3 (rowM M 2 a) b c) → ((¬ b = -1 → q_wx_X10_fact_30k1 (T.2 1) (T.1 19) (T.2 24) (T.2 25) (T.2 26) (T.1 20) (T.2 27) (T.2 28) (T.2 29) b c post) ∧ (b = -1 → ((¬ c = 0 → q_wx_X10_fact_30k1 (T.2 1) (T.1 19) (T.2 24) (T.2 25) (T.2 26) (T.1 20) (T.2 27) (T.2 28) (T.2 29) b c post) ∧ (c = 0 → post (T.1 20)))))) := by
    intro ea hl hp
    rw [ea] at hp
    have hR : R3 (T.1 20) (T.2 27) (T.2 28) (T.2 29) (rowM M 2 (nI 1)) := TM_sl h 2 1 (by decide) (by decide) hl
    have k30 : (b = -1 → ¬ c = 0) → q_wx_X10_fact_30k1 (T.2 1) (T.1 19) (T.2 24) (T.2 25) (T.2 26) (T.1 20) (T.2 27) (T.2 28) (T.2 29) b c post := by
      intro hbc
      refine ⟨fun h9 => ?_, fun h9 => ⟨fun h8 => ?_, fun h8 => ?_⟩⟩
      · unfold F3 at hp
        by_cases hb : b = -1
        · rw [if_pos hb, if_neg (hbc hb)] at hp; exact hp
        · rw [if_neg hb, if_neg (fun h7 => absurd h9 (Int32.not_lt.mpr h7.1.1))] at hp; exact hp
      · have hb : ¬ b = -1 := fun h7 => h9 (by rw [h7]; decide)
        exact e_look_fact hR (hB.2.2.2.2.2.2.2.2.2.2.2.2.2.1) hb ⟨Int32.not_lt.mp h9, h8⟩ hp
      · have hb : ¬ b = -1 := fun h7 => h9 (by rw [h7]; decide)
        unfold F3 at hp
        rw [if_neg hb, if_neg (fun h7 => h8 (by rw [hR.1]; exact h7.1.2))] at hp; exact hp
    refine ⟨fun hb => k30 (fun h9 => absurd h9 hb), fun hb => ⟨fun hcc => k30 (fun _ => hcc), fun hcc => ?_⟩⟩
    unfold F3 at hp
    rw [if_pos hb, if_pos hcc, ← hR.1] at hp
    exact hp
  have sl0 : a = nI 0 → nI 0 < T.2 1 2 → (post (F3 (rowM M 2 a) b c) → ((¬ b = -1 → q_wx_X10_fact_30k0 (T.2 1) (T.1 19) (T.2 24) (T.2 25) (T.2 26) (T.1 20) (T.2 27) (T.2 28) (T.2 29) b c post) ∧ (b = -1 → ((¬ c = 0 → q_wx_X10_fact_30k0 (T.2 1) (T.1 19) (T.2 24) (T.2 25) (T.2 26) (T.1 20) (T.2 27) (T.2 28) (T.2 29) b c post) ∧ (c = 0 → post (T.1 19)))))) := by
    intro ea hl hp
    rw [ea] at hp
    have hR : R3 (T.1 19) (T.2 24) (T.2 25) (T.2 26) (rowM M 2 (nI 0)) := TM_sl h 2 0 (by decide) (by decide) hl
    have k30 : (b = -1 → ¬ c = 0) → q_wx_X10_fact_30k0 (T.2 1) (T.1 19) (T.2 24) (T.2 25) (T.2 26) (T.1 20) (T.2 27) (T.2 28) (T.2 29) b c post := by
      intro hbc
      refine ⟨fun h9 => ?_, fun h9 => ⟨fun h8 => ?_, fun h8 => ?_⟩⟩
      · unfold F3 at hp
        by_cases hb : b = -1
        · rw [if_pos hb, if_neg (hbc hb)] at hp; exact hp
        · rw [if_neg hb, if_neg (fun h7 => absurd h9 (Int32.not_lt.mpr h7.1.1))] at hp; exact hp
      · have hb : ¬ b = -1 := fun h7 => h9 (by rw [h7]; decide)
        exact e_look_fact hR (hB.2.2.2.2.2.2.2.1) hb ⟨Int32.not_lt.mp h9, h8⟩ hp
      · have hb : ¬ b = -1 := fun h7 => h9 (by rw [h7]; decide)
        unfold F3 at hp
        rw [if_neg hb, if_neg (fun h7 => h8 (by rw [hR.1]; exact h7.1.2))] at hp; exact hp
    refine ⟨fun hb => k30 (fun h9 => absurd h9 hb), fun hb => ⟨fun hcc => k30 (fun _ => hcc), fun hcc => ?_⟩⟩
    unfold F3 at hp
    rw [if_pos hb, if_pos hcc, ← hR.1] at hp
    exact hp
  refine e_at hc2 (fun (hn : ¬ (0 ≤ a ∧ a < T.2 1 2)) => ?_) (fun ea hl => ?_) (fun ea hl => ?_)
  · rw [if_neg hn] at hp
    exact ⟨fun _ => hp, fun h9 => absurd h9 (by decide), fun h9 => absurd rfl h9⟩
  · rw [if_pos (by rw [ea]; exact ⟨by decide, hl⟩)] at hp
    exact ⟨fun h9 => absurd h9 (by decide), fun h9 => absurd h9 (by decide), fun _ _ => sl0 ea hl hp⟩
  · rw [if_pos (by rw [ea]; exact ⟨by decide, hl⟩)] at hp
    exact ⟨fun h9 => absurd h9 (by decide), fun _ => sl1 ea hl hp, fun _ h9 => absurd rfl h9⟩
set_option maxRecDepth 40000 in
theorem e_m_fact {M : Nat → Nat → Int32} {cd ev a b c : Int32} {post : Int32 → Int32 → Int32 → Prop} (hcnt : iv 0 2 (M 4 2)) (hE : mSig (M 7)) (hp : ∀ ev', post (AN_fact M a b c) 0 ev') : q_m_fact_0 cd (M 4) (M 7) ev a b c post := by
  unfold AN_fact at hp
  refine e_is (o := 2) (by decide) hcnt (fun hn => ⟨rfl, zi ?_⟩) (fun hy => ⟨rfl, io ?_⟩)
  · rw [if_neg hn] at hp; exact hp _
  · rw [if_pos hy] at hp
    obtain ⟨k, hk, ea⟩ := lt_nI (m := 2) hcnt hy
    have hcl : a.toNatClampNeg = k := by rw [ea]; exact nI_clamp (by omega)
    have row : ∀ j, rowM M 2 a j = M 7 (31 * k + j) := fun j => by unfold rowM; rw [hcl]; rfl
    have dd : ∀ {Q : Int32 → Prop}, Q (rowM M 2 a 0) → q_m_facts_0 (M 7) a Q := by
      intro Q hQ
      have e : (31 : Int32) * a = nI (31 * k) := by rw [ea]; exact pk_mul 31 k
      refine ⟨by rw [e]; exact vp_in_nI (by omega) (by omega), ?_⟩
      rw [e, nI_clamp (by omega)]
      rw [row 0, Nat.add_zero] at hQ
      exact hQ
    have hr0 : iv 0 10 (rowM M 2 a 0) := by rw [row 0, Nat.add_zero]; exact (hE k (by omega)).1
    have il := in_lt (x := b) (iv_w hr0 (by decide) : iv 0 1000 (rowM M 2 a 0))
    unfold F3 at hp
    refine ⟨fun hb => dd ?_, fun hb => ⟨fun hc => ?_, fun hc => dd ?_⟩⟩
    · rw [if_neg hb] at hp
      refine sp_in (fun h => iz ?_) (fun h1 h2 => oi (sp_in (fun h => iz ?_) (fun h3 h4 => oi ?_)))
      · rw [if_neg (fun h9 => h (il.mpr h9.1))] at hp; exact hp _
      · rw [if_neg (fun h9 => h h9.2)] at hp; exact hp _
      · rw [if_pos ⟨il.mp ⟨h1, h2⟩, h3, h4⟩] at hp
        obtain ⟨j, hj, eb⟩ := lt_nI (m := 10) hr0 (il.mp ⟨h1, h2⟩)
        obtain ⟨i, hi, ec⟩ := nI_of2 (M := 2) (n := 2) (by decide) (Int32.not_lt.mpr h3) h4
        have e : (((31 * a) + 1) + (3 * b)) + c = nI (31 * k + 1 + 3 * j + i) := by rw [ea, eb, ec]; exact ix3 31
        refine ⟨by rw [e]; exact vp_in_nI (by omega) (by omega), ?_⟩
        rw [e, nI_clamp (by omega)]
        rw [row, eb, ec, nI_clamp (by omega), nI_clamp (by omega), show 31 * k + (1 + 3 * j + i) = 31 * k + 1 + 3 * j + i by omega] at hp
        exact hp _
    · rw [if_pos hb, if_neg hc] at hp; exact hp _
    · rw [if_pos hb, if_pos hc] at hp; exact hp _
end
section
theorem e_ec {ec b c : Int32} {ef et td : Nat → Int32} {post : Int32 → Prop} (h4 : ec = td 4) (hc : iv 0 4 ec) (hE : ∀ j, j < (td 4).toNatClampNeg → ef j = td (43 + 2 * j) ∧ et j = td (44 + 2 * j)) (hp : post (Fec td b c)) : (b < 0 → post (-1)) ∧ (¬ b < 0 → ((b < ec → ((¬ c = 0 → ((¬ c = 1 → post (-1)) ∧ (c = 1 → (vp_in b 4 ∧ post (et (Int32.toNatClampNeg b)))))) ∧ (c = 0 → (vp_in b 4 ∧ post (ef (Int32.toNatClampNeg b)))))) ∧ (¬ b < ec → post (-1)))) := by
  unfold Fec at hp
  refine ⟨fun h => ?_, fun h => ⟨fun hl => ?_, fun hl => ?_⟩⟩
  · rw [if_neg (fun h9 => absurd h (Int32.not_lt.mpr h9.1.1))] at hp; exact hp
  · have hlt : 0 ≤ b ∧ b < td 4 := ⟨Int32.not_lt.mp h, by rw [← h4]; exact hl⟩
    obtain ⟨k, hk, e⟩ := lt_nI (m := 4) hc ⟨Int32.not_lt.mp h, hl⟩
    have hin : vp_in b 4 := by rw [e]; exact vp_in_nI hk (by omega)
    have hcl : b.toNatClampNeg = k := by rw [e]; exact nI_clamp (by omega)
    have hkc : k < (td 4).toNatClampNeg := by
      have h1 := r_lt hlt.2
      rw [e, nI_toInt (by omega)] at h1
      have e2 : (td 4).toNatClampNeg = (td 4).toInt.toNat := rfl
      omega
    obtain ⟨r1, r2⟩ := hE k hkc
    rw [hcl]
    rw [hcl] at hp
    refine ⟨fun h0 => ⟨fun h1 => ?_, fun h1 => ⟨hin, ?_⟩⟩, fun h0 => ⟨hin, ?_⟩⟩
    · rw [if_neg (fun h9 => ?_)] at hp
      · exact hp
      · obtain ⟨i, hi, ec⟩ := nI_of2 (M := 1) (n := 1) (x := c) (by decide) (Int32.not_lt.mpr h9.2.1) h9.2.2
        have : i = 0 ∨ i = 1 := by omega
        rcases this with rfl | rfl
        · exact h0 ec
        · exact h1 ec
    · rw [h1, if_pos ⟨hlt, by decide⟩, c_1, show 43 + 2 * k + 1 = 44 + 2 * k by omega] at hp
      rw [r2]; exact hp
    · rw [h0, if_pos ⟨hlt, by decide⟩, c_0, Nat.add_zero] at hp
      rw [r1]; exact hp
  · rw [if_neg (fun h9 => hl (by rw [h4]; exact h9.1.2))] at hp; exact hp
set_option maxRecDepth 40000 in
theorem e_x_echo {T : TT} {M : Nat → Nat → Int32} {a b c : Int32} {post : Int32 → Prop} (h : TM T M 0) (hB : tB T) (hp : post (AN_echo M a b c)) : q_wx_X10_echo_0 (T.2 1) (T.1 7) (T.2 5) (T.2 6) (T.1 14) (T.2 13) (T.2 14) a b c post := by
  unfold AN_echo at hp
  rw [TM_cnt h 0 (by decide)] at hp
  refine e_at (hB.2.2.1 0) (fun (hn : ¬ (0 ≤ a ∧ a < T.2 1 0)) => ?_) (fun ea hl => ?_) (fun ea hl => ?_)
  · rw [if_neg hn] at hp
    exact ⟨fun _ => hp, fun h9 => absurd h9 (by decide), fun h9 => absurd rfl h9⟩
  · rw [if_pos (by rw [ea]; exact ⟨by decide, hl⟩), ea] at hp
    have hR : LDR (T.1 3) (T.1 4) (T.1 5) (T.1 6) (T.1 7) (T.1 8) (T.1 9) (T.2 2) (T.2 3) (T.2 4) (T.2 5) (T.2 6) (T.2 7) (T.2 8) (T.2 9) (rowM M 0 (nI 0)) := TM_sl h 0 0 (by decide) (by decide) hl
    exact ⟨fun h9 => absurd h9 (by decide), fun h9 => absurd h9 (by decide), fun _ _ => e_ec hR.2.2.2.2.1 (hB.2.2.2.2.2.1) hR.2.2.2.2.2.2.2.2.2.2.1 hp⟩
  · rw [if_pos (by rw [ea]; exact ⟨by decide, hl⟩), ea] at hp
    have hR : LDR (T.1 10) (T.1 11) (T.1 12) (T.1 13) (T.1 14) (T.1 15) (T.1 16) (T.2 10) (T.2 11) (T.2 12) (T.2 13) (T.2 14) (T.2 15) (T.2 16) (T.2 17) (rowM M 0 (nI 1)) := TM_sl h 0 1 (by decide) (by decide) hl
    exact ⟨fun h9 => absurd h9 (by decide), fun _ => e_ec hR.2.2.2.2.1 (hB.2.2.2.2.2.2.2.2.2.2.2.1) hR.2.2.2.2.2.2.2.2.2.2.1 hp, fun _ h9 => absurd rfl h9⟩
theorem e_hasH {c : Int32} {k : Nat} {post : Int32 → Prop} (hk : k < 1000) (h0 : ¬ nI k < c → post 0) (h1 : nI k < c → post 1) : q_wl_X2_hasHut_0 c (nI k) post :=
  ⟨fun h => absurd h (nI_pos (by omega)), fun _ => ⟨fun h => h0 (Int32.not_lt.mpr h), fun h => h1 (Int32.not_le.mp h)⟩⟩
theorem e_hasS {c : Int32} {k : Nat} {post : Int32 → Prop} (hk : k < 1000) (h0 : ¬ nI k < c → post 0) (h1 : nI k < c → post 1) : q_wl_X2_hasSinger_0 c (nI k) post :=
  ⟨fun h => absurd h (nI_pos (by omega)), fun _ => ⟨fun h => h0 (Int32.not_lt.mpr h), fun h => h1 (Int32.not_le.mp h)⟩⟩
theorem lt_cl {c : Int32} {k m : Nat} (hc : iv 0 m c) (hm : m < 1000) (hk : k < 1000) (h : nI k < c) : k < m ∧ k < c.toNatClampNeg := by
  have h1 := r_lt h
  rw [nI_toInt (by omega)] at h1
  have h2 := hc.2
  have e : c.toNatClampNeg = c.toInt.toNat := rfl
  omega
theorem dm10 {n : Nat} (hn : n < 1000) : nI n / 10 = nI (n / 10) ∧ nI n - nI n / 10 * 10 = nI (n % 10) := ⟨pk_div (d := 10) (by omega) (by omega) (by omega), pk_rem (d := 10) (by omega) (by omega) (by omega)⟩
theorem dm9 {n : Nat} (hn : n < 1000) (h6 : 60 ≤ n) : (nI n - 60) / 9 = nI ((n - 60) / 9) ∧ (nI n - 60) - (nI n - 60) / 9 * 9 = nI ((n - 60) % 9) := by
  have e : nI n - 60 = nI (n - 60) := pk_sub (b := 60) h6
  rw [e]
  exact ⟨pk_div (d := 9) (by omega) (by omega) (by omega), pk_rem (d := 9) (by omega) (by omega) (by omega)⟩
set_option maxRecDepth 40000 in
theorem e_lk {huts singers villages dams echoes deep slide : Int32} {heights ladders minutes echoFrom echoTo homes talls known td : Nat → Int32} {w : Int32} {post : Int32 → Prop} (hL : LDR huts singers villages dams echoes deep slide heights ladders minutes echoFrom echoTo homes talls known td) (b0 : iv 0 (9 : Nat) huts) (b1 : iv 0 (6 : Nat) singers) (hp : post (if 0 ≤ w ∧ w ≤ 140 then FL td w.toNatClampNeg else -1)) : q_wl_X2_look_0 huts singers villages dams echoes deep slide heights ladders minutes homes talls known w post := by
  obtain ⟨e0, e1, e2, e3, e4, e5, e6, f1, f2, f3, f4, f5, f6⟩ := hL
  have e140 : (140 : Int32).toInt = 140 := rfl
  have e141 : (141 : Int32).toInt = 141 := rfl
  refine ⟨fun h => ?_, fun h => ⟨fun h1 => ?_, fun h1 => ?_⟩⟩
  · rw [if_neg (fun h9 => absurd h (Int32.not_lt.mpr h9.1))] at hp; exact hp
  · have hw : w ≤ 140 := Int32.le_iff_toInt_le.mpr (by have := r_lt h1; omega)
    rw [if_pos ⟨Int32.not_lt.mp h, hw⟩] at hp
    obtain ⟨n, hn, rfl⟩ := nI_of2 (M := 140) (n := 140) (by decide) h hw
    rw [nI_clamp (by omega)] at hp
    unfold FL at hp
    rw [(dm10 (n := n) (by omega)).2, (dm10 (n := n) (by omega)).1]
    refine pk_lt n 60 (fun hlt => ?_) (fun hge => ?_)
    · rw [if_neg (show ¬ 60 ≤ n by omega)] at hp
      refine pk_le 10 n (fun hge v ev => ?_) (fun hlo => ?_)
      · subst ev
        refine pk_le 30 n (fun h30 => ?_) (fun h30 => ?_)
        · rw [if_neg (show ¬ n / 10 = 1 by omega), if_neg (show ¬ n / 10 = 2 by omega)] at hp
          refine e_hasS (by omega) (fun hs => zi ?_) (fun hs => io ?_)
          · rw [e1] at hs
            have hc : n / 10 = 3 ∨ n / 10 = 4 ∨ n / 10 = 5 := by omega
            rcases hc with hc | hc | hc
            · rw [if_pos hc, if_neg hs] at hp; exact hp
            · rw [if_neg (show ¬ n / 10 = 3 by omega), if_pos hc, if_neg hs] at hp; exact hp
            · rw [if_neg (show ¬ n / 10 = 3 by omega), if_neg (show ¬ n / 10 = 4 by omega), if_pos hc, if_neg hs] at hp; exact hp
          · obtain ⟨k6, kc⟩ := lt_cl b1 (by omega) (by omega) hs
            have hin : vp_in (nI (n % 10)) 6 := vp_in_nI k6 (by omega)
            rw [e1] at hs kc
            rw [nI_clamp (by omega)]
            refine ⟨fun h3 => ⟨fun h4 => ⟨hin, ?_⟩, fun h4 => ⟨hin, ?_⟩⟩, fun h3 => ⟨hin, ?_⟩⟩
            · have q3 : ¬ n / 10 = 3 := fun h9 => h3 (by rw [h9]; rfl)
              have q4 : ¬ n / 10 = 4 := fun h9 => h4 (by rw [h9]; rfl)
              rw [if_neg q3, if_neg q4, if_pos (show n / 10 = 5 by omega), if_pos hs] at hp
              rw [f6 _ k6]; exact hp
            · have q4 : n / 10 = 4 := (nI_eq (a := n / 10) (b := 4) (by omega) (by omega)).mp h4
              rw [if_neg (show ¬ n / 10 = 3 by omega), if_pos q4, if_pos hs] at hp
              rw [(f5 _ kc).2]; exact hp
            · have q3 : n / 10 = 3 := (nI_eq (a := n / 10) (b := 3) (by omega) (by omega)).mp h3
              rw [if_pos q3, if_pos hs] at hp
              rw [(f5 _ kc).1]; exact hp
        · refine e_hasH (by omega) (fun hs => zi ?_) (fun hs => io ?_)
          · rw [e0] at hs
            have hc : n / 10 = 1 ∨ n / 10 = 2 := by omega
            rcases hc with hc | hc
            · rw [if_pos hc, if_neg hs] at hp; exact hp
            · rw [if_neg (show ¬ n / 10 = 1 by omega), if_pos hc, if_neg hs] at hp; exact hp
          · obtain ⟨k9, kc⟩ := lt_cl b0 (by omega) (by omega) hs
            have hin : vp_in (nI (n % 10)) 9 := vp_in_nI k9 (by omega)
            rw [e0] at hs kc
            rw [nI_clamp (by omega)]
            refine ⟨fun h3 => ⟨hin, ?_⟩, fun h3 => ⟨hin, ?_⟩⟩
            · have q1 : ¬ n / 10 = 1 := fun h9 => h3 (by rw [h9]; rfl)
              rw [if_neg q1, if_pos (show n / 10 = 2 by omega), if_pos hs] at hp
              rw [f2 _ k9]; exact hp
            · have q1 : n / 10 = 1 := (nI_eq (a := n / 10) (b := 1) (by omega) (by omega)).mp h3
              rw [if_pos q1, if_pos hs] at hp
              rw [f1 _ kc]; exact hp
      · rw [if_neg (show ¬ n / 10 = 1 by omega), if_neg (show ¬ n / 10 = 2 by omega), if_neg (show ¬ n / 10 = 3 by omega), if_neg (show ¬ n / 10 = 4 by omega), if_neg (show ¬ n / 10 = 5 by omega)] at hp
        have z : ∀ m : Nat, m ≤ 6 → nI n = nI m → post (td m) := by
          intro m hm e
          have : n = m := (nI_eq (by omega) (by omega)).mp e
          subst this
          rw [if_pos hm] at hp
          exact hp
        refine ⟨fun h9 => ?_, fun h9 => ?_, fun h9 => ?_, fun h9 => ?_, fun h9 => ?_, fun h9 => ?_, fun h9 => ?_, fun h9 => ?_⟩
        · rw [nI_toInt (by omega)] at h9
          rw [if_neg (by omega)] at hp
          exact hp
        · rw [e0]; exact z 0 (by omega) h9
        · rw [e1]; exact z 1 (by omega) h9
        · rw [e2]; exact z 2 (by omega) h9
        · rw [e3]; exact z 3 (by omega) h9
        · rw [e4]; exact z 4 (by omega) h9
        · rw [e5]; exact z 5 (by omega) h9
        · rw [e6]; exact z 6 (by omega) h9
    · rw [if_pos (show 60 ≤ n by omega)] at hp
      rw [(dm9 (n := n) (by omega) hge).2, (dm9 (n := n) (by omega) hge).1]
      intro v2 ev2 v3 ev3
      subst ev2 ev3
      refine e_hasH (by omega) (fun hs => iz ?_) (fun hs => oi ?_)
      · rw [e0] at hs
        rw [if_neg (fun h9 => hs h9.1)] at hp; exact hp
      · refine e_hasH (by omega) (fun hs2 => iz ?_) (fun hs2 => oi ?_)
        · rw [e0] at hs2
          rw [if_neg (fun h9 => hs2 h9.2)] at hp; exact hp
        · obtain ⟨k9, -⟩ := lt_cl b0 (by omega) (by omega) hs
          obtain ⟨k92, -⟩ := lt_cl b0 (by omega) (by omega) hs2
          rw [e0] at hs hs2
          rw [if_pos ⟨hs, hs2⟩] at hp
          rw [jx9, nI_clamp (by omega)]
          refine ⟨vp_in_nI (by omega) (by omega), ?_⟩
          rw [f3 _ (by omega), show 51 + ((n - 60) / 9 * 9 + (n - 60) % 9) = 51 + 9 * ((n - 60) / 9) + (n - 60) % 9 by omega]
          exact hp
  · rw [if_neg (fun h9 => h1 (Int32.lt_iff_toInt_lt.mpr (by have := r_le h9.2; omega)))] at hp; exact hp
set_option maxRecDepth 40000 in
theorem e_x_land {T : TT} {M : Nat → Nat → Int32} {a b : Int32} {post : Int32 → Prop} (h : TM T M 0) (hB : tB T) (hp : post (AN_land M a b)) : q_wx_X10_land_0 (T.2 1) (T.1 3) (T.1 4) (T.1 5) (T.1 6) (T.1 7) (T.1 8) (T.1 9) (T.2 2) (T.2 3) (T.2 4) (T.2 7) (T.2 8) (T.2 9) (T.1 10) (T.1 11) (T.1 12) (T.1 13) (T.1 14) (T.1 15) (T.1 16) (T.2 10) (T.2 11) (T.2 12) (T.2 15) (T.2 16) (T.2 17) a b post := by
  unfold AN_land at hp
  rw [TM_cnt h 0 (by decide)] at hp
  refine e_at (hB.2.2.1 0) (fun (hn : ¬ (0 ≤ a ∧ a < T.2 1 0)) => ?_) (fun ea hl => ?_) (fun ea hl => ?_)
  · rw [if_neg hn] at hp
    exact ⟨fun _ => hp, fun h9 => absurd h9 (by decide), fun h9 => absurd rfl h9⟩
  · rw [if_pos (by rw [ea]; exact ⟨by decide, hl⟩), ea] at hp
    have hR : LDR (T.1 3) (T.1 4) (T.1 5) (T.1 6) (T.1 7) (T.1 8) (T.1 9) (T.2 2) (T.2 3) (T.2 4) (T.2 5) (T.2 6) (T.2 7) (T.2 8) (T.2 9) (rowM M 0 (nI 0)) := TM_sl h 0 0 (by decide) (by decide) hl
    exact ⟨fun h9 => absurd h9 (by decide), fun h9 => absurd h9 (by decide), fun _ _ => e_lk hR (hB.2.2.2.1) (hB.2.2.2.2.1) hp⟩
  · rw [if_pos (by rw [ea]; exact ⟨by decide, hl⟩), ea] at hp
    have hR : LDR (T.1 10) (T.1 11) (T.1 12) (T.1 13) (T.1 14) (T.1 15) (T.1 16) (T.2 10) (T.2 11) (T.2 12) (T.2 13) (T.2 14) (T.2 15) (T.2 16) (T.2 17) (rowM M 0 (nI 1)) := TM_sl h 0 1 (by decide) (by decide) hl
    exact ⟨fun h9 => absurd h9 (by decide), fun _ => e_lk hR (hB.2.2.2.2.2.2.2.2.2.1) (hB.2.2.2.2.2.2.2.2.2.2.1) hp, fun _ h9 => absurd rfl h9⟩
theorem e_of {M : Nat → Nat → Int32} {k i : Nat} {x : Int32} {post : Int32 → Prop} (hk : k < 2) (hi : i < 132) (hx : x = nI i) (hp : post (rowM M 0 (nI k) i)) : q_m_of_0 (M 5) (nI k) x post := by
  have e : (132 : Int32) * nI k + x = nI (132 * k + i) := by rw [hx, show (132 : Int32) = nI 132 from rfl, pk_mul, nI_add]
  refine ⟨by rw [e]; exact vp_in_nI (by omega) (by omega), ?_⟩
  rw [e, nI_clamp (by omega)]
  unfold rowM at hp
  rw [nI_clamp (by omega)] at hp
  exact hp
theorem e_hand {M : Nat → Nat → Int32} {ld hu si a : Int32} {post : Int32 → Int32 → Int32 → Int32 → Prop} (hc : iv 0 2 (M 4 0)) (h0 : ¬ (0 ≤ a ∧ a < M 4 0) → post 0 ld hu si) (h1 : ∀ k, k < 2 → a = nI k → 0 ≤ a ∧ a < M 4 0 → post 1 (nI k) (rowM M 0 (nI k) 0) (rowM M 0 (nI k) 1)) : q_m_hand_0 (M 4) (M 5) ld hu si a post := by
  refine e_is (o := 0) (by decide) hc (fun hn => zi (h0 hn)) (fun hy => io ?_)
  obtain ⟨k, hk, ea⟩ := lt_nI (m := 2) hc hy
  have g := h1 k hk ea hy
  subst ea
  exact e_of (i := 0) hk (by omega) rfl (e_of (i := 1) hk (by omega) rfl g)
theorem row_iv {M : Nat → Nat → Int32} {k j : Nat} (hL : mLand (M 5)) (hk : k < 2) (hj : j < 132) : iv 0 (mRh j) (rowM M 0 (nI k) j) := by
  unfold rowM
  rw [nI_clamp (by omega)]
  exact hL.1 k j (by omega) hj
theorem e_isH {c : Int32} {k : Nat} {post : Int32 → Prop} (hk : k < 1000) (hc : iv 0 1000 c) (h0 : ¬ nI k < c → post 0) (h1 : nI k < c → post 1) : q_m_isHut_0 c (nI k) post :=
  sp_in (fun h => ⟨rfl, h0 (fun h9 => h ((in_lt hc).mpr ⟨nI_pos' (by omega), h9⟩))⟩) (fun a b => ⟨rfl, h1 ((in_lt hc).mp ⟨a, b⟩).2⟩)
theorem e_isS {c : Int32} {k : Nat} {post : Int32 → Prop} (hk : k < 1000) (hc : iv 0 1000 c) (h0 : ¬ nI k < c → post 0) (h1 : nI k < c → post 1) : q_m_isSinger_0 c (nI k) post :=
  sp_in (fun h => ⟨rfl, h0 (fun h9 => h ((in_lt hc).mpr ⟨nI_pos' (by omega), h9⟩))⟩) (fun a b => ⟨rfl, h1 ((in_lt hc).mp ⟨a, b⟩).2⟩)
set_option maxRecDepth 40000 in
theorem e_m_echo {M : Nat → Nat → Int32} {cd ld hu si a b c : Int32} {post : Int32 → Int32 → Int32 → Int32 → Int32 → Prop} (hcnt : iv 0 2 (M 4 0)) (hL : mLand (M 5)) (hp : ∀ x y z, post (AN_echo M a b c) 0 x y z) : q_m_echo_0 cd (M 4) (M 5) ld hu si a b c post := by
  unfold AN_echo at hp
  refine e_hand hcnt (fun hn => iz ?_) (fun k hk ea hy => oi ?_)
  · rw [if_neg hn] at hp; exact hp _ _ _
  · rw [if_pos hy, ea] at hp
    have h4 : iv 0 4 (rowM M 0 (nI k) 4) := row_iv hL hk (by omega)
    have il := in_lt (x := b) (iv_w h4 (by decide) : iv 0 1000 (rowM M 0 (nI k) 4))
    unfold Fec at hp
    refine e_of (i := 4) hk (by omega) rfl (sp_in (fun h => iz ?_) (fun h1 h2 => oi (sp_in (fun h => iz ?_) (fun h3 h5 => oi ?_))))
    · rw [if_neg (fun h9 => h (il.mpr h9.1))] at hp; exact hp _ _ _
    · rw [if_neg (fun h9 => h h9.2)] at hp; exact hp _ _ _
    · rw [if_pos ⟨il.mp ⟨h1, h2⟩, h3, h5⟩] at hp
      obtain ⟨j, hj, eb⟩ := lt_nI (m := 4) h4 (il.mp ⟨h1, h2⟩)
      obtain ⟨i, hi, ec⟩ := nI_of2 (M := 1) (n := 1) (by decide) (Int32.not_lt.mpr h3) h5
      rw [eb, ec, nI_clamp (by omega), nI_clamp (by omega)] at hp
      rw [eb, ec]
      exact e_of (i := 43 + 2 * j + i) hk (by omega) (jx2 43 2 j i) (hp _ _ _)
theorem neg10 {x : Int32} (h : x < 0) : (x / 10).toInt < 1 := by
  have hx := r_lt h
  have e0 : (0 : Int32).toInt = 0 := rfl
  have e10 : (10 : Int32).toInt = 10 := rfl
  have hb := iv_top x
  rw [Int32.toInt_div, e10]
  have e1 : x.toInt.tdiv 10 = -((-x.toInt) / 10) := by
    rw [show x.toInt = -(-x.toInt) by omega, Int.neg_tdiv, Int.tdiv_eq_ediv_of_nonneg (by omega)]
    rw [show - -(-x.toInt) = -x.toInt by omega]
  have := hb.1
  rw [e1, Int.bmod_eq_of_le (by omega) (by omega)]
  omega
set_option maxRecDepth 40000 in
theorem e_m_land {M : Nat → Nat → Int32} {cd ld hu si a w : Int32} {post : Int32 → Int32 → Int32 → Int32 → Int32 → Prop} (hcnt : iv 0 2 (M 4 0)) (hL : mLand (M 5)) (hp : ∀ x y z, post (AN_land M a w) 0 x y z) : q_m_land_0 cd (M 4) (M 5) ld hu si a w post := by
  unfold AN_land at hp
  refine e_hand hcnt (fun hn => zi ?_) (fun k hk ea hy => io ?_)
  · rw [if_neg hn] at hp; exact hp _ _ _
  · rw [if_pos hy, ea] at hp
    have h0 : iv 0 1000 (rowM M 0 (nI k) 0) := iv_w (row_iv hL hk (by omega)) (by decide)
    have h1 : iv 0 1000 (rowM M 0 (nI k) 1) := iv_w (row_iv hL hk (by omega)) (by decide)
    have b0 : iv 0 (9 : Nat) (rowM M 0 (nI k) 0) := row_iv hL hk (by omega)
    have b1 : iv 0 (6 : Nat) (rowM M 0 (nI k) 1) := row_iv hL hk (by omega)
    have e60 : (60 : Int32).toInt = 60 := rfl
    have e140 : (140 : Int32).toInt = 140 := rfl
    have e0 : (0 : Int32).toInt = 0 := rfl
    have e6 : (6 : Int32).toInt = 6 := rfl
    -- the tail of the switch: nothing of 1 .. 5
    have dflt : (∀ x y z, post (if 0 ≤ w ∧ w ≤ 6 then rowM M 0 (nI k) w.toNatClampNeg else -1) 0 x y z) → q_m_in_0 w 0 6 (fun r_3 => (r_3 = 0 → post (-1) 0 (nI k) (rowM M 0 (nI k) 0) (rowM M 0 (nI k) 1)) ∧ (¬ r_3 = 0 → q_m_of_0 (M 5) (nI k) w (fun r_4 => post r_4 0 (nI k) (rowM M 0 (nI k) 0) (rowM M 0 (nI k) 1)))) := by
      intro hq
      refine sp_in (fun h => iz ?_) (fun g1 g2 => oi ?_)
      · rw [if_neg h] at hq; exact hq _ _ _
      · rw [if_pos ⟨g1, g2⟩] at hq
        obtain ⟨i, hi, ei⟩ := nI_of2 (M := 6) (n := 6) (by decide) (Int32.not_lt.mpr g1) g2
        rw [ei, nI_clamp (by omega)] at hq
        exact e_of (i := i) hk (by omega) ei (hq _ _ _)
    refine sp_in (fun hnin => iz (fun v ev => ?_)) (fun g1 g2 => oi (fun v2 ev2 v3 ev3 => ?_))
    · by_cases hneg : w < 0
      · have hd := neg10 hneg
        have nd : ∀ m : Int32, 1 ≤ m.toInt → ¬ w / 10 = m := fun m hm h9 => by rw [h9] at hd; omega
        rw [if_neg (fun h9 => absurd hneg (Int32.not_lt.mpr h9.1))] at hp
        refine ⟨fun _ => dflt (by rw [if_neg (fun h9 => absurd hneg (Int32.not_lt.mpr h9.1))]; exact hp), fun h9 => absurd h9 (nd _ (by decide)), fun h9 => absurd h9 (nd _ (by decide)), fun h9 => absurd h9 (nd _ (by decide)), fun h9 => absurd h9 (nd _ (by decide)), fun h9 => absurd h9 (nd _ (by decide))⟩
      · obtain ⟨n, hn, rfl⟩ := nI_of hneg
        have q1 : nI n / 10 = nI (n / 10) := pk_div (d := 10) (by omega) (by omega) (by omega)
        have q2 : nI n - nI n / 10 * 10 = nI (n % 10) := pk_rem (d := 10) (by omega) (by omega) (by omega)
        rw [q2] at ev
        subst ev
        rw [q1]
        have hr : n < 60 ∨ 140 < n := by
          by_cases hh : n < 60
          · exact Or.inl hh
          · right
            refine Nat.lt_of_not_le (fun h9 => hnin ⟨Int32.le_iff_toInt_le.mpr ?_, Int32.le_iff_toInt_le.mpr ?_⟩)
            · rw [nI_toInt hn]; omega
            · rw [nI_toInt hn]; omega
        have vd : ∀ m : Nat, m < 100 → nI (n / 10) = nI m → n / 10 = m := fun m hm h9 => (nI_eq (by omega) (by omega)).mp h9
        rcases hr with hr | hr
        · rw [if_pos ⟨nI_pos' (by omega), nI_le (b := 140) (by omega) (by omega)⟩, nI_clamp hn] at hp
          unfold FL at hp
          rw [if_neg (show ¬ 60 ≤ n by omega)] at hp
          refine ⟨fun h9 => dflt ?_, fun h9 => ?_, fun h9 => ?_, fun h9 => ?_, fun h9 => ?_, fun h9 => ?_⟩
          · rw [nI_toInt (by omega)] at h9
            rw [if_neg (show ¬ n / 10 = 1 by omega), if_neg (show ¬ n / 10 = 2 by omega), if_neg (show ¬ n / 10 = 3 by omega), if_neg (show ¬ n / 10 = 4 by omega), if_neg (show ¬ n / 10 = 5 by omega)] at hp
            by_cases h6 : n ≤ 6
            · rw [if_pos ⟨nI_pos' (by omega), nI_le (b := 6) (by omega) (by omega)⟩, nI_clamp hn]
              rw [if_pos h6] at hp
              exact hp
            · rw [if_neg (fun h8 => h6 (by have := r_le h8.2; rw [nI_toInt hn] at this; omega))]
              rw [if_neg h6] at hp
              exact hp
          · have q := vd 1 (by omega) h9
            rw [if_pos q] at hp
            refine e_isH (by omega) h0 (fun hs => iz ?_) (fun hs => oi ?_)
            · rw [if_neg hs] at hp; exact hp _ _ _
            · rw [if_pos hs] at hp
              exact e_of (i := 7 + n % 10) hk (by omega) (jx 7 (n % 10)) (hp _ _ _)
          · have q := vd 2 (by omega) h9
            rw [if_neg (show ¬ n / 10 = 1 by omega), if_pos q] at hp
            refine e_isH (by omega) h0 (fun hs => iz ?_) (fun hs => oi ?_)
            · rw [if_neg hs] at hp; exact hp _ _ _
            · rw [if_pos hs] at hp
              exact e_of (i := 16 + n % 10) hk (by omega) (jx 16 (n % 10)) (hp _ _ _)
          · have q := vd 3 (by omega) h9
            rw [if_neg (show ¬ n / 10 = 1 by omega), if_neg (show ¬ n / 10 = 2 by omega), if_pos q] at hp
            refine e_isS (by omega) h1 (fun hs => iz ?_) (fun hs => oi ?_)
            · rw [if_neg hs] at hp; exact hp _ _ _
            · rw [if_pos hs] at hp
              exact e_of (i := 25 + n % 10) hk (by omega) (jx 25 (n % 10)) (hp _ _ _)
          · have q := vd 4 (by omega) h9
            rw [if_neg (show ¬ n / 10 = 1 by omega), if_neg (show ¬ n / 10 = 2 by omega), if_neg (show ¬ n / 10 = 3 by omega), if_pos q] at hp
            refine e_isS (by omega) h1 (fun hs => iz ?_) (fun hs => oi ?_)
            · rw [if_neg hs] at hp; exact hp _ _ _
            · rw [if_pos hs] at hp
              exact e_of (i := 31 + n % 10) hk (by omega) (jx 31 (n % 10)) (hp _ _ _)
          · have q := vd 5 (by omega) h9
            rw [if_neg (show ¬ n / 10 = 1 by omega), if_neg (show ¬ n / 10 = 2 by omega), if_neg (show ¬ n / 10 = 3 by omega), if_neg (show ¬ n / 10 = 4 by omega), if_pos q] at hp
            refine e_isS (by omega) h1 (fun hs => iz ?_) (fun hs => oi ?_)
            · rw [if_neg hs] at hp; exact hp _ _ _
            · rw [if_pos hs] at hp
              exact e_of (i := 37 + n % 10) hk (by omega) (jx 37 (n % 10)) (hp _ _ _)
        · have nle : ¬ (0 ≤ nI n ∧ nI n ≤ 140) := fun h8 => by have := r_le h8.2; rw [nI_toInt hn] at this; omega
          rw [if_neg nle] at hp
          have nd : ∀ m : Nat, m < 14 → ¬ nI (n / 10) = nI m := fun m hm h9 => by have := vd m (by omega) h9; omega
          refine ⟨fun _ => dflt (by rw [if_neg (fun h8 => by have := r_le h8.2; rw [nI_toInt hn] at this; omega)]; exact hp), fun h9 => absurd h9 (nd 1 (by omega)), fun h9 => absurd h9 (nd 2 (by omega)), fun h9 => absurd h9 (nd 3 (by omega)), fun h9 => absurd h9 (nd 4 (by omega)), fun h9 => absurd h9 (nd 5 (by omega))⟩
    · obtain ⟨n, hn, rfl⟩ := nI_of (x := w) (fun h9 => by have := r_lt h9; have := r_le g1; omega)
      have hge : 60 ≤ n := by have := r_le g1; rw [nI_toInt hn] at this; omega
      have hle : n ≤ 140 := by have := r_le g2; rw [nI_toInt hn] at this; omega
      rw [(dm9 (n := n) (by omega) hge).1] at ev2
      rw [(dm9 (n := n) (by omega) hge).2] at ev3
      subst ev2 ev3
      rw [if_pos ⟨nI_pos' (by omega), nI_le (b := 140) (by omega) (by omega)⟩, nI_clamp hn] at hp
      unfold FL at hp
      rw [if_pos hge] at hp
      refine e_isH (by omega) h0 (fun hs => iz ?_) (fun hs => oi (e_isH (by omega) h0 (fun hs2 => iz ?_) (fun hs2 => oi ?_)))
      · rw [if_neg (fun h9 => hs h9.1)] at hp; exact hp _ _ _
      · rw [if_neg (fun h9 => hs2 h9.2)] at hp; exact hp _ _ _
      · rw [if_pos ⟨hs, hs2⟩] at hp
        obtain ⟨k9, -⟩ := lt_cl b0 (by omega) (by omega) hs
        obtain ⟨k92, -⟩ := lt_cl b0 (by omega) (by omega) hs2
        exact e_of (i := 51 + 9 * ((n - 60) / 9) + (n - 60) % 9) hk (by omega) (ix9 _ _) (hp _ _ _)
end
