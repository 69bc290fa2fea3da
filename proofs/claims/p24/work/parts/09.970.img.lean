section
set_option maxRecDepth 1000000 in
theorem bw09_970_img_0_e : pickC [1312, 0, 0, 0, 0, 0, 0, 6, 0, 0] lw_tbl = [Cond.instanceMethod yX10_image, Cond.selects RX10 yX10_image yX10_image, Cond.code yX10_image cX10_image 2 (some .boolean), Cond.methodLink RX10 323 yX9_copyFrom, Cond.instanceMethod yX9_copyFrom, Cond.selects RX9 yX9_copyFrom yX9_copyFrom, Cond.code yX9_copyFrom cX9_copyFrom 3 none, Cond.instanceMethod yX10_again, Cond.selects RX10 yX10_again yX10_again, Cond.code yX10_again cX10_again 2 (some .boolean)] := rfl
theorem bw09_970_img_0 : ∀ (i : Nat) (w : Cond), ([Cond.instanceMethod yX10_image, Cond.selects RX10 yX10_image yX10_image, Cond.code yX10_image cX10_image 2 (some .boolean), Cond.methodLink RX10 323 yX9_copyFrom, Cond.instanceMethod yX9_copyFrom, Cond.selects RX9 yX9_copyFrom yX9_copyFrom, Cond.code yX9_copyFrom cX9_copyFrom 3 none, Cond.instanceMethod yX10_again, Cond.selects RX10 yX10_again yX10_again, Cond.code yX10_again cX10_again 2 (some .boolean)] : List Cond)[i]? = some w → w ∈ zb := fun i w e => pick_zb bw09_970_img_0_e (by decide +kernel) w (List.mem_of_getElem? e)
theorem kin_X10_image : Cond.instanceMethod yX10_image ∈ zb := bw09_970_img_0 0 _ rfl
theorem kse_X10_image : Cond.selects RX10 yX10_image yX10_image ∈ zb := bw09_970_img_0 1 _ rfl
theorem kcode_X10_image : Cond.code yX10_image cX10_image 2 (some .boolean) ∈ zb := bw09_970_img_0 2 _ rfl
theorem km_10_323 : Cond.methodLink RX10 323 yX9_copyFrom ∈ zb := bw09_970_img_0 3 _ rfl
theorem kin_X9_copyFrom : Cond.instanceMethod yX9_copyFrom ∈ zb := bw09_970_img_0 4 _ rfl
theorem kse_X9_copyFrom : Cond.selects RX9 yX9_copyFrom yX9_copyFrom ∈ zb := bw09_970_img_0 5 _ rfl
theorem kcode_X9_copyFrom : Cond.code yX9_copyFrom cX9_copyFrom 3 none ∈ zb := bw09_970_img_0 6 _ rfl
theorem kin_X10_again : Cond.instanceMethod yX10_again ∈ zb := bw09_970_img_0 7 _ rfl
theorem kse_X10_again : Cond.selects RX10 yX10_again yX10_again ∈ zb := bw09_970_img_0 8 _ rfl
theorem kcode_X10_again : Cond.code yX10_again cX10_again 2 (some .boolean) ∈ zb := bw09_970_img_0 9 _ rfl
theorem ky_X10_image : zY RX10 yX10_image (Cond.code yX10_image cX10_image 2 (some .boolean)) 1 := ⟨rfl, kinit_10, kcode_X10_image, by decide +kernel⟩
theorem kz_X10_image : Cond.instanceMethod yX10_image ∈ zb ∧ Cond.selects RX10 yX10_image yX10_image ∈ zb := ⟨kin_X10_image, kse_X10_image⟩
theorem ky_X10_again : zY RX10 yX10_again (Cond.code yX10_again cX10_again 2 (some .boolean)) 1 := ⟨rfl, kinit_10, kcode_X10_again, by decide +kernel⟩
theorem kz_X10_again : Cond.instanceMethod yX10_again ∈ zb ∧ Cond.selects RX10 yX10_again yX10_again ∈ zb := ⟨kin_X10_again, kse_X10_again⟩
theorem ky_X9_copyFrom : zY RX9 yX9_copyFrom (Cond.code yX9_copyFrom cX9_copyFrom 3 none) 1 := ⟨rfl, kinit_9, kcode_X9_copyFrom, by decide +kernel⟩
theorem kz_X9_copyFrom : Cond.instanceMethod yX9_copyFrom ∈ zb ∧ Cond.selects RX9 yX9_copyFrom yX9_copyFrom ∈ zb := ⟨kin_X9_copyFrom, kse_X9_copyFrom⟩
set_option maxRecDepth 40000 in
theorem wx_kp {E : zE} {qx : Nat} {ta_tape : Nat → Int32} {tf_length : Int32} {tf_fault : Int32} {tf_place : Int32} {ta_counts : Nat → Int32} {tl0f_huts : Int32} {tl0f_singers : Int32} {tl0f_villages : Int32} {tl0f_dams : Int32} {tl0f_echoes : Int32} {tl0f_deep : Int32} {tl0f_slide : Int32} {tl0a_heights : Nat → Int32} {tl0a_ladders : Nat → Int32} {tl0a_minutes : Nat → Int32} {tl0a_echoFrom : Nat → Int32} {tl0a_echoTo : Nat → Int32} {tl0a_homes : Nat → Int32} {tl0a_talls : Nat → Int32} {tl0a_known : Nat → Int32} {tl1f_huts : Int32} {tl1f_singers : Int32} {tl1f_villages : Int32} {tl1f_dams : Int32} {tl1f_echoes : Int32} {tl1f_deep : Int32} {tl1f_slide : Int32} {tl1a_heights : Nat → Int32} {tl1a_ladders : Nat → Int32} {tl1a_minutes : Nat → Int32} {tl1a_echoFrom : Nat → Int32} {tl1a_echoTo : Nat → Int32} {tl1a_homes : Nat → Int32} {tl1a_talls : Nat → Int32} {tl1a_known : Nat → Int32} {tv0f_deeds : Int32} {tv0a_kinds : Nat → Int32} {tv0a_firsts : Nat → Int32} {tv0a_seconds : Nat → Int32} {tv1f_deeds : Int32} {tv1a_kinds : Nat → Int32} {tv1a_firsts : Nat → Int32} {tv1a_seconds : Nat → Int32} {ts0f_facts : Int32} {ts0a_heard : Nat → Int32} {ts0a_huts : Nat → Int32} {ts0a_minutes : Nat → Int32} {ts1f_facts : Int32} {ts1a_heard : Nat → Int32} {ts1a_huts : Nat → Int32} {ts1a_minutes : Nat → Int32} {tc0f_voices : Int32} {tc0f_step : Int32} {tc0a_parts : Nat → Int32} {tc0a_heights : Nat → Int32} {tc1f_voices : Int32} {tc1f_step : Int32} {tc1a_parts : Nat → Int32} {tc1a_heights : Nat → Int32} {m_images : Nat → Option Nat} {rlf_huts : Int32} {rlf_singers : Int32} {rlf_villages : Int32} {rlf_dams : Int32} {rlf_echoes : Int32} {rlf_deep : Int32} {rlf_slide : Int32} {rla_heights : Nat → Int32} {rla_ladders : Nat → Int32} {rla_minutes : Nat → Int32} {rla_echoFrom : Nat → Int32} {rla_echoTo : Nat → Int32} {rla_homes : Nat → Int32} {rla_talls : Nat → Int32} {rla_known : Nat → Int32} {rvf_deeds : Int32} {rva_kinds : Nat → Int32} {rva_firsts : Nat → Int32} {rva_seconds : Nat → Int32} {rsf_facts : Int32} {rsa_heard : Nat → Int32} {rsa_huts : Nat → Int32} {rsa_minutes : Nat → Int32} {rcf_voices : Int32} {rcf_step : Int32} {rca_parts : Nat → Int32} {rca_heights : Nat → Int32} {rf_fault : Int32} {rf_faultPlace : Int32} {ra_numbers : Nat → Int32} {ra_tape : Nat → Int32} {rf_length : Int32} {rf_behind : Int32} {rf_kind : Int32} {rf_first : Int32} {rf_value : Int32} {rf_hutsToldOf : Int32} {rf_singersToldOf : Int32} {nf_minute : Int32} {nf_avalanches : Int32} {nf_begun : Int32} {nf_climbed : Int32} {nf_seed : Int32} {na_huts : Nat → Int32} {na_known : Nat → Int32} {na_levels : Nat → Int32} {na_snow : Nat → Int32} {na_open : Nat → Int32} {pa_heard : Nat → Int32} {pa_walked : Nat → Int32} {pa_total : Nat → Int32} {pa_longest : Nat → Int32} {pa_next : Nat → Int32} {pa_cover : Nat → Int32} {pa_now : Nat → Int32} {pa_then : Nat → Int32} {ko_stands : Option Nat} {ka_gaps : Nat → Int32} {ka_behind : Nat → Int32} {ba_less : Nat → Int32} {ba_full : Nat → Int32} {H H1 : Heap} (h : wxW E qx ta_tape tf_length tf_fault tf_place ta_counts tl0f_huts tl0f_singers tl0f_villages tl0f_dams tl0f_echoes tl0f_deep tl0f_slide tl0a_heights tl0a_ladders tl0a_minutes tl0a_echoFrom tl0a_echoTo tl0a_homes tl0a_talls tl0a_known tl1f_huts tl1f_singers tl1f_villages tl1f_dams tl1f_echoes tl1f_deep tl1f_slide tl1a_heights tl1a_ladders tl1a_minutes tl1a_echoFrom tl1a_echoTo tl1a_homes tl1a_talls tl1a_known tv0f_deeds tv0a_kinds tv0a_firsts tv0a_seconds tv1f_deeds tv1a_kinds tv1a_firsts tv1a_seconds ts0f_facts ts0a_heard ts0a_huts ts0a_minutes ts1f_facts ts1a_heard ts1a_huts ts1a_minutes tc0f_voices tc0f_step tc0a_parts tc0a_heights tc1f_voices tc1f_step tc1a_parts tc1a_heights m_images rlf_huts rlf_singers rlf_villages rlf_dams rlf_echoes rlf_deep rlf_slide rla_heights rla_ladders rla_minutes rla_echoFrom rla_echoTo rla_homes rla_talls rla_known rvf_deeds rva_kinds rva_firsts rva_seconds rsf_facts rsa_heard rsa_huts rsa_minutes rcf_voices rcf_step rca_parts rca_heights rf_fault rf_faultPlace ra_numbers ra_tape rf_length rf_behind rf_kind rf_first rf_value rf_hutsToldOf rf_singersToldOf nf_minute nf_avalanches nf_begun nf_climbed nf_seed na_huts na_known na_levels na_snow na_open pa_heard pa_walked pa_total pa_longest pa_next pa_cover pa_now pa_then ko_stands ka_gaps ka_behind ba_less ba_full H) (hk : ∀ z : Nat, z < H.size → qx ≤ z → z < qx + 93 → H1[z]? = H[z]?) : wxW E qx ta_tape tf_length tf_fault tf_place ta_counts tl0f_huts tl0f_singers tl0f_villages tl0f_dams tl0f_echoes tl0f_deep tl0f_slide tl0a_heights tl0a_ladders tl0a_minutes tl0a_echoFrom tl0a_echoTo tl0a_homes tl0a_talls tl0a_known tl1f_huts tl1f_singers tl1f_villages tl1f_dams tl1f_echoes tl1f_deep tl1f_slide tl1a_heights tl1a_ladders tl1a_minutes tl1a_echoFrom tl1a_echoTo tl1a_homes tl1a_talls tl1a_known tv0f_deeds tv0a_kinds tv0a_firsts tv0a_seconds tv1f_deeds tv1a_kinds tv1a_firsts tv1a_seconds ts0f_facts ts0a_heard ts0a_huts ts0a_minutes ts1f_facts ts1a_heard ts1a_huts ts1a_minutes tc0f_voices tc0f_step tc0a_parts tc0a_heights tc1f_voices tc1f_step tc1a_parts tc1a_heights m_images rlf_huts rlf_singers rlf_villages rlf_dams rlf_echoes rlf_deep rlf_slide rla_heights rla_ladders rla_minutes rla_echoFrom rla_echoTo rla_homes rla_talls rla_known rvf_deeds rva_kinds rva_firsts rva_seconds rsf_facts rsa_heard rsa_huts rsa_minutes rcf_voices rcf_step rca_parts rca_heights rf_fault rf_faultPlace ra_numbers ra_tape rf_length rf_behind rf_kind rf_first rf_value rf_hutsToldOf rf_singersToldOf nf_minute nf_avalanches nf_begun nf_climbed nf_seed na_huts na_known na_levels na_snow na_open pa_heard pa_walked pa_total pa_longest pa_next pa_cover pa_now pa_then ko_stands ka_gaps ka_behind ba_less ba_full H1 := zkp h (zRg_of (by rfl)) hk
set_option maxRecDepth 40000 in
theorem m_kp {E : zE} {q : Nat} {f_code : Int32} {a_tape : Nat → Int32} {a_size : Nat → Int32} {a_fault : Nat → Int32} {a_faultPlace : Nat → Int32} {a_many : Nat → Int32} {a_lands : Nat → Int32} {a_evenings : Nat → Int32} {a_sights : Nat → Int32} {a_choirs : Nat → Int32} {f_reached : Int32} {f_length : Int32} {f_begins : Int32} {f_sort : Int32} {f_value : Int32} {f_word : Int64} {f_wrongAt : Int32} {f_laterFault : Int32} {f_laterPlace : Int32} {a_told : Nat → Int32} {a_read : Nat → Int32} {f_farHut : Int32} {f_farSinger : Int32} {f_good : Int32} {f_land : Int32} {f_huts : Int32} {f_singers : Int32} {f_evening : Int32} {a_at : Nat → Int32} {a_knows : Nat → Int32} {a_climbed : Nat → Int32} {a_snow : Nat → Int32} {a_level : Nat → Int32} {f_begun : Int32} {f_minute : Int32} {f_avalanches : Int32} {a_run : Nat → Int32} {a_covers : Nat → Int32} {a_routes : Nat → Int32} {a_longest : Nat → Int32} {a_steep : Nat → Int32} {a_laid : Nat → Int32} {a_far : Nat → Int32} {f_sight : Int32} {a_runs : Nat → Int32} {f_choir : Int32} {f_voices : Int32} {a_rest : Nat → Int64} {a_wins : Nat → Int32} {f_seed : Int32} {a_other : Nat → Int32} {a_kept : Nat → Int32} {H H1 : Heap} (h : mW E q f_code a_tape a_size a_fault a_faultPlace a_many a_lands a_evenings a_sights a_choirs f_reached f_length f_begins f_sort f_value f_word f_wrongAt f_laterFault f_laterPlace a_told a_read f_farHut f_farSinger f_good f_land f_huts f_singers f_evening a_at a_knows a_climbed a_snow a_level f_begun f_minute f_avalanches a_run a_covers a_routes a_longest a_steep a_laid a_far f_sight a_runs f_choir f_voices a_rest a_wins f_seed a_other a_kept H) (hk : ∀ z : Nat, z < H.size → q ≤ z → z < q + 29 → H1[z]? = H[z]?) : mW E q f_code a_tape a_size a_fault a_faultPlace a_many a_lands a_evenings a_sights a_choirs f_reached f_length f_begins f_sort f_value f_word f_wrongAt f_laterFault f_laterPlace a_told a_read f_farHut f_farSinger f_good f_land f_huts f_singers f_evening a_at a_knows a_climbed a_snow a_level f_begun f_minute f_avalanches a_run a_covers a_routes a_longest a_steep a_laid a_far f_sight a_runs f_choir f_voices a_rest a_wins f_seed a_other a_kept H1 := zkp h (zRg_of (by rfl)) hk
set_option maxRecDepth 40000 in
theorem wt_kp {E : zE} {qt : Nat} {a_tape : Nat → Int32} {f_length : Int32} {f_fault : Int32} {f_place : Int32} {a_counts : Nat → Int32} {l0f_huts : Int32} {l0f_singers : Int32} {l0f_villages : Int32} {l0f_dams : Int32} {l0f_echoes : Int32} {l0f_deep : Int32} {l0f_slide : Int32} {l0a_heights : Nat → Int32} {l0a_ladders : Nat → Int32} {l0a_minutes : Nat → Int32} {l0a_echoFrom : Nat → Int32} {l0a_echoTo : Nat → Int32} {l0a_homes : Nat → Int32} {l0a_talls : Nat → Int32} {l0a_known : Nat → Int32} {l1f_huts : Int32} {l1f_singers : Int32} {l1f_villages : Int32} {l1f_dams : Int32} {l1f_echoes : Int32} {l1f_deep : Int32} {l1f_slide : Int32} {l1a_heights : Nat → Int32} {l1a_ladders : Nat → Int32} {l1a_minutes : Nat → Int32} {l1a_echoFrom : Nat → Int32} {l1a_echoTo : Nat → Int32} {l1a_homes : Nat → Int32} {l1a_talls : Nat → Int32} {l1a_known : Nat → Int32} {v0f_deeds : Int32} {v0a_kinds : Nat → Int32} {v0a_firsts : Nat → Int32} {v0a_seconds : Nat → Int32} {v1f_deeds : Int32} {v1a_kinds : Nat → Int32} {v1a_firsts : Nat → Int32} {v1a_seconds : Nat → Int32} {s0f_facts : Int32} {s0a_heard : Nat → Int32} {s0a_huts : Nat → Int32} {s0a_minutes : Nat → Int32} {s1f_facts : Int32} {s1a_heard : Nat → Int32} {s1a_huts : Nat → Int32} {s1a_minutes : Nat → Int32} {c0f_voices : Int32} {c0f_step : Int32} {c0a_parts : Nat → Int32} {c0a_heights : Nat → Int32} {c1f_voices : Int32} {c1f_step : Int32} {c1a_parts : Nat → Int32} {c1a_heights : Nat → Int32} {H H1 : Heap} (h : wtW E qt a_tape f_length f_fault f_place a_counts l0f_huts l0f_singers l0f_villages l0f_dams l0f_echoes l0f_deep l0f_slide l0a_heights l0a_ladders l0a_minutes l0a_echoFrom l0a_echoTo l0a_homes l0a_talls l0a_known l1f_huts l1f_singers l1f_villages l1f_dams l1f_echoes l1f_deep l1f_slide l1a_heights l1a_ladders l1a_minutes l1a_echoFrom l1a_echoTo l1a_homes l1a_talls l1a_known v0f_deeds v0a_kinds v0a_firsts v0a_seconds v1f_deeds v1a_kinds v1a_firsts v1a_seconds s0f_facts s0a_heard s0a_huts s0a_minutes s1f_facts s1a_heard s1a_huts s1a_minutes c0f_voices c0f_step c0a_parts c0a_heights c1f_voices c1f_step c1a_parts c1a_heights H) (hk : ∀ z : Nat, z < H.size → qt ≤ z → z < qt + 47 → H1[z]? = H[z]?) : wtW E qt a_tape f_length f_fault f_place a_counts l0f_huts l0f_singers l0f_villages l0f_dams l0f_echoes l0f_deep l0f_slide l0a_heights l0a_ladders l0a_minutes l0a_echoFrom l0a_echoTo l0a_homes l0a_talls l0a_known l1f_huts l1f_singers l1f_villages l1f_dams l1f_echoes l1f_deep l1f_slide l1a_heights l1a_ladders l1a_minutes l1a_echoFrom l1a_echoTo l1a_homes l1a_talls l1a_known v0f_deeds v0a_kinds v0a_firsts v0a_seconds v1f_deeds v1a_kinds v1a_firsts v1a_seconds s0f_facts s0a_heard s0a_huts s0a_minutes s1f_facts s1a_heard s1a_huts s1a_minutes c0f_voices c0f_step c0a_parts c0a_heights c1f_voices c1f_step c1a_parts c1a_heights H1 := zkp h (zRg_of (by rfl)) hk
def tG (a_tape : Nat → Int32) (f_length : Int32) (f_fault : Int32) (f_place : Int32) (a_counts : Nat → Int32) (l0f_huts : Int32) (l0f_singers : Int32) (l0f_villages : Int32) (l0f_dams : Int32) (l0f_echoes : Int32) (l0f_deep : Int32) (l0f_slide : Int32) (l0a_heights : Nat → Int32) (l0a_ladders : Nat → Int32) (l0a_minutes : Nat → Int32) (l0a_echoFrom : Nat → Int32) (l0a_echoTo : Nat → Int32) (l0a_homes : Nat → Int32) (l0a_talls : Nat → Int32) (l0a_known : Nat → Int32) (l1f_huts : Int32) (l1f_singers : Int32) (l1f_villages : Int32) (l1f_dams : Int32) (l1f_echoes : Int32) (l1f_deep : Int32) (l1f_slide : Int32) (l1a_heights : Nat → Int32) (l1a_ladders : Nat → Int32) (l1a_minutes : Nat → Int32) (l1a_echoFrom : Nat → Int32) (l1a_echoTo : Nat → Int32) (l1a_homes : Nat → Int32) (l1a_talls : Nat → Int32) (l1a_known : Nat → Int32) (v0f_deeds : Int32) (v0a_kinds : Nat → Int32) (v0a_firsts : Nat → Int32) (v0a_seconds : Nat → Int32) (v1f_deeds : Int32) (v1a_kinds : Nat → Int32) (v1a_firsts : Nat → Int32) (v1a_seconds : Nat → Int32) (s0f_facts : Int32) (s0a_heard : Nat → Int32) (s0a_huts : Nat → Int32) (s0a_minutes : Nat → Int32) (s1f_facts : Int32) (s1a_heard : Nat → Int32) (s1a_huts : Nat → Int32) (s1a_minutes : Nat → Int32) (c0f_voices : Int32) (c0f_step : Int32) (c0a_parts : Nat → Int32) (c0a_heights : Nat → Int32) (c1f_voices : Int32) (c1f_step : Int32) (c1a_parts : Nat → Int32) (c1a_heights : Nat → Int32) : Prop := (∀ j, iv (-128) 127 (a_tape j)) ∧ (iv 0 600 f_length) ∧ (iv 0 4 f_fault) ∧ (iv (-1) 600 f_place) ∧ (∀ j, iv 0 2 (a_counts j)) ∧ (iv 0 9 l0f_huts) ∧ (iv 0 6 l0f_singers) ∧ (iv 0 511 l0f_villages) ∧ (iv 0 511 l0f_dams) ∧ (iv 0 4 l0f_echoes) ∧ (iv 1 9 l0f_deep) ∧ (iv 0 10 l0f_slide) ∧ (∀ j, iv 0 99 (l0a_heights j)) ∧ (∀ j, iv 0 9 (l0a_ladders j)) ∧ (∀ j, iv 0 9 (l0a_minutes j)) ∧ (∀ j, iv 0 8 (l0a_echoFrom j)) ∧ (∀ j, iv 0 8 (l0a_echoTo j)) ∧ (∀ j, iv 0 8 (l0a_homes j)) ∧ (∀ j, iv 0 9 (l0a_talls j)) ∧ (∀ j, iv 0 31 (l0a_known j)) ∧ (iv 0 9 l1f_huts) ∧ (iv 0 6 l1f_singers) ∧ (iv 0 511 l1f_villages) ∧ (iv 0 511 l1f_dams) ∧ (iv 0 4 l1f_echoes) ∧ (iv 1 9 l1f_deep) ∧ (iv 0 10 l1f_slide) ∧ (∀ j, iv 0 99 (l1a_heights j)) ∧ (∀ j, iv 0 9 (l1a_ladders j)) ∧ (∀ j, iv 0 9 (l1a_minutes j)) ∧ (∀ j, iv 0 8 (l1a_echoFrom j)) ∧ (∀ j, iv 0 8 (l1a_echoTo j)) ∧ (∀ j, iv 0 8 (l1a_homes j)) ∧ (∀ j, iv 0 9 (l1a_talls j)) ∧ (∀ j, iv 0 31 (l1a_known j)) ∧ (iv 0 40 v0f_deeds) ∧ (∀ j, iv 0 5 (v0a_kinds j)) ∧ (∀ j, iv 0 5 (v0a_firsts j)) ∧ (∀ j, iv (-1) 8 (v0a_seconds j)) ∧ (iv 0 40 v1f_deeds) ∧ (∀ j, iv 0 5 (v1a_kinds j)) ∧ (∀ j, iv 0 5 (v1a_firsts j)) ∧ (∀ j, iv (-1) 8 (v1a_seconds j)) ∧ (iv 0 10 s0f_facts) ∧ (∀ j, iv 0 1 (s0a_heard j)) ∧ (∀ j, iv 0 8 (s0a_huts j)) ∧ (∀ j, iv 0 60 (s0a_minutes j)) ∧ (iv 0 10 s1f_facts) ∧ (∀ j, iv 0 1 (s1a_heard j)) ∧ (∀ j, iv 0 8 (s1a_huts j)) ∧ (∀ j, iv 0 60 (s1a_minutes j)) ∧ (iv 0 9 c0f_voices) ∧ (iv 0 9 c0f_step) ∧ (∀ j, iv 0 3 (c0a_parts j)) ∧ (∀ j, iv 0 9 (c0a_heights j)) ∧ (iv 0 9 c1f_voices) ∧ (iv 0 9 c1f_step) ∧ (∀ j, iv 0 3 (c1a_parts j)) ∧ (∀ j, iv 0 9 (c1a_heights j))
theorem tG_copy {a_tape : Nat → Int32} {f_length : Int32} {f_fault : Int32} {f_place : Int32} {a_counts : Nat → Int32} {l0f_huts : Int32} {l0f_singers : Int32} {l0f_villages : Int32} {l0f_dams : Int32} {l0f_echoes : Int32} {l0f_deep : Int32} {l0f_slide : Int32} {l0a_heights : Nat → Int32} {l0a_ladders : Nat → Int32} {l0a_minutes : Nat → Int32} {l0a_echoFrom : Nat → Int32} {l0a_echoTo : Nat → Int32} {l0a_homes : Nat → Int32} {l0a_talls : Nat → Int32} {l0a_known : Nat → Int32} {l1f_huts : Int32} {l1f_singers : Int32} {l1f_villages : Int32} {l1f_dams : Int32} {l1f_echoes : Int32} {l1f_deep : Int32} {l1f_slide : Int32} {l1a_heights : Nat → Int32} {l1a_ladders : Nat → Int32} {l1a_minutes : Nat → Int32} {l1a_echoFrom : Nat → Int32} {l1a_echoTo : Nat → Int32} {l1a_homes : Nat → Int32} {l1a_talls : Nat → Int32} {l1a_known : Nat → Int32} {v0f_deeds : Int32} {v0a_kinds : Nat → Int32} {v0a_firsts : Nat → Int32} {v0a_seconds : Nat → Int32} {v1f_deeds : Int32} {v1a_kinds : Nat → Int32} {v1a_firsts : Nat → Int32} {v1a_seconds : Nat → Int32} {s0f_facts : Int32} {s0a_heard : Nat → Int32} {s0a_huts : Nat → Int32} {s0a_minutes : Nat → Int32} {s1f_facts : Int32} {s1a_heard : Nat → Int32} {s1a_huts : Nat → Int32} {s1a_minutes : Nat → Int32} {c0f_voices : Int32} {c0f_step : Int32} {c0a_parts : Nat → Int32} {c0a_heights : Nat → Int32} {c1f_voices : Int32} {c1f_step : Int32} {c1a_parts : Nat → Int32} {c1a_heights : Nat → Int32} {oa_tape : Nat → Int32} {of_length : Int32} {of_fault : Int32} {of_place : Int32} {oa_counts : Nat → Int32} {ol0f_huts : Int32} {ol0f_singers : Int32} {ol0f_villages : Int32} {ol0f_dams : Int32} {ol0f_echoes : Int32} {ol0f_deep : Int32} {ol0f_slide : Int32} {ol0a_heights : Nat → Int32} {ol0a_ladders : Nat → Int32} {ol0a_minutes : Nat → Int32} {ol0a_echoFrom : Nat → Int32} {ol0a_echoTo : Nat → Int32} {ol0a_homes : Nat → Int32} {ol0a_talls : Nat → Int32} {ol0a_known : Nat → Int32} {ol1f_huts : Int32} {ol1f_singers : Int32} {ol1f_villages : Int32} {ol1f_dams : Int32} {ol1f_echoes : Int32} {ol1f_deep : Int32} {ol1f_slide : Int32} {ol1a_heights : Nat → Int32} {ol1a_ladders : Nat → Int32} {ol1a_minutes : Nat → Int32} {ol1a_echoFrom : Nat → Int32} {ol1a_echoTo : Nat → Int32} {ol1a_homes : Nat → Int32} {ol1a_talls : Nat → Int32} {ol1a_known : Nat → Int32} {ov0f_deeds : Int32} {ov0a_kinds : Nat → Int32} {ov0a_firsts : Nat → Int32} {ov0a_seconds : Nat → Int32} {ov1f_deeds : Int32} {ov1a_kinds : Nat → Int32} {ov1a_firsts : Nat → Int32} {ov1a_seconds : Nat → Int32} {os0f_facts : Int32} {os0a_heard : Nat → Int32} {os0a_huts : Nat → Int32} {os0a_minutes : Nat → Int32} {os1f_facts : Int32} {os1a_heard : Nat → Int32} {os1a_huts : Nat → Int32} {os1a_minutes : Nat → Int32} {oc0f_voices : Int32} {oc0f_step : Int32} {oc0a_parts : Nat → Int32} {oc0a_heights : Nat → Int32} {oc1f_voices : Int32} {oc1f_step : Int32} {oc1a_parts : Nat → Int32} {oc1a_heights : Nat → Int32} {post : (Nat → Int32) → (Int32) → (Int32) → (Int32) → (Nat → Int32) → (Int32) → (Int32) → (Int32) → (Int32) → (Int32) → (Int32) → (Int32) → (Nat → Int32) → (Nat → Int32) → (Nat → Int32) → (Nat → Int32) → (Nat → Int32) → (Nat → Int32) → (Nat → Int32) → (Nat → Int32) → (Int32) → (Int32) → (Int32) → (Int32) → (Int32) → (Int32) → (Int32) → (Nat → Int32) → (Nat → Int32) → (Nat → Int32) → (Nat → Int32) → (Nat → Int32) → (Nat → Int32) → (Nat → Int32) → (Nat → Int32) → (Int32) → (Nat → Int32) → (Nat → Int32) → (Nat → Int32) → (Int32) → (Nat → Int32) → (Nat → Int32) → (Nat → Int32) → (Int32) → (Nat → Int32) → (Nat → Int32) → (Nat → Int32) → (Int32) → (Nat → Int32) → (Nat → Int32) → (Nat → Int32) → (Int32) → (Int32) → (Nat → Int32) → (Nat → Int32) → (Int32) → (Int32) → (Nat → Int32) → (Nat → Int32) → Prop} (hT : tG a_tape f_length f_fault f_place a_counts l0f_huts l0f_singers l0f_villages l0f_dams l0f_echoes l0f_deep l0f_slide l0a_heights l0a_ladders l0a_minutes l0a_echoFrom l0a_echoTo l0a_homes l0a_talls l0a_known l1f_huts l1f_singers l1f_villages l1f_dams l1f_echoes l1f_deep l1f_slide l1a_heights l1a_ladders l1a_minutes l1a_echoFrom l1a_echoTo l1a_homes l1a_talls l1a_known v0f_deeds v0a_kinds v0a_firsts v0a_seconds v1f_deeds v1a_kinds v1a_firsts v1a_seconds s0f_facts s0a_heard s0a_huts s0a_minutes s1f_facts s1a_heard s1a_huts s1a_minutes c0f_voices c0f_step c0a_parts c0a_heights c1f_voices c1f_step c1a_parts c1a_heights) (hO : tG oa_tape of_length of_fault of_place oa_counts ol0f_huts ol0f_singers ol0f_villages ol0f_dams ol0f_echoes ol0f_deep ol0f_slide ol0a_heights ol0a_ladders ol0a_minutes ol0a_echoFrom ol0a_echoTo ol0a_homes ol0a_talls ol0a_known ol1f_huts ol1f_singers ol1f_villages ol1f_dams ol1f_echoes ol1f_deep ol1f_slide ol1a_heights ol1a_ladders ol1a_minutes ol1a_echoFrom ol1a_echoTo ol1a_homes ol1a_talls ol1a_known ov0f_deeds ov0a_kinds ov0a_firsts ov0a_seconds ov1f_deeds ov1a_kinds ov1a_firsts ov1a_seconds os0f_facts os0a_heard os0a_huts os0a_minutes os1f_facts os1a_heard os1a_huts os1a_minutes oc0f_voices oc0f_step oc0a_parts oc0a_heights oc1f_voices oc1f_step oc1a_parts oc1a_heights) (hpost : ∀ (na_tape : Nat → Int32) (nf_length : Int32) (nf_fault : Int32) (nf_place : Int32) (na_counts : Nat → Int32) (nl0f_huts : Int32) (nl0f_singers : Int32) (nl0f_villages : Int32) (nl0f_dams : Int32) (nl0f_echoes : Int32) (nl0f_deep : Int32) (nl0f_slide : Int32) (nl0a_heights : Nat → Int32) (nl0a_ladders : Nat → Int32) (nl0a_minutes : Nat → Int32) (nl0a_echoFrom : Nat → Int32) (nl0a_echoTo : Nat → Int32) (nl0a_homes : Nat → Int32) (nl0a_talls : Nat → Int32) (nl0a_known : Nat → Int32) (nl1f_huts : Int32) (nl1f_singers : Int32) (nl1f_villages : Int32) (nl1f_dams : Int32) (nl1f_echoes : Int32) (nl1f_deep : Int32) (nl1f_slide : Int32) (nl1a_heights : Nat → Int32) (nl1a_ladders : Nat → Int32) (nl1a_minutes : Nat → Int32) (nl1a_echoFrom : Nat → Int32) (nl1a_echoTo : Nat → Int32) (nl1a_homes : Nat → Int32) (nl1a_talls : Nat → Int32) (nl1a_known : Nat → Int32) (nv0f_deeds : Int32) (nv0a_kinds : Nat → Int32) (nv0a_firsts : Nat → Int32) (nv0a_seconds : Nat → Int32) (nv1f_deeds : Int32) (nv1a_kinds : Nat → Int32) (nv1a_firsts : Nat → Int32) (nv1a_seconds : Nat → Int32) (ns0f_facts : Int32) (ns0a_heard : Nat → Int32) (ns0a_huts : Nat → Int32) (ns0a_minutes : Nat → Int32) (ns1f_facts : Int32) (ns1a_heard : Nat → Int32) (ns1a_huts : Nat → Int32) (ns1a_minutes : Nat → Int32) (nc0f_voices : Int32) (nc0f_step : Int32) (nc0a_parts : Nat → Int32) (nc0a_heights : Nat → Int32) (nc1f_voices : Int32) (nc1f_step : Int32) (nc1a_parts : Nat → Int32) (nc1a_heights : Nat → Int32), tG na_tape nf_length nf_fault nf_place na_counts nl0f_huts nl0f_singers nl0f_villages nl0f_dams nl0f_echoes nl0f_deep nl0f_slide nl0a_heights nl0a_ladders nl0a_minutes nl0a_echoFrom nl0a_echoTo nl0a_homes nl0a_talls nl0a_known nl1f_huts nl1f_singers nl1f_villages nl1f_dams nl1f_echoes nl1f_deep nl1f_slide nl1a_heights nl1a_ladders nl1a_minutes nl1a_echoFrom nl1a_echoTo nl1a_homes nl1a_talls nl1a_known nv0f_deeds nv0a_kinds nv0a_firsts nv0a_seconds nv1f_deeds nv1a_kinds nv1a_firsts nv1a_seconds ns0f_facts ns0a_heard ns0a_huts ns0a_minutes ns1f_facts ns1a_heard ns1a_huts ns1a_minutes nc0f_voices nc0f_step nc0a_parts nc0a_heights nc1f_voices nc1f_step nc1a_parts nc1a_heights → post na_tape nf_length nf_fault nf_place na_counts nl0f_huts nl0f_singers nl0f_villages nl0f_dams nl0f_echoes nl0f_deep nl0f_slide nl0a_heights nl0a_ladders nl0a_minutes nl0a_echoFrom nl0a_echoTo nl0a_homes nl0a_talls nl0a_known nl1f_huts nl1f_singers nl1f_villages nl1f_dams nl1f_echoes nl1f_deep nl1f_slide nl1a_heights nl1a_ladders nl1a_minutes nl1a_echoFrom nl1a_echoTo nl1a_homes nl1a_talls nl1a_known nv0f_deeds nv0a_kinds nv0a_firsts nv0a_seconds nv1f_deeds nv1a_kinds nv1a_firsts nv1a_seconds ns0f_facts ns0a_heard ns0a_huts ns0a_minutes ns1f_facts ns1a_heard ns1a_huts ns1a_minutes nc0f_voices nc0f_step nc0a_parts nc0a_heights nc1f_voices nc1f_step nc1a_parts nc1a_heights) : q_wtt_X9_copyFrom_47_0 a_tape f_length f_fault f_place a_counts l0f_huts l0f_singers l0f_villages l0f_dams l0f_echoes l0f_deep l0f_slide l0a_heights l0a_ladders l0a_minutes l0a_echoFrom l0a_echoTo l0a_homes l0a_talls l0a_known l1f_huts l1f_singers l1f_villages l1f_dams l1f_echoes l1f_deep l1f_slide l1a_heights l1a_ladders l1a_minutes l1a_echoFrom l1a_echoTo l1a_homes l1a_talls l1a_known v0f_deeds v0a_kinds v0a_firsts v0a_seconds v1f_deeds v1a_kinds v1a_firsts v1a_seconds s0f_facts s0a_heard s0a_huts s0a_minutes s1f_facts s1a_heard s1a_huts s1a_minutes c0f_voices c0f_step c0a_parts c0a_heights c1f_voices c1f_step c1a_parts c1a_heights oa_tape of_length of_fault of_place oa_counts ol0f_huts ol0f_singers ol0f_villages ol0f_dams ol0f_echoes ol0f_deep ol0f_slide ol0a_heights ol0a_ladders ol0a_minutes ol0a_echoFrom ol0a_echoTo ol0a_homes ol0a_talls ol0a_known ol1f_huts ol1f_singers ol1f_villages ol1f_dams ol1f_echoes ol1f_deep ol1f_slide ol1a_heights ol1a_ladders ol1a_minutes ol1a_echoFrom ol1a_echoTo ol1a_homes ol1a_talls ol1a_known ov0f_deeds ov0a_kinds ov0a_firsts ov0a_seconds ov1f_deeds ov1a_kinds ov1a_firsts ov1a_seconds os0f_facts os0a_heard os0a_huts os0a_minutes os1f_facts os1a_heard os1a_huts os1a_minutes oc0f_voices oc0f_step oc0a_parts oc0a_heights oc1f_voices oc1f_step oc1a_parts oc1a_heights post := by
  obtain ⟨t_a_tape, t_f_length, t_f_fault, t_f_place, t_a_counts, t_l0f_huts, t_l0f_singers, t_l0f_villages, t_l0f_dams, t_l0f_echoes, t_l0f_deep, t_l0f_slide, t_l0a_heights, t_l0a_ladders, t_l0a_minutes, t_l0a_echoFrom, t_l0a_echoTo, t_l0a_homes, t_l0a_talls, t_l0a_known, t_l1f_huts, t_l1f_singers, t_l1f_villages, t_l1f_dams, t_l1f_echoes, t_l1f_deep, t_l1f_slide, t_l1a_heights, t_l1a_ladders, t_l1a_minutes, t_l1a_echoFrom, t_l1a_echoTo, t_l1a_homes, t_l1a_talls, t_l1a_known, t_v0f_deeds, t_v0a_kinds, t_v0a_firsts, t_v0a_seconds, t_v1f_deeds, t_v1a_kinds, t_v1a_firsts, t_v1a_seconds, t_s0f_facts, t_s0a_heard, t_s0a_huts, t_s0a_minutes, t_s1f_facts, t_s1a_heard, t_s1a_huts, t_s1a_minutes, t_c0f_voices, t_c0f_step, t_c0a_parts, t_c0a_heights, t_c1f_voices, t_c1f_step, t_c1a_parts, t_c1a_heights⟩ := hT
  obtain ⟨o_a_tape, o_f_length, o_f_fault, o_f_place, o_a_counts, o_l0f_huts, o_l0f_singers, o_l0f_villages, o_l0f_dams, o_l0f_echoes, o_l0f_deep, o_l0f_slide, o_l0a_heights, o_l0a_ladders, o_l0a_minutes, o_l0a_echoFrom, o_l0a_echoTo, o_l0a_homes, o_l0a_talls, o_l0a_known, o_l1f_huts, o_l1f_singers, o_l1f_villages, o_l1f_dams, o_l1f_echoes, o_l1f_deep, o_l1f_slide, o_l1a_heights, o_l1a_ladders, o_l1a_minutes, o_l1a_echoFrom, o_l1a_echoTo, o_l1a_homes, o_l1a_talls, o_l1a_known, o_v0f_deeds, o_v0a_kinds, o_v0a_firsts, o_v0a_seconds, o_v1f_deeds, o_v1a_kinds, o_v1a_firsts, o_v1a_seconds, o_s0f_facts, o_s0a_heard, o_s0a_huts, o_s0a_minutes, o_s1f_facts, o_s1a_heard, o_s1a_huts, o_s1a_minutes, o_c0f_voices, o_c0f_step, o_c0a_parts, o_c0a_heights, o_c1f_voices, o_c1f_step, o_c1a_parts, o_c1a_heights⟩ := hO
  exact s_wtt_X9_copyFrom_47_0 t_a_tape t_f_length t_f_fault t_f_place t_a_counts t_l0f_huts t_l0f_singers t_l0f_villages t_l0f_dams t_l0f_echoes t_l0f_deep t_l0f_slide t_l0a_heights t_l0a_ladders t_l0a_minutes t_l0a_echoFrom t_l0a_echoTo t_l0a_homes t_l0a_talls t_l0a_known t_l1f_huts t_l1f_singers t_l1f_villages t_l1f_dams t_l1f_echoes t_l1f_deep t_l1f_slide t_l1a_heights t_l1a_ladders t_l1a_minutes t_l1a_echoFrom t_l1a_echoTo t_l1a_homes t_l1a_talls t_l1a_known t_v0f_deeds t_v0a_kinds t_v0a_firsts t_v0a_seconds t_v1f_deeds t_v1a_kinds t_v1a_firsts t_v1a_seconds t_s0f_facts t_s0a_heard t_s0a_huts t_s0a_minutes t_s1f_facts t_s1a_heard t_s1a_huts t_s1a_minutes t_c0f_voices t_c0f_step t_c0a_parts t_c0a_heights t_c1f_voices t_c1f_step t_c1a_parts t_c1a_heights o_a_tape o_f_length o_f_fault o_f_place o_a_counts o_l0f_huts o_l0f_singers o_l0f_villages o_l0f_dams o_l0f_echoes o_l0f_deep o_l0f_slide o_l0a_heights o_l0a_ladders o_l0a_minutes o_l0a_echoFrom o_l0a_echoTo o_l0a_homes o_l0a_talls o_l0a_known o_l1f_huts o_l1f_singers o_l1f_villages o_l1f_dams o_l1f_echoes o_l1f_deep o_l1f_slide o_l1a_heights o_l1a_ladders o_l1a_minutes o_l1a_echoFrom o_l1a_echoTo o_l1a_homes o_l1a_talls o_l1a_known o_v0f_deeds o_v0a_kinds o_v0a_firsts o_v0a_seconds o_v1f_deeds o_v1a_kinds o_v1a_firsts o_v1a_seconds o_s0f_facts o_s0a_heard o_s0a_huts o_s0a_minutes o_s1f_facts o_s1a_heard o_s1a_huts o_s1a_minutes o_c0f_voices o_c0f_step o_c0a_parts o_c0a_heights o_c1f_voices o_c1f_step o_c1a_parts o_c1a_heights (fun na_tape nf_length nf_fault nf_place na_counts nl0f_huts nl0f_singers nl0f_villages nl0f_dams nl0f_echoes nl0f_deep nl0f_slide nl0a_heights nl0a_ladders nl0a_minutes nl0a_echoFrom nl0a_echoTo nl0a_homes nl0a_talls nl0a_known nl1f_huts nl1f_singers nl1f_villages nl1f_dams nl1f_echoes nl1f_deep nl1f_slide nl1a_heights nl1a_ladders nl1a_minutes nl1a_echoFrom nl1a_echoTo nl1a_homes nl1a_talls nl1a_known nv0f_deeds nv0a_kinds nv0a_firsts nv0a_seconds nv1f_deeds nv1a_kinds nv1a_firsts nv1a_seconds ns0f_facts ns0a_heard ns0a_huts ns0a_minutes ns1f_facts ns1a_heard ns1a_huts ns1a_minutes nc0f_voices nc0f_step nc0a_parts nc0a_heights nc1f_voices nc1f_step nc1a_parts nc1a_heights z_a_tape z_f_length z_f_fault z_f_place z_a_counts z_l0f_huts z_l0f_singers z_l0f_villages z_l0f_dams z_l0f_echoes z_l0f_deep z_l0f_slide z_l0a_heights z_l0a_ladders z_l0a_minutes z_l0a_echoFrom z_l0a_echoTo z_l0a_homes z_l0a_talls z_l0a_known z_l1f_huts z_l1f_singers z_l1f_villages z_l1f_dams z_l1f_echoes z_l1f_deep z_l1f_slide z_l1a_heights z_l1a_ladders z_l1a_minutes z_l1a_echoFrom z_l1a_echoTo z_l1a_homes z_l1a_talls z_l1a_known z_v0f_deeds z_v0a_kinds z_v0a_firsts z_v0a_seconds z_v1f_deeds z_v1a_kinds z_v1a_firsts z_v1a_seconds z_s0f_facts z_s0a_heard z_s0a_huts z_s0a_minutes z_s1f_facts z_s1a_heard z_s1a_huts z_s1a_minutes z_c0f_voices z_c0f_step z_c0a_parts z_c0a_heights z_c1f_voices z_c1f_step z_c1a_parts z_c1a_heights => hpost na_tape nf_length nf_fault nf_place na_counts nl0f_huts nl0f_singers nl0f_villages nl0f_dams nl0f_echoes nl0f_deep nl0f_slide nl0a_heights nl0a_ladders nl0a_minutes nl0a_echoFrom nl0a_echoTo nl0a_homes nl0a_talls nl0a_known nl1f_huts nl1f_singers nl1f_villages nl1f_dams nl1f_echoes nl1f_deep nl1f_slide nl1a_heights nl1a_ladders nl1a_minutes nl1a_echoFrom nl1a_echoTo nl1a_homes nl1a_talls nl1a_known nv0f_deeds nv0a_kinds nv0a_firsts nv0a_seconds nv1f_deeds nv1a_kinds nv1a_firsts nv1a_seconds ns0f_facts ns0a_heard ns0a_huts ns0a_minutes ns1f_facts ns1a_heard ns1a_huts ns1a_minutes nc0f_voices nc0f_step nc0a_parts nc0a_heights nc1f_voices nc1f_step nc1a_parts nc1a_heights ⟨z_a_tape, z_f_length, z_f_fault, z_f_place, z_a_counts, z_l0f_huts, z_l0f_singers, z_l0f_villages, z_l0f_dams, z_l0f_echoes, z_l0f_deep, z_l0f_slide, z_l0a_heights, z_l0a_ladders, z_l0a_minutes, z_l0a_echoFrom, z_l0a_echoTo, z_l0a_homes, z_l0a_talls, z_l0a_known, z_l1f_huts, z_l1f_singers, z_l1f_villages, z_l1f_dams, z_l1f_echoes, z_l1f_deep, z_l1f_slide, z_l1a_heights, z_l1a_ladders, z_l1a_minutes, z_l1a_echoFrom, z_l1a_echoTo, z_l1a_homes, z_l1a_talls, z_l1a_known, z_v0f_deeds, z_v0a_kinds, z_v0a_firsts, z_v0a_seconds, z_v1f_deeds, z_v1a_kinds, z_v1a_firsts, z_v1a_seconds, z_s0f_facts, z_s0a_heard, z_s0a_huts, z_s0a_minutes, z_s1f_facts, z_s1a_heard, z_s1a_huts, z_s1a_minutes, z_c0f_voices, z_c0f_step, z_c0a_parts, z_c0a_heights, z_c1f_voices, z_c1f_step, z_c1a_parts, z_c1a_heights⟩)
set_option maxRecDepth 40000 in
set_option maxHeartbeats 4000000 in
theorem xi_x {E : zE} {qx qi : Nat} {ta_tape : Nat → Int32} {tf_length : Int32} {tf_fault : Int32} {tf_place : Int32} {ta_counts : Nat → Int32} {tl0f_huts : Int32} {tl0f_singers : Int32} {tl0f_villages : Int32} {tl0f_dams : Int32} {tl0f_echoes : Int32} {tl0f_deep : Int32} {tl0f_slide : Int32} {tl0a_heights : Nat → Int32} {tl0a_ladders : Nat → Int32} {tl0a_minutes : Nat → Int32} {tl0a_echoFrom : Nat → Int32} {tl0a_echoTo : Nat → Int32} {tl0a_homes : Nat → Int32} {tl0a_talls : Nat → Int32} {tl0a_known : Nat → Int32} {tl1f_huts : Int32} {tl1f_singers : Int32} {tl1f_villages : Int32} {tl1f_dams : Int32} {tl1f_echoes : Int32} {tl1f_deep : Int32} {tl1f_slide : Int32} {tl1a_heights : Nat → Int32} {tl1a_ladders : Nat → Int32} {tl1a_minutes : Nat → Int32} {tl1a_echoFrom : Nat → Int32} {tl1a_echoTo : Nat → Int32} {tl1a_homes : Nat → Int32} {tl1a_talls : Nat → Int32} {tl1a_known : Nat → Int32} {tv0f_deeds : Int32} {tv0a_kinds : Nat → Int32} {tv0a_firsts : Nat → Int32} {tv0a_seconds : Nat → Int32} {tv1f_deeds : Int32} {tv1a_kinds : Nat → Int32} {tv1a_firsts : Nat → Int32} {tv1a_seconds : Nat → Int32} {ts0f_facts : Int32} {ts0a_heard : Nat → Int32} {ts0a_huts : Nat → Int32} {ts0a_minutes : Nat → Int32} {ts1f_facts : Int32} {ts1a_heard : Nat → Int32} {ts1a_huts : Nat → Int32} {ts1a_minutes : Nat → Int32} {tc0f_voices : Int32} {tc0f_step : Int32} {tc0a_parts : Nat → Int32} {tc0a_heights : Nat → Int32} {tc1f_voices : Int32} {tc1f_step : Int32} {tc1a_parts : Nat → Int32} {tc1a_heights : Nat → Int32} {m_images : Nat → Option Nat} {rlf_huts : Int32} {rlf_singers : Int32} {rlf_villages : Int32} {rlf_dams : Int32} {rlf_echoes : Int32} {rlf_deep : Int32} {rlf_slide : Int32} {rla_heights : Nat → Int32} {rla_ladders : Nat → Int32} {rla_minutes : Nat → Int32} {rla_echoFrom : Nat → Int32} {rla_echoTo : Nat → Int32} {rla_homes : Nat → Int32} {rla_talls : Nat → Int32} {rla_known : Nat → Int32} {rvf_deeds : Int32} {rva_kinds : Nat → Int32} {rva_firsts : Nat → Int32} {rva_seconds : Nat → Int32} {rsf_facts : Int32} {rsa_heard : Nat → Int32} {rsa_huts : Nat → Int32} {rsa_minutes : Nat → Int32} {rcf_voices : Int32} {rcf_step : Int32} {rca_parts : Nat → Int32} {rca_heights : Nat → Int32} {rf_fault : Int32} {rf_faultPlace : Int32} {ra_numbers : Nat → Int32} {ra_tape : Nat → Int32} {rf_length : Int32} {rf_behind : Int32} {rf_kind : Int32} {rf_first : Int32} {rf_value : Int32} {rf_hutsToldOf : Int32} {rf_singersToldOf : Int32} {nf_minute : Int32} {nf_avalanches : Int32} {nf_begun : Int32} {nf_climbed : Int32} {nf_seed : Int32} {na_huts : Nat → Int32} {na_known : Nat → Int32} {na_levels : Nat → Int32} {na_snow : Nat → Int32} {na_open : Nat → Int32} {pa_heard : Nat → Int32} {pa_walked : Nat → Int32} {pa_total : Nat → Int32} {pa_longest : Nat → Int32} {pa_next : Nat → Int32} {pa_cover : Nat → Int32} {pa_now : Nat → Int32} {pa_then : Nat → Int32} {ko_stands : Option Nat} {ka_gaps : Nat → Int32} {ka_behind : Nat → Int32} {ba_less : Nat → Int32} {ba_full : Nat → Int32} {ia_tape : Nat → Int32} {if_length : Int32} {if_fault : Int32} {if_place : Int32} {ia_counts : Nat → Int32} {il0f_huts : Int32} {il0f_singers : Int32} {il0f_villages : Int32} {il0f_dams : Int32} {il0f_echoes : Int32} {il0f_deep : Int32} {il0f_slide : Int32} {il0a_heights : Nat → Int32} {il0a_ladders : Nat → Int32} {il0a_minutes : Nat → Int32} {il0a_echoFrom : Nat → Int32} {il0a_echoTo : Nat → Int32} {il0a_homes : Nat → Int32} {il0a_talls : Nat → Int32} {il0a_known : Nat → Int32} {il1f_huts : Int32} {il1f_singers : Int32} {il1f_villages : Int32} {il1f_dams : Int32} {il1f_echoes : Int32} {il1f_deep : Int32} {il1f_slide : Int32} {il1a_heights : Nat → Int32} {il1a_ladders : Nat → Int32} {il1a_minutes : Nat → Int32} {il1a_echoFrom : Nat → Int32} {il1a_echoTo : Nat → Int32} {il1a_homes : Nat → Int32} {il1a_talls : Nat → Int32} {il1a_known : Nat → Int32} {iv0f_deeds : Int32} {iv0a_kinds : Nat → Int32} {iv0a_firsts : Nat → Int32} {iv0a_seconds : Nat → Int32} {iv1f_deeds : Int32} {iv1a_kinds : Nat → Int32} {iv1a_firsts : Nat → Int32} {iv1a_seconds : Nat → Int32} {is0f_facts : Int32} {is0a_heard : Nat → Int32} {is0a_huts : Nat → Int32} {is0a_minutes : Nat → Int32} {is1f_facts : Int32} {is1a_heard : Nat → Int32} {is1a_huts : Nat → Int32} {is1a_minutes : Nat → Int32} {ic0f_voices : Int32} {ic0f_step : Int32} {ic0a_parts : Nat → Int32} {ic0a_heights : Nat → Int32} {ic1f_voices : Int32} {ic1f_step : Int32} {ic1a_parts : Nat → Int32} {ic1a_heights : Nat → Int32} {H : Heap} (h : wxiW E qx qi ta_tape tf_length tf_fault tf_place ta_counts tl0f_huts tl0f_singers tl0f_villages tl0f_dams tl0f_echoes tl0f_deep tl0f_slide tl0a_heights tl0a_ladders tl0a_minutes tl0a_echoFrom tl0a_echoTo tl0a_homes tl0a_talls tl0a_known tl1f_huts tl1f_singers tl1f_villages tl1f_dams tl1f_echoes tl1f_deep tl1f_slide tl1a_heights tl1a_ladders tl1a_minutes tl1a_echoFrom tl1a_echoTo tl1a_homes tl1a_talls tl1a_known tv0f_deeds tv0a_kinds tv0a_firsts tv0a_seconds tv1f_deeds tv1a_kinds tv1a_firsts tv1a_seconds ts0f_facts ts0a_heard ts0a_huts ts0a_minutes ts1f_facts ts1a_heard ts1a_huts ts1a_minutes tc0f_voices tc0f_step tc0a_parts tc0a_heights tc1f_voices tc1f_step tc1a_parts tc1a_heights m_images rlf_huts rlf_singers rlf_villages rlf_dams rlf_echoes rlf_deep rlf_slide rla_heights rla_ladders rla_minutes rla_echoFrom rla_echoTo rla_homes rla_talls rla_known rvf_deeds rva_kinds rva_firsts rva_seconds rsf_facts rsa_heard rsa_huts rsa_minutes rcf_voices rcf_step rca_parts rca_heights rf_fault rf_faultPlace ra_numbers ra_tape rf_length rf_behind rf_kind rf_first rf_value rf_hutsToldOf rf_singersToldOf nf_minute nf_avalanches nf_begun nf_climbed nf_seed na_huts na_known na_levels na_snow na_open pa_heard pa_walked pa_total pa_longest pa_next pa_cover pa_now pa_then ko_stands ka_gaps ka_behind ba_less ba_full ia_tape if_length if_fault if_place ia_counts il0f_huts il0f_singers il0f_villages il0f_dams il0f_echoes il0f_deep il0f_slide il0a_heights il0a_ladders il0a_minutes il0a_echoFrom il0a_echoTo il0a_homes il0a_talls il0a_known il1f_huts il1f_singers il1f_villages il1f_dams il1f_echoes il1f_deep il1f_slide il1a_heights il1a_ladders il1a_minutes il1a_echoFrom il1a_echoTo il1a_homes il1a_talls il1a_known iv0f_deeds iv0a_kinds iv0a_firsts iv0a_seconds iv1f_deeds iv1a_kinds iv1a_firsts iv1a_seconds is0f_facts is0a_heard is0a_huts is0a_minutes is1f_facts is1a_heard is1a_huts is1a_minutes ic0f_voices ic0f_step ic0a_parts ic0a_heights ic1f_voices ic1f_step ic1a_parts ic1a_heights H) : wxW E qx ta_tape tf_length tf_fault tf_place ta_counts tl0f_huts tl0f_singers tl0f_villages tl0f_dams tl0f_echoes tl0f_deep tl0f_slide tl0a_heights tl0a_ladders tl0a_minutes tl0a_echoFrom tl0a_echoTo tl0a_homes tl0a_talls tl0a_known tl1f_huts tl1f_singers tl1f_villages tl1f_dams tl1f_echoes tl1f_deep tl1f_slide tl1a_heights tl1a_ladders tl1a_minutes tl1a_echoFrom tl1a_echoTo tl1a_homes tl1a_talls tl1a_known tv0f_deeds tv0a_kinds tv0a_firsts tv0a_seconds tv1f_deeds tv1a_kinds tv1a_firsts tv1a_seconds ts0f_facts ts0a_heard ts0a_huts ts0a_minutes ts1f_facts ts1a_heard ts1a_huts ts1a_minutes tc0f_voices tc0f_step tc0a_parts tc0a_heights tc1f_voices tc1f_step tc1a_parts tc1a_heights m_images rlf_huts rlf_singers rlf_villages rlf_dams rlf_echoes rlf_deep rlf_slide rla_heights rla_ladders rla_minutes rla_echoFrom rla_echoTo rla_homes rla_talls rla_known rvf_deeds rva_kinds rva_firsts rva_seconds rsf_facts rsa_heard rsa_huts rsa_minutes rcf_voices rcf_step rca_parts rca_heights rf_fault rf_faultPlace ra_numbers ra_tape rf_length rf_behind rf_kind rf_first rf_value rf_hutsToldOf rf_singersToldOf nf_minute nf_avalanches nf_begun nf_climbed nf_seed na_huts na_known na_levels na_snow na_open pa_heard pa_walked pa_total pa_longest pa_next pa_cover pa_now pa_then ko_stands ka_gaps ka_behind ba_less ba_full H := va_P.sub h.1 [0, 1, 2, 3, 4, 5, 6, 7, 8, 9, 10, 11, 12, 13, 14, 15, 16, 17, 18, 19, 20, 21, 22, 23, 24, 25, 26, 27, 28, 29, 30, 31, 32, 33, 34, 35, 36, 37, 38, 39, 40, 41, 42, 43, 44, 45, 46, 47, 48, 49, 50, 51, 52, 53, 54, 55, 56, 57, 58, 59, 60, 61, 62, 63, 64, 65, 66, 67, 68, 69, 70, 71, 72, 73, 74, 75, 76, 77, 78, 79, 80, 81, 82, 83, 84, 85, 86, 87, 88, 89, 90, 91, 92] rfl
set_option maxRecDepth 40000 in
set_option maxHeartbeats 4000000 in
theorem xi_t {E : zE} {qx qi : Nat} {ta_tape : Nat → Int32} {tf_length : Int32} {tf_fault : Int32} {tf_place : Int32} {ta_counts : Nat → Int32} {tl0f_huts : Int32} {tl0f_singers : Int32} {tl0f_villages : Int32} {tl0f_dams : Int32} {tl0f_echoes : Int32} {tl0f_deep : Int32} {tl0f_slide : Int32} {tl0a_heights : Nat → Int32} {tl0a_ladders : Nat → Int32} {tl0a_minutes : Nat → Int32} {tl0a_echoFrom : Nat → Int32} {tl0a_echoTo : Nat → Int32} {tl0a_homes : Nat → Int32} {tl0a_talls : Nat → Int32} {tl0a_known : Nat → Int32} {tl1f_huts : Int32} {tl1f_singers : Int32} {tl1f_villages : Int32} {tl1f_dams : Int32} {tl1f_echoes : Int32} {tl1f_deep : Int32} {tl1f_slide : Int32} {tl1a_heights : Nat → Int32} {tl1a_ladders : Nat → Int32} {tl1a_minutes : Nat → Int32} {tl1a_echoFrom : Nat → Int32} {tl1a_echoTo : Nat → Int32} {tl1a_homes : Nat → Int32} {tl1a_talls : Nat → Int32} {tl1a_known : Nat → Int32} {tv0f_deeds : Int32} {tv0a_kinds : Nat → Int32} {tv0a_firsts : Nat → Int32} {tv0a_seconds : Nat → Int32} {tv1f_deeds : Int32} {tv1a_kinds : Nat → Int32} {tv1a_firsts : Nat → Int32} {tv1a_seconds : Nat → Int32} {ts0f_facts : Int32} {ts0a_heard : Nat → Int32} {ts0a_huts : Nat → Int32} {ts0a_minutes : Nat → Int32} {ts1f_facts : Int32} {ts1a_heard : Nat → Int32} {ts1a_huts : Nat → Int32} {ts1a_minutes : Nat → Int32} {tc0f_voices : Int32} {tc0f_step : Int32} {tc0a_parts : Nat → Int32} {tc0a_heights : Nat → Int32} {tc1f_voices : Int32} {tc1f_step : Int32} {tc1a_parts : Nat → Int32} {tc1a_heights : Nat → Int32} {m_images : Nat → Option Nat} {rlf_huts : Int32} {rlf_singers : Int32} {rlf_villages : Int32} {rlf_dams : Int32} {rlf_echoes : Int32} {rlf_deep : Int32} {rlf_slide : Int32} {rla_heights : Nat → Int32} {rla_ladders : Nat → Int32} {rla_minutes : Nat → Int32} {rla_echoFrom : Nat → Int32} {rla_echoTo : Nat → Int32} {rla_homes : Nat → Int32} {rla_talls : Nat → Int32} {rla_known : Nat → Int32} {rvf_deeds : Int32} {rva_kinds : Nat → Int32} {rva_firsts : Nat → Int32} {rva_seconds : Nat → Int32} {rsf_facts : Int32} {rsa_heard : Nat → Int32} {rsa_huts : Nat → Int32} {rsa_minutes : Nat → Int32} {rcf_voices : Int32} {rcf_step : Int32} {rca_parts : Nat → Int32} {rca_heights : Nat → Int32} {rf_fault : Int32} {rf_faultPlace : Int32} {ra_numbers : Nat → Int32} {ra_tape : Nat → Int32} {rf_length : Int32} {rf_behind : Int32} {rf_kind : Int32} {rf_first : Int32} {rf_value : Int32} {rf_hutsToldOf : Int32} {rf_singersToldOf : Int32} {nf_minute : Int32} {nf_avalanches : Int32} {nf_begun : Int32} {nf_climbed : Int32} {nf_seed : Int32} {na_huts : Nat → Int32} {na_known : Nat → Int32} {na_levels : Nat → Int32} {na_snow : Nat → Int32} {na_open : Nat → Int32} {pa_heard : Nat → Int32} {pa_walked : Nat → Int32} {pa_total : Nat → Int32} {pa_longest : Nat → Int32} {pa_next : Nat → Int32} {pa_cover : Nat → Int32} {pa_now : Nat → Int32} {pa_then : Nat → Int32} {ko_stands : Option Nat} {ka_gaps : Nat → Int32} {ka_behind : Nat → Int32} {ba_less : Nat → Int32} {ba_full : Nat → Int32} {ia_tape : Nat → Int32} {if_length : Int32} {if_fault : Int32} {if_place : Int32} {ia_counts : Nat → Int32} {il0f_huts : Int32} {il0f_singers : Int32} {il0f_villages : Int32} {il0f_dams : Int32} {il0f_echoes : Int32} {il0f_deep : Int32} {il0f_slide : Int32} {il0a_heights : Nat → Int32} {il0a_ladders : Nat → Int32} {il0a_minutes : Nat → Int32} {il0a_echoFrom : Nat → Int32} {il0a_echoTo : Nat → Int32} {il0a_homes : Nat → Int32} {il0a_talls : Nat → Int32} {il0a_known : Nat → Int32} {il1f_huts : Int32} {il1f_singers : Int32} {il1f_villages : Int32} {il1f_dams : Int32} {il1f_echoes : Int32} {il1f_deep : Int32} {il1f_slide : Int32} {il1a_heights : Nat → Int32} {il1a_ladders : Nat → Int32} {il1a_minutes : Nat → Int32} {il1a_echoFrom : Nat → Int32} {il1a_echoTo : Nat → Int32} {il1a_homes : Nat → Int32} {il1a_talls : Nat → Int32} {il1a_known : Nat → Int32} {iv0f_deeds : Int32} {iv0a_kinds : Nat → Int32} {iv0a_firsts : Nat → Int32} {iv0a_seconds : Nat → Int32} {iv1f_deeds : Int32} {iv1a_kinds : Nat → Int32} {iv1a_firsts : Nat → Int32} {iv1a_seconds : Nat → Int32} {is0f_facts : Int32} {is0a_heard : Nat → Int32} {is0a_huts : Nat → Int32} {is0a_minutes : Nat → Int32} {is1f_facts : Int32} {is1a_heard : Nat → Int32} {is1a_huts : Nat → Int32} {is1a_minutes : Nat → Int32} {ic0f_voices : Int32} {ic0f_step : Int32} {ic0a_parts : Nat → Int32} {ic0a_heights : Nat → Int32} {ic1f_voices : Int32} {ic1f_step : Int32} {ic1a_parts : Nat → Int32} {ic1a_heights : Nat → Int32} {H : Heap} (h : wxiW E qx qi ta_tape tf_length tf_fault tf_place ta_counts tl0f_huts tl0f_singers tl0f_villages tl0f_dams tl0f_echoes tl0f_deep tl0f_slide tl0a_heights tl0a_ladders tl0a_minutes tl0a_echoFrom tl0a_echoTo tl0a_homes tl0a_talls tl0a_known tl1f_huts tl1f_singers tl1f_villages tl1f_dams tl1f_echoes tl1f_deep tl1f_slide tl1a_heights tl1a_ladders tl1a_minutes tl1a_echoFrom tl1a_echoTo tl1a_homes tl1a_talls tl1a_known tv0f_deeds tv0a_kinds tv0a_firsts tv0a_seconds tv1f_deeds tv1a_kinds tv1a_firsts tv1a_seconds ts0f_facts ts0a_heard ts0a_huts ts0a_minutes ts1f_facts ts1a_heard ts1a_huts ts1a_minutes tc0f_voices tc0f_step tc0a_parts tc0a_heights tc1f_voices tc1f_step tc1a_parts tc1a_heights m_images rlf_huts rlf_singers rlf_villages rlf_dams rlf_echoes rlf_deep rlf_slide rla_heights rla_ladders rla_minutes rla_echoFrom rla_echoTo rla_homes rla_talls rla_known rvf_deeds rva_kinds rva_firsts rva_seconds rsf_facts rsa_heard rsa_huts rsa_minutes rcf_voices rcf_step rca_parts rca_heights rf_fault rf_faultPlace ra_numbers ra_tape rf_length rf_behind rf_kind rf_first rf_value rf_hutsToldOf rf_singersToldOf nf_minute nf_avalanches nf_begun nf_climbed nf_seed na_huts na_known na_levels na_snow na_open pa_heard pa_walked pa_total pa_longest pa_next pa_cover pa_now pa_then ko_stands ka_gaps ka_behind ba_less ba_full ia_tape if_length if_fault if_place ia_counts il0f_huts il0f_singers il0f_villages il0f_dams il0f_echoes il0f_deep il0f_slide il0a_heights il0a_ladders il0a_minutes il0a_echoFrom il0a_echoTo il0a_homes il0a_talls il0a_known il1f_huts il1f_singers il1f_villages il1f_dams il1f_echoes il1f_deep il1f_slide il1a_heights il1a_ladders il1a_minutes il1a_echoFrom il1a_echoTo il1a_homes il1a_talls il1a_known iv0f_deeds iv0a_kinds iv0a_firsts iv0a_seconds iv1f_deeds iv1a_kinds iv1a_firsts iv1a_seconds is0f_facts is0a_heard is0a_huts is0a_minutes is1f_facts is1a_heard is1a_huts is1a_minutes ic0f_voices ic0f_step ic0a_parts ic0a_heights ic1f_voices ic1f_step ic1a_parts ic1a_heights H) : wtW E qi ia_tape if_length if_fault if_place ia_counts il0f_huts il0f_singers il0f_villages il0f_dams il0f_echoes il0f_deep il0f_slide il0a_heights il0a_ladders il0a_minutes il0a_echoFrom il0a_echoTo il0a_homes il0a_talls il0a_known il1f_huts il1f_singers il1f_villages il1f_dams il1f_echoes il1f_deep il1f_slide il1a_heights il1a_ladders il1a_minutes il1a_echoFrom il1a_echoTo il1a_homes il1a_talls il1a_known iv0f_deeds iv0a_kinds iv0a_firsts iv0a_seconds iv1f_deeds iv1a_kinds iv1a_firsts iv1a_seconds is0f_facts is0a_heard is0a_huts is0a_minutes is1f_facts is1a_heard is1a_huts is1a_minutes ic0f_voices ic0f_step ic0a_parts ic0a_heights ic1f_voices ic1f_step ic1a_parts ic1a_heights H := va_P.sub h.1 [93, 94, 95, 96, 97, 98, 99, 100, 101, 102, 103, 104, 105, 106, 107, 108, 109, 110, 111, 112, 113, 114, 115, 116, 117, 118, 119, 120, 121, 122, 123, 124, 125, 126, 127, 128, 129, 130, 131, 132, 133, 134, 135, 136, 137, 138, 139] rfl
set_option maxRecDepth 40000 in
set_option maxHeartbeats 4000000 in
theorem xi_of {E : zE} {qx qi : Nat} {ta_tape : Nat → Int32} {tf_length : Int32} {tf_fault : Int32} {tf_place : Int32} {ta_counts : Nat → Int32} {tl0f_huts : Int32} {tl0f_singers : Int32} {tl0f_villages : Int32} {tl0f_dams : Int32} {tl0f_echoes : Int32} {tl0f_deep : Int32} {tl0f_slide : Int32} {tl0a_heights : Nat → Int32} {tl0a_ladders : Nat → Int32} {tl0a_minutes : Nat → Int32} {tl0a_echoFrom : Nat → Int32} {tl0a_echoTo : Nat → Int32} {tl0a_homes : Nat → Int32} {tl0a_talls : Nat → Int32} {tl0a_known : Nat → Int32} {tl1f_huts : Int32} {tl1f_singers : Int32} {tl1f_villages : Int32} {tl1f_dams : Int32} {tl1f_echoes : Int32} {tl1f_deep : Int32} {tl1f_slide : Int32} {tl1a_heights : Nat → Int32} {tl1a_ladders : Nat → Int32} {tl1a_minutes : Nat → Int32} {tl1a_echoFrom : Nat → Int32} {tl1a_echoTo : Nat → Int32} {tl1a_homes : Nat → Int32} {tl1a_talls : Nat → Int32} {tl1a_known : Nat → Int32} {tv0f_deeds : Int32} {tv0a_kinds : Nat → Int32} {tv0a_firsts : Nat → Int32} {tv0a_seconds : Nat → Int32} {tv1f_deeds : Int32} {tv1a_kinds : Nat → Int32} {tv1a_firsts : Nat → Int32} {tv1a_seconds : Nat → Int32} {ts0f_facts : Int32} {ts0a_heard : Nat → Int32} {ts0a_huts : Nat → Int32} {ts0a_minutes : Nat → Int32} {ts1f_facts : Int32} {ts1a_heard : Nat → Int32} {ts1a_huts : Nat → Int32} {ts1a_minutes : Nat → Int32} {tc0f_voices : Int32} {tc0f_step : Int32} {tc0a_parts : Nat → Int32} {tc0a_heights : Nat → Int32} {tc1f_voices : Int32} {tc1f_step : Int32} {tc1a_parts : Nat → Int32} {tc1a_heights : Nat → Int32} {m_images : Nat → Option Nat} {rlf_huts : Int32} {rlf_singers : Int32} {rlf_villages : Int32} {rlf_dams : Int32} {rlf_echoes : Int32} {rlf_deep : Int32} {rlf_slide : Int32} {rla_heights : Nat → Int32} {rla_ladders : Nat → Int32} {rla_minutes : Nat → Int32} {rla_echoFrom : Nat → Int32} {rla_echoTo : Nat → Int32} {rla_homes : Nat → Int32} {rla_talls : Nat → Int32} {rla_known : Nat → Int32} {rvf_deeds : Int32} {rva_kinds : Nat → Int32} {rva_firsts : Nat → Int32} {rva_seconds : Nat → Int32} {rsf_facts : Int32} {rsa_heard : Nat → Int32} {rsa_huts : Nat → Int32} {rsa_minutes : Nat → Int32} {rcf_voices : Int32} {rcf_step : Int32} {rca_parts : Nat → Int32} {rca_heights : Nat → Int32} {rf_fault : Int32} {rf_faultPlace : Int32} {ra_numbers : Nat → Int32} {ra_tape : Nat → Int32} {rf_length : Int32} {rf_behind : Int32} {rf_kind : Int32} {rf_first : Int32} {rf_value : Int32} {rf_hutsToldOf : Int32} {rf_singersToldOf : Int32} {nf_minute : Int32} {nf_avalanches : Int32} {nf_begun : Int32} {nf_climbed : Int32} {nf_seed : Int32} {na_huts : Nat → Int32} {na_known : Nat → Int32} {na_levels : Nat → Int32} {na_snow : Nat → Int32} {na_open : Nat → Int32} {pa_heard : Nat → Int32} {pa_walked : Nat → Int32} {pa_total : Nat → Int32} {pa_longest : Nat → Int32} {pa_next : Nat → Int32} {pa_cover : Nat → Int32} {pa_now : Nat → Int32} {pa_then : Nat → Int32} {ko_stands : Option Nat} {ka_gaps : Nat → Int32} {ka_behind : Nat → Int32} {ba_less : Nat → Int32} {ba_full : Nat → Int32} {ia_tape : Nat → Int32} {if_length : Int32} {if_fault : Int32} {if_place : Int32} {ia_counts : Nat → Int32} {il0f_huts : Int32} {il0f_singers : Int32} {il0f_villages : Int32} {il0f_dams : Int32} {il0f_echoes : Int32} {il0f_deep : Int32} {il0f_slide : Int32} {il0a_heights : Nat → Int32} {il0a_ladders : Nat → Int32} {il0a_minutes : Nat → Int32} {il0a_echoFrom : Nat → Int32} {il0a_echoTo : Nat → Int32} {il0a_homes : Nat → Int32} {il0a_talls : Nat → Int32} {il0a_known : Nat → Int32} {il1f_huts : Int32} {il1f_singers : Int32} {il1f_villages : Int32} {il1f_dams : Int32} {il1f_echoes : Int32} {il1f_deep : Int32} {il1f_slide : Int32} {il1a_heights : Nat → Int32} {il1a_ladders : Nat → Int32} {il1a_minutes : Nat → Int32} {il1a_echoFrom : Nat → Int32} {il1a_echoTo : Nat → Int32} {il1a_homes : Nat → Int32} {il1a_talls : Nat → Int32} {il1a_known : Nat → Int32} {iv0f_deeds : Int32} {iv0a_kinds : Nat → Int32} {iv0a_firsts : Nat → Int32} {iv0a_seconds : Nat → Int32} {iv1f_deeds : Int32} {iv1a_kinds : Nat → Int32} {iv1a_firsts : Nat → Int32} {iv1a_seconds : Nat → Int32} {is0f_facts : Int32} {is0a_heard : Nat → Int32} {is0a_huts : Nat → Int32} {is0a_minutes : Nat → Int32} {is1f_facts : Int32} {is1a_heard : Nat → Int32} {is1a_huts : Nat → Int32} {is1a_minutes : Nat → Int32} {ic0f_voices : Int32} {ic0f_step : Int32} {ic0a_parts : Nat → Int32} {ic0a_heights : Nat → Int32} {ic1f_voices : Int32} {ic1f_step : Int32} {ic1a_parts : Nat → Int32} {ic1a_heights : Nat → Int32} {H : Heap} (h : wxW E qx ta_tape tf_length tf_fault tf_place ta_counts tl0f_huts tl0f_singers tl0f_villages tl0f_dams tl0f_echoes tl0f_deep tl0f_slide tl0a_heights tl0a_ladders tl0a_minutes tl0a_echoFrom tl0a_echoTo tl0a_homes tl0a_talls tl0a_known tl1f_huts tl1f_singers tl1f_villages tl1f_dams tl1f_echoes tl1f_deep tl1f_slide tl1a_heights tl1a_ladders tl1a_minutes tl1a_echoFrom tl1a_echoTo tl1a_homes tl1a_talls tl1a_known tv0f_deeds tv0a_kinds tv0a_firsts tv0a_seconds tv1f_deeds tv1a_kinds tv1a_firsts tv1a_seconds ts0f_facts ts0a_heard ts0a_huts ts0a_minutes ts1f_facts ts1a_heard ts1a_huts ts1a_minutes tc0f_voices tc0f_step tc0a_parts tc0a_heights tc1f_voices tc1f_step tc1a_parts tc1a_heights m_images rlf_huts rlf_singers rlf_villages rlf_dams rlf_echoes rlf_deep rlf_slide rla_heights rla_ladders rla_minutes rla_echoFrom rla_echoTo rla_homes rla_talls rla_known rvf_deeds rva_kinds rva_firsts rva_seconds rsf_facts rsa_heard rsa_huts rsa_minutes rcf_voices rcf_step rca_parts rca_heights rf_fault rf_faultPlace ra_numbers ra_tape rf_length rf_behind rf_kind rf_first rf_value rf_hutsToldOf rf_singersToldOf nf_minute nf_avalanches nf_begun nf_climbed nf_seed na_huts na_known na_levels na_snow na_open pa_heard pa_walked pa_total pa_longest pa_next pa_cover pa_now pa_then ko_stands ka_gaps ka_behind ba_less ba_full H) (hi : wtW E qi ia_tape if_length if_fault if_place ia_counts il0f_huts il0f_singers il0f_villages il0f_dams il0f_echoes il0f_deep il0f_slide il0a_heights il0a_ladders il0a_minutes il0a_echoFrom il0a_echoTo il0a_homes il0a_talls il0a_known il1f_huts il1f_singers il1f_villages il1f_dams il1f_echoes il1f_deep il1f_slide il1a_heights il1a_ladders il1a_minutes il1a_echoFrom il1a_echoTo il1a_homes il1a_talls il1a_known iv0f_deeds iv0a_kinds iv0a_firsts iv0a_seconds iv1f_deeds iv1a_kinds iv1a_firsts iv1a_seconds is0f_facts is0a_heard is0a_huts is0a_minutes is1f_facts is1a_heard is1a_huts is1a_minutes ic0f_voices ic0f_step ic0a_parts ic0a_heights ic1f_voices ic1f_step ic1a_parts ic1a_heights H) (hd : qx + 93 ≤ qi) : wxiW E qx qi ta_tape tf_length tf_fault tf_place ta_counts tl0f_huts tl0f_singers tl0f_villages tl0f_dams tl0f_echoes tl0f_deep tl0f_slide tl0a_heights tl0a_ladders tl0a_minutes tl0a_echoFrom tl0a_echoTo tl0a_homes tl0a_talls tl0a_known tl1f_huts tl1f_singers tl1f_villages tl1f_dams tl1f_echoes tl1f_deep tl1f_slide tl1a_heights tl1a_ladders tl1a_minutes tl1a_echoFrom tl1a_echoTo tl1a_homes tl1a_talls tl1a_known tv0f_deeds tv0a_kinds tv0a_firsts tv0a_seconds tv1f_deeds tv1a_kinds tv1a_firsts tv1a_seconds ts0f_facts ts0a_heard ts0a_huts ts0a_minutes ts1f_facts ts1a_heard ts1a_huts ts1a_minutes tc0f_voices tc0f_step tc0a_parts tc0a_heights tc1f_voices tc1f_step tc1a_parts tc1a_heights m_images rlf_huts rlf_singers rlf_villages rlf_dams rlf_echoes rlf_deep rlf_slide rla_heights rla_ladders rla_minutes rla_echoFrom rla_echoTo rla_homes rla_talls rla_known rvf_deeds rva_kinds rva_firsts rva_seconds rsf_facts rsa_heard rsa_huts rsa_minutes rcf_voices rcf_step rca_parts rca_heights rf_fault rf_faultPlace ra_numbers ra_tape rf_length rf_behind rf_kind rf_first rf_value rf_hutsToldOf rf_singersToldOf nf_minute nf_avalanches nf_begun nf_climbed nf_seed na_huts na_known na_levels na_snow na_open pa_heard pa_walked pa_total pa_longest pa_next pa_cover pa_now pa_then ko_stands ka_gaps ka_behind ba_less ba_full ia_tape if_length if_fault if_place ia_counts il0f_huts il0f_singers il0f_villages il0f_dams il0f_echoes il0f_deep il0f_slide il0a_heights il0a_ladders il0a_minutes il0a_echoFrom il0a_echoTo il0a_homes il0a_talls il0a_known il1f_huts il1f_singers il1f_villages il1f_dams il1f_echoes il1f_deep il1f_slide il1a_heights il1a_ladders il1a_minutes il1a_echoFrom il1a_echoTo il1a_homes il1a_talls il1a_known iv0f_deeds iv0a_kinds iv0a_firsts iv0a_seconds iv1f_deeds iv1a_kinds iv1a_firsts iv1a_seconds is0f_facts is0a_heard is0a_huts is0a_minutes is1f_facts is1a_heard is1a_huts is1a_minutes ic0f_voices ic0f_step ic0a_parts ic0a_heights ic1f_voices ic1f_step ic1a_parts ic1a_heights H := ⟨va_P.app h hi, by unfold wxiQ; omega⟩
abbrev rmI (kc ks : Nat) : Room := { frames := 3, cells := kc, slots := ks, locals := 90 }
set_option maxRecDepth 40000 in
set_option maxHeartbeats 4000000 in
theorem im_tail {p : Program} {l : Launch} {e : Env} {s : State} {m : MethodId} {args : Array Value} {below : List Frame} {meth : Method} {c : Code} {H : Heap} {locs : List Loc} {ls : Array Slot} {E : zE} {qx qi kc ks : Nat} {A : Nat → Prop} {x1 : Int32} {ta_tape : Nat → Int32} {tf_length : Int32} {tf_fault : Int32} {tf_place : Int32} {ta_counts : Nat → Int32} {tl0f_huts : Int32} {tl0f_singers : Int32} {tl0f_villages : Int32} {tl0f_dams : Int32} {tl0f_echoes : Int32} {tl0f_deep : Int32} {tl0f_slide : Int32} {tl0a_heights : Nat → Int32} {tl0a_ladders : Nat → Int32} {tl0a_minutes : Nat → Int32} {tl0a_echoFrom : Nat → Int32} {tl0a_echoTo : Nat → Int32} {tl0a_homes : Nat → Int32} {tl0a_talls : Nat → Int32} {tl0a_known : Nat → Int32} {tl1f_huts : Int32} {tl1f_singers : Int32} {tl1f_villages : Int32} {tl1f_dams : Int32} {tl1f_echoes : Int32} {tl1f_deep : Int32} {tl1f_slide : Int32} {tl1a_heights : Nat → Int32} {tl1a_ladders : Nat → Int32} {tl1a_minutes : Nat → Int32} {tl1a_echoFrom : Nat → Int32} {tl1a_echoTo : Nat → Int32} {tl1a_homes : Nat → Int32} {tl1a_talls : Nat → Int32} {tl1a_known : Nat → Int32} {tv0f_deeds : Int32} {tv0a_kinds : Nat → Int32} {tv0a_firsts : Nat → Int32} {tv0a_seconds : Nat → Int32} {tv1f_deeds : Int32} {tv1a_kinds : Nat → Int32} {tv1a_firsts : Nat → Int32} {tv1a_seconds : Nat → Int32} {ts0f_facts : Int32} {ts0a_heard : Nat → Int32} {ts0a_huts : Nat → Int32} {ts0a_minutes : Nat → Int32} {ts1f_facts : Int32} {ts1a_heard : Nat → Int32} {ts1a_huts : Nat → Int32} {ts1a_minutes : Nat → Int32} {tc0f_voices : Int32} {tc0f_step : Int32} {tc0a_parts : Nat → Int32} {tc0a_heights : Nat → Int32} {tc1f_voices : Int32} {tc1f_step : Int32} {tc1a_parts : Nat → Int32} {tc1a_heights : Nat → Int32} {m_images : Nat → Option Nat} {rlf_huts : Int32} {rlf_singers : Int32} {rlf_villages : Int32} {rlf_dams : Int32} {rlf_echoes : Int32} {rlf_deep : Int32} {rlf_slide : Int32} {rla_heights : Nat → Int32} {rla_ladders : Nat → Int32} {rla_minutes : Nat → Int32} {rla_echoFrom : Nat → Int32} {rla_echoTo : Nat → Int32} {rla_homes : Nat → Int32} {rla_talls : Nat → Int32} {rla_known : Nat → Int32} {rvf_deeds : Int32} {rva_kinds : Nat → Int32} {rva_firsts : Nat → Int32} {rva_seconds : Nat → Int32} {rsf_facts : Int32} {rsa_heard : Nat → Int32} {rsa_huts : Nat → Int32} {rsa_minutes : Nat → Int32} {rcf_voices : Int32} {rcf_step : Int32} {rca_parts : Nat → Int32} {rca_heights : Nat → Int32} {rf_fault : Int32} {rf_faultPlace : Int32} {ra_numbers : Nat → Int32} {ra_tape : Nat → Int32} {rf_length : Int32} {rf_behind : Int32} {rf_kind : Int32} {rf_first : Int32} {rf_value : Int32} {rf_hutsToldOf : Int32} {rf_singersToldOf : Int32} {nf_minute : Int32} {nf_avalanches : Int32} {nf_begun : Int32} {nf_climbed : Int32} {nf_seed : Int32} {na_huts : Nat → Int32} {na_known : Nat → Int32} {na_levels : Nat → Int32} {na_snow : Nat → Int32} {na_open : Nat → Int32} {pa_heard : Nat → Int32} {pa_walked : Nat → Int32} {pa_total : Nat → Int32} {pa_longest : Nat → Int32} {pa_next : Nat → Int32} {pa_cover : Nat → Int32} {pa_now : Nat → Int32} {pa_then : Nat → Int32} {ko_stands : Option Nat} {ka_gaps : Nat → Int32} {ka_behind : Nat → Int32} {ba_less : Nat → Int32} {ba_full : Nat → Int32} {ia_tape : Nat → Int32} {if_length : Int32} {if_fault : Int32} {if_place : Int32} {ia_counts : Nat → Int32} {il0f_huts : Int32} {il0f_singers : Int32} {il0f_villages : Int32} {il0f_dams : Int32} {il0f_echoes : Int32} {il0f_deep : Int32} {il0f_slide : Int32} {il0a_heights : Nat → Int32} {il0a_ladders : Nat → Int32} {il0a_minutes : Nat → Int32} {il0a_echoFrom : Nat → Int32} {il0a_echoTo : Nat → Int32} {il0a_homes : Nat → Int32} {il0a_talls : Nat → Int32} {il0a_known : Nat → Int32} {il1f_huts : Int32} {il1f_singers : Int32} {il1f_villages : Int32} {il1f_dams : Int32} {il1f_echoes : Int32} {il1f_deep : Int32} {il1f_slide : Int32} {il1a_heights : Nat → Int32} {il1a_ladders : Nat → Int32} {il1a_minutes : Nat → Int32} {il1a_echoFrom : Nat → Int32} {il1a_echoTo : Nat → Int32} {il1a_homes : Nat → Int32} {il1a_talls : Nat → Int32} {il1a_known : Nat → Int32} {iv0f_deeds : Int32} {iv0a_kinds : Nat → Int32} {iv0a_firsts : Nat → Int32} {iv0a_seconds : Nat → Int32} {iv1f_deeds : Int32} {iv1a_kinds : Nat → Int32} {iv1a_firsts : Nat → Int32} {iv1a_seconds : Nat → Int32} {is0f_facts : Int32} {is0a_heard : Nat → Int32} {is0a_huts : Nat → Int32} {is0a_minutes : Nat → Int32} {is1f_facts : Int32} {is1a_heard : Nat → Int32} {is1a_huts : Nat → Int32} {is1a_minutes : Nat → Int32} {ic0f_voices : Int32} {ic0f_step : Int32} {ic0a_parts : Nat → Int32} {ic0a_heights : Nat → Int32} {ic1f_voices : Int32} {ic1f_step : Int32} {ic1a_parts : Nat → Int32} {ic1a_heights : Nat → Int32} (zc : zC p s m args meth c cX10_image 2 RX10 (some .boolean)) (hK : zK E s) (hM : wxiW E qx qi ta_tape tf_length tf_fault tf_place ta_counts tl0f_huts tl0f_singers tl0f_villages tl0f_dams tl0f_echoes tl0f_deep tl0f_slide tl0a_heights tl0a_ladders tl0a_minutes tl0a_echoFrom tl0a_echoTo tl0a_homes tl0a_talls tl0a_known tl1f_huts tl1f_singers tl1f_villages tl1f_dams tl1f_echoes tl1f_deep tl1f_slide tl1a_heights tl1a_ladders tl1a_minutes tl1a_echoFrom tl1a_echoTo tl1a_homes tl1a_talls tl1a_known tv0f_deeds tv0a_kinds tv0a_firsts tv0a_seconds tv1f_deeds tv1a_kinds tv1a_firsts tv1a_seconds ts0f_facts ts0a_heard ts0a_huts ts0a_minutes ts1f_facts ts1a_heard ts1a_huts ts1a_minutes tc0f_voices tc0f_step tc0a_parts tc0a_heights tc1f_voices tc1f_step tc1a_parts tc1a_heights m_images rlf_huts rlf_singers rlf_villages rlf_dams rlf_echoes rlf_deep rlf_slide rla_heights rla_ladders rla_minutes rla_echoFrom rla_echoTo rla_homes rla_talls rla_known rvf_deeds rva_kinds rva_firsts rva_seconds rsf_facts rsa_heard rsa_huts rsa_minutes rcf_voices rcf_step rca_parts rca_heights rf_fault rf_faultPlace ra_numbers ra_tape rf_length rf_behind rf_kind rf_first rf_value rf_hutsToldOf rf_singersToldOf nf_minute nf_avalanches nf_begun nf_climbed nf_seed na_huts na_known na_levels na_snow na_open pa_heard pa_walked pa_total pa_longest pa_next pa_cover pa_now pa_then ko_stands ka_gaps ka_behind ba_less ba_full ia_tape if_length if_fault if_place ia_counts il0f_huts il0f_singers il0f_villages il0f_dams il0f_echoes il0f_deep il0f_slide il0a_heights il0a_ladders il0a_minutes il0a_echoFrom il0a_echoTo il0a_homes il0a_talls il0a_known il1f_huts il1f_singers il1f_villages il1f_dams il1f_echoes il1f_deep il1f_slide il1a_heights il1a_ladders il1a_minutes il1a_echoFrom il1a_echoTo il1a_homes il1a_talls il1a_known iv0f_deeds iv0a_kinds iv0a_firsts iv0a_seconds iv1f_deeds iv1a_kinds iv1a_firsts iv1a_seconds is0f_facts is0a_heard is0a_huts is0a_minutes is1f_facts is1a_heard is1a_huts is1a_minutes ic0f_voices ic0f_step ic0a_parts ic0a_heights ic1f_voices ic1f_step ic1a_parts ic1a_heights H) (hT : tG ta_tape tf_length tf_fault tf_place ta_counts tl0f_huts tl0f_singers tl0f_villages tl0f_dams tl0f_echoes tl0f_deep tl0f_slide tl0a_heights tl0a_ladders tl0a_minutes tl0a_echoFrom tl0a_echoTo tl0a_homes tl0a_talls tl0a_known tl1f_huts tl1f_singers tl1f_villages tl1f_dams tl1f_echoes tl1f_deep tl1f_slide tl1a_heights tl1a_ladders tl1a_minutes tl1a_echoFrom tl1a_echoTo tl1a_homes tl1a_talls tl1a_known tv0f_deeds tv0a_kinds tv0a_firsts tv0a_seconds tv1f_deeds tv1a_kinds tv1a_firsts tv1a_seconds ts0f_facts ts0a_heard ts0a_huts ts0a_minutes ts1f_facts ts1a_heard ts1a_huts ts1a_minutes tc0f_voices tc0f_step tc0a_parts tc0a_heights tc1f_voices tc1f_step tc1a_parts tc1a_heights) (hI : tG ia_tape if_length if_fault if_place ia_counts il0f_huts il0f_singers il0f_villages il0f_dams il0f_echoes il0f_deep il0f_slide il0a_heights il0a_ladders il0a_minutes il0a_echoFrom il0a_echoTo il0a_homes il0a_talls il0a_known il1f_huts il1f_singers il1f_villages il1f_dams il1f_echoes il1f_deep il1f_slide il1a_heights il1a_ladders il1a_minutes il1a_echoFrom il1a_echoTo il1a_homes il1a_talls il1a_known iv0f_deeds iv0a_kinds iv0a_firsts iv0a_seconds iv1f_deeds iv1a_kinds iv1a_firsts iv1a_seconds is0f_facts is0a_heard is0a_huts is0a_minutes is1f_facts is1a_heard is1a_huts is1a_minutes ic0f_voices ic0f_step ic0a_parts ic0a_heights ic1f_voices ic1f_step ic1a_parts ic1a_heights) (hin : vp_in x1 3) (hm : m_images (Int32.toNatClampNeg x1) = some qi) (hS : va_S A s.heap H locs) (hsub : ∀ q, wttA qi (qx + 1) q → A q) (hl : lv_has ls 2 [(0, .ref qx), (1, .int x1)]) :
    W p l e (rmI kc ks) s m args below meth c H locs kc ks (MQ below (zQi (S := Unit) (fun r _ => r = 1) (fun _ H => ∃ na_tape nf_length nf_fault nf_place na_counts nl0f_huts nl0f_singers nl0f_villages nl0f_dams nl0f_echoes nl0f_deep nl0f_slide nl0a_heights nl0a_ladders nl0a_minutes nl0a_echoFrom nl0a_echoTo nl0a_homes nl0a_talls nl0a_known nl1f_huts nl1f_singers nl1f_villages nl1f_dams nl1f_echoes nl1f_deep nl1f_slide nl1a_heights nl1a_ladders nl1a_minutes nl1a_echoFrom nl1a_echoTo nl1a_homes nl1a_talls nl1a_known nv0f_deeds nv0a_kinds nv0a_firsts nv0a_seconds nv1f_deeds nv1a_kinds nv1a_firsts nv1a_seconds ns0f_facts ns0a_heard ns0a_huts ns0a_minutes ns1f_facts ns1a_heard ns1a_huts ns1a_minutes nc0f_voices nc0f_step nc0a_parts nc0a_heights nc1f_voices nc1f_step nc1a_parts nc1a_heights, tG na_tape nf_length nf_fault nf_place na_counts nl0f_huts nl0f_singers nl0f_villages nl0f_dams nl0f_echoes nl0f_deep nl0f_slide nl0a_heights nl0a_ladders nl0a_minutes nl0a_echoFrom nl0a_echoTo nl0a_homes nl0a_talls nl0a_known nl1f_huts nl1f_singers nl1f_villages nl1f_dams nl1f_echoes nl1f_deep nl1f_slide nl1a_heights nl1a_ladders nl1a_minutes nl1a_echoFrom nl1a_echoTo nl1a_homes nl1a_talls nl1a_known nv0f_deeds nv0a_kinds nv0a_firsts nv0a_seconds nv1f_deeds nv1a_kinds nv1a_firsts nv1a_seconds ns0f_facts ns0a_heard ns0a_huts ns0a_minutes ns1f_facts ns1a_heard ns1a_huts ns1a_minutes nc0f_voices nc0f_step nc0a_parts nc0a_heights nc1f_voices nc1f_step nc1a_parts nc1a_heights ∧ wxiW E qx qi ta_tape tf_length tf_fault tf_place ta_counts tl0f_huts tl0f_singers tl0f_villages tl0f_dams tl0f_echoes tl0f_deep tl0f_slide tl0a_heights tl0a_ladders tl0a_minutes tl0a_echoFrom tl0a_echoTo tl0a_homes tl0a_talls tl0a_known tl1f_huts tl1f_singers tl1f_villages tl1f_dams tl1f_echoes tl1f_deep tl1f_slide tl1a_heights tl1a_ladders tl1a_minutes tl1a_echoFrom tl1a_echoTo tl1a_homes tl1a_talls tl1a_known tv0f_deeds tv0a_kinds tv0a_firsts tv0a_seconds tv1f_deeds tv1a_kinds tv1a_firsts tv1a_seconds ts0f_facts ts0a_heard ts0a_huts ts0a_minutes ts1f_facts ts1a_heard ts1a_huts ts1a_minutes tc0f_voices tc0f_step tc0a_parts tc0a_heights tc1f_voices tc1f_step tc1a_parts tc1a_heights m_images rlf_huts rlf_singers rlf_villages rlf_dams rlf_echoes rlf_deep rlf_slide rla_heights rla_ladders rla_minutes rla_echoFrom rla_echoTo rla_homes rla_talls rla_known rvf_deeds rva_kinds rva_firsts rva_seconds rsf_facts rsa_heard rsa_huts rsa_minutes rcf_voices rcf_step rca_parts rca_heights rf_fault rf_faultPlace ra_numbers ra_tape rf_length rf_behind rf_kind rf_first rf_value rf_hutsToldOf rf_singersToldOf nf_minute nf_avalanches nf_begun nf_climbed nf_seed na_huts na_known na_levels na_snow na_open pa_heard pa_walked pa_total pa_longest pa_next pa_cover pa_now pa_then ko_stands ka_gaps ka_behind ba_less ba_full na_tape nf_length nf_fault nf_place na_counts nl0f_huts nl0f_singers nl0f_villages nl0f_dams nl0f_echoes nl0f_deep nl0f_slide nl0a_heights nl0a_ladders nl0a_minutes nl0a_echoFrom nl0a_echoTo nl0a_homes nl0a_talls nl0a_known nl1f_huts nl1f_singers nl1f_villages nl1f_dams nl1f_echoes nl1f_deep nl1f_slide nl1a_heights nl1a_ladders nl1a_minutes nl1a_echoFrom nl1a_echoTo nl1a_homes nl1a_talls nl1a_known nv0f_deeds nv0a_kinds nv0a_firsts nv0a_seconds nv1f_deeds nv1a_kinds nv1a_firsts nv1a_seconds ns0f_facts ns0a_heard ns0a_huts ns0a_minutes ns1f_facts ns1a_heard ns1a_huts ns1a_minutes nc0f_voices nc0f_step nc0a_parts nc0a_heights nc1f_voices nc1f_step nc1a_parts nc1a_heights H) A) args s kc ks A) (F0 m 33 ls []) := by
  have hx := zc.1
  have hb := zc.2.1
  have hMx := xi_x hM
  refine lv_aload_n hx hb dX10_image_33 rfl (lv_at hl 0 rfl) ?_
  refine va_get (D := E.1) (ci := 10) (v := .ref (qx + 48)) (C := RX10) (T := TX10) (N := 7) hx hb zc.2.2.2.2.1 uw10 zc.2.2.2.1 hK.1 hMx 0 rfl rfl 1 (by decide) (zc.2.2.2.2.1 _ kf_10_16) (fun _ h9 => h9) rfl dX10_image_34 ?_
  refine lv_iload_n hx hb dX10_image_37 rfl (lv_at hl 1 rfl) ?_
  refine va_aldq hx hb hK.1 hMx 48 8 rfl rfl hin dX10_image_38 ?_
  rw [hm]
  refine W.eq (g2 := F0 m 39 ls (.ref qi :: [])) rfl ?_
  refine lv_aload_n hx hb dX10_image_39 rfl (lv_at hl 0 rfl) ?_
  refine va_get (D := E.1) (ci := 10) (v := .ref (qx + 1)) (C := RX10) (T := TX10) (N := 7) hx hb zc.2.2.2.2.1 uw10 zc.2.2.2.1 hK.1 hMx 0 rfl rfl 0 (by decide) (zc.2.2.2.2.1 _ kf_10_10) (fun _ h9 => h9) rfl dX10_image_40 ?_
  refine zVa_v [.ref (qx + 1)] [] zc ky_X9_copyFrom kz_X9_copyFrom km_10_323 (c_wtt_X9_copyFrom_47 l (post := fun na_tape nf_length nf_fault nf_place na_counts nl0f_huts nl0f_singers nl0f_villages nl0f_dams nl0f_echoes nl0f_deep nl0f_slide nl0a_heights nl0a_ladders nl0a_minutes nl0a_echoFrom nl0a_echoTo nl0a_homes nl0a_talls nl0a_known nl1f_huts nl1f_singers nl1f_villages nl1f_dams nl1f_echoes nl1f_deep nl1f_slide nl1a_heights nl1a_ladders nl1a_minutes nl1a_echoFrom nl1a_echoTo nl1a_homes nl1a_talls nl1a_known nv0f_deeds nv0a_kinds nv0a_firsts nv0a_seconds nv1f_deeds nv1a_kinds nv1a_firsts nv1a_seconds ns0f_facts ns0a_heard ns0a_huts ns0a_minutes ns1f_facts ns1a_heard ns1a_huts ns1a_minutes nc0f_voices nc0f_step nc0a_parts nc0a_heights nc1f_voices nc1f_step nc1a_parts nc1a_heights => tG na_tape nf_length nf_fault nf_place na_counts nl0f_huts nl0f_singers nl0f_villages nl0f_dams nl0f_echoes nl0f_deep nl0f_slide nl0a_heights nl0a_ladders nl0a_minutes nl0a_echoFrom nl0a_echoTo nl0a_homes nl0a_talls nl0a_known nl1f_huts nl1f_singers nl1f_villages nl1f_dams nl1f_echoes nl1f_deep nl1f_slide nl1a_heights nl1a_ladders nl1a_minutes nl1a_echoFrom nl1a_echoTo nl1a_homes nl1a_talls nl1a_known nv0f_deeds nv0a_kinds nv0a_firsts nv0a_seconds nv1f_deeds nv1a_kinds nv1a_firsts nv1a_seconds ns0f_facts ns0a_heard ns0a_huts ns0a_minutes ns1f_facts ns1a_heard ns1a_huts ns1a_minutes nc0f_voices nc0f_step nc0a_parts nc0a_heights nc1f_voices nc1f_step nc1a_parts nc1a_heights) (tG_copy hI hT (fun _ _ _ _ _ _ _ _ _ _ _ _ _ _ _ _ _ _ _ _ _ _ _ _ _ _ _ _ _ _ _ _ _ _ _ _ _ _ _ _ _ _ _ _ _ _ _ _ _ _ _ _ _ _ _ _ _ _ _ h => h))) (wttPreV0 hK (pj_wxi_wtt_93_1 hM)) hS hsub rfl rfl hl.1 (Nat.le_of_ble_eq_true rfl) ⟨rfl, rfl⟩ ⟨(Nat.le_of_ble_eq_true rfl), (Nat.le_of_ble_eq_true rfl)⟩ ⟨Nat.le_refl _, Nat.le_refl _⟩ dX10_image_43 (fun u H4 locs hw hB hsz hk hS => ?_)
  have hM := jn_wxi_wtt_93_1 hM hB hk
  refine lv_iconst (v := (1 : Int32)) hx hb dX10_image_46 (by decide) ?_
  exact zret_zw () zc hS rfl rfl ⟨_, _, _, _, _, _, _, _, _, _, _, _, _, _, _, _, _, _, _, _, _, _, _, _, _, _, _, _, _, _, _, _, _, _, _, _, _, _, _, _, _, _, _, _, _, _, _, _, _, _, _, _, _, _, _, _, _, _, _, hw, hM⟩ dX10_image_47
set_option maxRecDepth 40000 in
set_option maxHeartbeats 4000000 in
theorem c_image_no (l : Launch) {E : zE} {qx : Nat} {x1 : Int32} (hn : x1 < 0 ∨ ¬ x1 < 3) : Met l yX10_image (Cond.code yX10_image cX10_image 2 (some .boolean) :: zb) (rmI 0 0) (va_Pc [.ref qx, .int x1] (fun _ => True)) (vp_Si (fun r => r = 0)) 0 0 (fun _ => False) := by
  refine Met.ofW (cc := cX10_image) (maxL := 2) (ret := (some .boolean)) (by decide) rfl ?_
  intro p e s m args below meth c s₁ B hml hv
  obtain ⟨rfl, -⟩ := hv
  have zc := zc_of B hml
  have hx := zc.1
  have hb := zc.2.1
  have hl := lv_entry ([.ref qx, .int x1]) (n := 2) (Nat.le_of_ble_eq_true rfl)
  rw [lg_entry_eq]
  generalize (lg_sl ([.ref qx, .int x1]) ++ List.replicate (2 - (lg_sl ([.ref qx, .int x1])).length) Slot.unset).toArray = ls at hl ⊢
  have hl : lv_has ls 2 [(0, .ref qx), (1, .int x1)] := hl
  refine lv_iload_n hx hb dX10_image_0 rfl (lv_at hl 1 rfl) ?_
  refine lv_if_lt (tgt := 9) hx hb dX10_image_1 (by decide) (fun hc => ?_) (fun hc => ?_)
  · refine lv_iconst (v := (0 : Int32)) hx hb dX10_image_9 (by decide) ?_
    exact zret_z zc rfl rfl dX10_image_10
  refine lv_iload_n hx hb dX10_image_4 rfl (lv_at hl 1 rfl) ?_
  refine lv_iconst (v := (3 : Int32)) hx hb dX10_image_5 (by decide) ?_
  refine lv_icmp_lt (tgt := 11) hx hb dX10_image_6 (by decide) (fun hd => absurd hd (hn.resolve_left hc)) (fun hd => ?_)
  refine lv_iconst (v := (0 : Int32)) hx hb dX10_image_9 (by decide) ?_
  exact zret_z zc rfl rfl dX10_image_10
set_option maxRecDepth 40000 in
set_option maxHeartbeats 4000000 in
theorem c_image_old (l : Launch) {E : zE} {qx qi : Nat} {ta_tape : Nat → Int32} {tf_length : Int32} {tf_fault : Int32} {tf_place : Int32} {ta_counts : Nat → Int32} {tl0f_huts : Int32} {tl0f_singers : Int32} {tl0f_villages : Int32} {tl0f_dams : Int32} {tl0f_echoes : Int32} {tl0f_deep : Int32} {tl0f_slide : Int32} {tl0a_heights : Nat → Int32} {tl0a_ladders : Nat → Int32} {tl0a_minutes : Nat → Int32} {tl0a_echoFrom : Nat → Int32} {tl0a_echoTo : Nat → Int32} {tl0a_homes : Nat → Int32} {tl0a_talls : Nat → Int32} {tl0a_known : Nat → Int32} {tl1f_huts : Int32} {tl1f_singers : Int32} {tl1f_villages : Int32} {tl1f_dams : Int32} {tl1f_echoes : Int32} {tl1f_deep : Int32} {tl1f_slide : Int32} {tl1a_heights : Nat → Int32} {tl1a_ladders : Nat → Int32} {tl1a_minutes : Nat → Int32} {tl1a_echoFrom : Nat → Int32} {tl1a_echoTo : Nat → Int32} {tl1a_homes : Nat → Int32} {tl1a_talls : Nat → Int32} {tl1a_known : Nat → Int32} {tv0f_deeds : Int32} {tv0a_kinds : Nat → Int32} {tv0a_firsts : Nat → Int32} {tv0a_seconds : Nat → Int32} {tv1f_deeds : Int32} {tv1a_kinds : Nat → Int32} {tv1a_firsts : Nat → Int32} {tv1a_seconds : Nat → Int32} {ts0f_facts : Int32} {ts0a_heard : Nat → Int32} {ts0a_huts : Nat → Int32} {ts0a_minutes : Nat → Int32} {ts1f_facts : Int32} {ts1a_heard : Nat → Int32} {ts1a_huts : Nat → Int32} {ts1a_minutes : Nat → Int32} {tc0f_voices : Int32} {tc0f_step : Int32} {tc0a_parts : Nat → Int32} {tc0a_heights : Nat → Int32} {tc1f_voices : Int32} {tc1f_step : Int32} {tc1a_parts : Nat → Int32} {tc1a_heights : Nat → Int32} {m_images : Nat → Option Nat} {rlf_huts : Int32} {rlf_singers : Int32} {rlf_villages : Int32} {rlf_dams : Int32} {rlf_echoes : Int32} {rlf_deep : Int32} {rlf_slide : Int32} {rla_heights : Nat → Int32} {rla_ladders : Nat → Int32} {rla_minutes : Nat → Int32} {rla_echoFrom : Nat → Int32} {rla_echoTo : Nat → Int32} {rla_homes : Nat → Int32} {rla_talls : Nat → Int32} {rla_known : Nat → Int32} {rvf_deeds : Int32} {rva_kinds : Nat → Int32} {rva_firsts : Nat → Int32} {rva_seconds : Nat → Int32} {rsf_facts : Int32} {rsa_heard : Nat → Int32} {rsa_huts : Nat → Int32} {rsa_minutes : Nat → Int32} {rcf_voices : Int32} {rcf_step : Int32} {rca_parts : Nat → Int32} {rca_heights : Nat → Int32} {rf_fault : Int32} {rf_faultPlace : Int32} {ra_numbers : Nat → Int32} {ra_tape : Nat → Int32} {rf_length : Int32} {rf_behind : Int32} {rf_kind : Int32} {rf_first : Int32} {rf_value : Int32} {rf_hutsToldOf : Int32} {rf_singersToldOf : Int32} {nf_minute : Int32} {nf_avalanches : Int32} {nf_begun : Int32} {nf_climbed : Int32} {nf_seed : Int32} {na_huts : Nat → Int32} {na_known : Nat → Int32} {na_levels : Nat → Int32} {na_snow : Nat → Int32} {na_open : Nat → Int32} {pa_heard : Nat → Int32} {pa_walked : Nat → Int32} {pa_total : Nat → Int32} {pa_longest : Nat → Int32} {pa_next : Nat → Int32} {pa_cover : Nat → Int32} {pa_now : Nat → Int32} {pa_then : Nat → Int32} {ko_stands : Option Nat} {ka_gaps : Nat → Int32} {ka_behind : Nat → Int32} {ba_less : Nat → Int32} {ba_full : Nat → Int32} {ia_tape : Nat → Int32} {if_length : Int32} {if_fault : Int32} {if_place : Int32} {ia_counts : Nat → Int32} {il0f_huts : Int32} {il0f_singers : Int32} {il0f_villages : Int32} {il0f_dams : Int32} {il0f_echoes : Int32} {il0f_deep : Int32} {il0f_slide : Int32} {il0a_heights : Nat → Int32} {il0a_ladders : Nat → Int32} {il0a_minutes : Nat → Int32} {il0a_echoFrom : Nat → Int32} {il0a_echoTo : Nat → Int32} {il0a_homes : Nat → Int32} {il0a_talls : Nat → Int32} {il0a_known : Nat → Int32} {il1f_huts : Int32} {il1f_singers : Int32} {il1f_villages : Int32} {il1f_dams : Int32} {il1f_echoes : Int32} {il1f_deep : Int32} {il1f_slide : Int32} {il1a_heights : Nat → Int32} {il1a_ladders : Nat → Int32} {il1a_minutes : Nat → Int32} {il1a_echoFrom : Nat → Int32} {il1a_echoTo : Nat → Int32} {il1a_homes : Nat → Int32} {il1a_talls : Nat → Int32} {il1a_known : Nat → Int32} {iv0f_deeds : Int32} {iv0a_kinds : Nat → Int32} {iv0a_firsts : Nat → Int32} {iv0a_seconds : Nat → Int32} {iv1f_deeds : Int32} {iv1a_kinds : Nat → Int32} {iv1a_firsts : Nat → Int32} {iv1a_seconds : Nat → Int32} {is0f_facts : Int32} {is0a_heard : Nat → Int32} {is0a_huts : Nat → Int32} {is0a_minutes : Nat → Int32} {is1f_facts : Int32} {is1a_heard : Nat → Int32} {is1a_huts : Nat → Int32} {is1a_minutes : Nat → Int32} {ic0f_voices : Int32} {ic0f_step : Int32} {ic0a_parts : Nat → Int32} {ic0a_heights : Nat → Int32} {ic1f_voices : Int32} {ic1f_step : Int32} {ic1a_parts : Nat → Int32} {ic1a_heights : Nat → Int32} {x1 : Int32} (hr : ¬ x1 < 0 ∧ x1 < 3) (hm : m_images (Int32.toNatClampNeg x1) = some qi) (hT : tG ta_tape tf_length tf_fault tf_place ta_counts tl0f_huts tl0f_singers tl0f_villages tl0f_dams tl0f_echoes tl0f_deep tl0f_slide tl0a_heights tl0a_ladders tl0a_minutes tl0a_echoFrom tl0a_echoTo tl0a_homes tl0a_talls tl0a_known tl1f_huts tl1f_singers tl1f_villages tl1f_dams tl1f_echoes tl1f_deep tl1f_slide tl1a_heights tl1a_ladders tl1a_minutes tl1a_echoFrom tl1a_echoTo tl1a_homes tl1a_talls tl1a_known tv0f_deeds tv0a_kinds tv0a_firsts tv0a_seconds tv1f_deeds tv1a_kinds tv1a_firsts tv1a_seconds ts0f_facts ts0a_heard ts0a_huts ts0a_minutes ts1f_facts ts1a_heard ts1a_huts ts1a_minutes tc0f_voices tc0f_step tc0a_parts tc0a_heights tc1f_voices tc1f_step tc1a_parts tc1a_heights) (hI : tG ia_tape if_length if_fault if_place ia_counts il0f_huts il0f_singers il0f_villages il0f_dams il0f_echoes il0f_deep il0f_slide il0a_heights il0a_ladders il0a_minutes il0a_echoFrom il0a_echoTo il0a_homes il0a_talls il0a_known il1f_huts il1f_singers il1f_villages il1f_dams il1f_echoes il1f_deep il1f_slide il1a_heights il1a_ladders il1a_minutes il1a_echoFrom il1a_echoTo il1a_homes il1a_talls il1a_known iv0f_deeds iv0a_kinds iv0a_firsts iv0a_seconds iv1f_deeds iv1a_kinds iv1a_firsts iv1a_seconds is0f_facts is0a_heard is0a_huts is0a_minutes is1f_facts is1a_heard is1a_huts is1a_minutes ic0f_voices ic0f_step ic0a_parts ic0a_heights ic1f_voices ic1f_step ic1a_parts ic1a_heights) : Met l yX10_image (Cond.code yX10_image cX10_image 2 (some .boolean) :: zb) (rmI 0 0) (va_Pc [.ref qx, .int x1] (fun U => wxiW E qx qi ta_tape tf_length tf_fault tf_place ta_counts tl0f_huts tl0f_singers tl0f_villages tl0f_dams tl0f_echoes tl0f_deep tl0f_slide tl0a_heights tl0a_ladders tl0a_minutes tl0a_echoFrom tl0a_echoTo tl0a_homes tl0a_talls tl0a_known tl1f_huts tl1f_singers tl1f_villages tl1f_dams tl1f_echoes tl1f_deep tl1f_slide tl1a_heights tl1a_ladders tl1a_minutes tl1a_echoFrom tl1a_echoTo tl1a_homes tl1a_talls tl1a_known tv0f_deeds tv0a_kinds tv0a_firsts tv0a_seconds tv1f_deeds tv1a_kinds tv1a_firsts tv1a_seconds ts0f_facts ts0a_heard ts0a_huts ts0a_minutes ts1f_facts ts1a_heard ts1a_huts ts1a_minutes tc0f_voices tc0f_step tc0a_parts tc0a_heights tc1f_voices tc1f_step tc1a_parts tc1a_heights m_images rlf_huts rlf_singers rlf_villages rlf_dams rlf_echoes rlf_deep rlf_slide rla_heights rla_ladders rla_minutes rla_echoFrom rla_echoTo rla_homes rla_talls rla_known rvf_deeds rva_kinds rva_firsts rva_seconds rsf_facts rsa_heard rsa_huts rsa_minutes rcf_voices rcf_step rca_parts rca_heights rf_fault rf_faultPlace ra_numbers ra_tape rf_length rf_behind rf_kind rf_first rf_value rf_hutsToldOf rf_singersToldOf nf_minute nf_avalanches nf_begun nf_climbed nf_seed na_huts na_known na_levels na_snow na_open pa_heard pa_walked pa_total pa_longest pa_next pa_cover pa_now pa_then ko_stands ka_gaps ka_behind ba_less ba_full ia_tape if_length if_fault if_place ia_counts il0f_huts il0f_singers il0f_villages il0f_dams il0f_echoes il0f_deep il0f_slide il0a_heights il0a_ladders il0a_minutes il0a_echoFrom il0a_echoTo il0a_homes il0a_talls il0a_known il1f_huts il1f_singers il1f_villages il1f_dams il1f_echoes il1f_deep il1f_slide il1a_heights il1a_ladders il1a_minutes il1a_echoFrom il1a_echoTo il1a_homes il1a_talls il1a_known iv0f_deeds iv0a_kinds iv0a_firsts iv0a_seconds iv1f_deeds iv1a_kinds iv1a_firsts iv1a_seconds is0f_facts is0a_heard is0a_huts is0a_minutes is1f_facts is1a_heard is1a_huts is1a_minutes ic0f_voices ic0f_step ic0a_parts ic0a_heights ic1f_voices ic1f_step ic1a_parts ic1a_heights U.heap ∧ zK E U)) (zQi (S := Unit) (fun r _ => r = 1) (fun _ H => ∃ na_tape nf_length nf_fault nf_place na_counts nl0f_huts nl0f_singers nl0f_villages nl0f_dams nl0f_echoes nl0f_deep nl0f_slide nl0a_heights nl0a_ladders nl0a_minutes nl0a_echoFrom nl0a_echoTo nl0a_homes nl0a_talls nl0a_known nl1f_huts nl1f_singers nl1f_villages nl1f_dams nl1f_echoes nl1f_deep nl1f_slide nl1a_heights nl1a_ladders nl1a_minutes nl1a_echoFrom nl1a_echoTo nl1a_homes nl1a_talls nl1a_known nv0f_deeds nv0a_kinds nv0a_firsts nv0a_seconds nv1f_deeds nv1a_kinds nv1a_firsts nv1a_seconds ns0f_facts ns0a_heard ns0a_huts ns0a_minutes ns1f_facts ns1a_heard ns1a_huts ns1a_minutes nc0f_voices nc0f_step nc0a_parts nc0a_heights nc1f_voices nc1f_step nc1a_parts nc1a_heights, tG na_tape nf_length nf_fault nf_place na_counts nl0f_huts nl0f_singers nl0f_villages nl0f_dams nl0f_echoes nl0f_deep nl0f_slide nl0a_heights nl0a_ladders nl0a_minutes nl0a_echoFrom nl0a_echoTo nl0a_homes nl0a_talls nl0a_known nl1f_huts nl1f_singers nl1f_villages nl1f_dams nl1f_echoes nl1f_deep nl1f_slide nl1a_heights nl1a_ladders nl1a_minutes nl1a_echoFrom nl1a_echoTo nl1a_homes nl1a_talls nl1a_known nv0f_deeds nv0a_kinds nv0a_firsts nv0a_seconds nv1f_deeds nv1a_kinds nv1a_firsts nv1a_seconds ns0f_facts ns0a_heard ns0a_huts ns0a_minutes ns1f_facts ns1a_heard ns1a_huts ns1a_minutes nc0f_voices nc0f_step nc0a_parts nc0a_heights nc1f_voices nc1f_step nc1a_parts nc1a_heights ∧ wxiW E qx qi ta_tape tf_length tf_fault tf_place ta_counts tl0f_huts tl0f_singers tl0f_villages tl0f_dams tl0f_echoes tl0f_deep tl0f_slide tl0a_heights tl0a_ladders tl0a_minutes tl0a_echoFrom tl0a_echoTo tl0a_homes tl0a_talls tl0a_known tl1f_huts tl1f_singers tl1f_villages tl1f_dams tl1f_echoes tl1f_deep tl1f_slide tl1a_heights tl1a_ladders tl1a_minutes tl1a_echoFrom tl1a_echoTo tl1a_homes tl1a_talls tl1a_known tv0f_deeds tv0a_kinds tv0a_firsts tv0a_seconds tv1f_deeds tv1a_kinds tv1a_firsts tv1a_seconds ts0f_facts ts0a_heard ts0a_huts ts0a_minutes ts1f_facts ts1a_heard ts1a_huts ts1a_minutes tc0f_voices tc0f_step tc0a_parts tc0a_heights tc1f_voices tc1f_step tc1a_parts tc1a_heights m_images rlf_huts rlf_singers rlf_villages rlf_dams rlf_echoes rlf_deep rlf_slide rla_heights rla_ladders rla_minutes rla_echoFrom rla_echoTo rla_homes rla_talls rla_known rvf_deeds rva_kinds rva_firsts rva_seconds rsf_facts rsa_heard rsa_huts rsa_minutes rcf_voices rcf_step rca_parts rca_heights rf_fault rf_faultPlace ra_numbers ra_tape rf_length rf_behind rf_kind rf_first rf_value rf_hutsToldOf rf_singersToldOf nf_minute nf_avalanches nf_begun nf_climbed nf_seed na_huts na_known na_levels na_snow na_open pa_heard pa_walked pa_total pa_longest pa_next pa_cover pa_now pa_then ko_stands ka_gaps ka_behind ba_less ba_full na_tape nf_length nf_fault nf_place na_counts nl0f_huts nl0f_singers nl0f_villages nl0f_dams nl0f_echoes nl0f_deep nl0f_slide nl0a_heights nl0a_ladders nl0a_minutes nl0a_echoFrom nl0a_echoTo nl0a_homes nl0a_talls nl0a_known nl1f_huts nl1f_singers nl1f_villages nl1f_dams nl1f_echoes nl1f_deep nl1f_slide nl1a_heights nl1a_ladders nl1a_minutes nl1a_echoFrom nl1a_echoTo nl1a_homes nl1a_talls nl1a_known nv0f_deeds nv0a_kinds nv0a_firsts nv0a_seconds nv1f_deeds nv1a_kinds nv1a_firsts nv1a_seconds ns0f_facts ns0a_heard ns0a_huts ns0a_minutes ns1f_facts ns1a_heard ns1a_huts ns1a_minutes nc0f_voices nc0f_step nc0a_parts nc0a_heights nc1f_voices nc1f_step nc1a_parts nc1a_heights H) (wttA qi (qx + 1))) 0 0 (wttA qi (qx + 1)) := by
  refine Met.ofW (cc := cX10_image) (maxL := 2) (ret := (some .boolean)) (by decide) rfl ?_
  intro p e s m args below meth c s₁ B hml hv
  obtain ⟨rfl, hM, hK⟩ := hv
  have zc := zc_of B hml
  have hx := zc.1
  have hb := zc.2.1
  have hl := lv_entry ([.ref qx, .int x1]) (n := 2) (Nat.le_of_ble_eq_true rfl)
  rw [lg_entry_eq]
  generalize (lg_sl ([.ref qx, .int x1]) ++ List.replicate (2 - (lg_sl ([.ref qx, .int x1])).length) Slot.unset).toArray = ls at hl ⊢
  have hl : lv_has ls 2 [(0, .ref qx), (1, .int x1)] := hl
  have hMx := xi_x hM
  have hin : vp_in x1 3 := iv_in (iv_lta (l := 0) (h := 2) (r_lt hr.2) (iv_leb (l := 0) (h := 2147483647) (r_nlt hr.1) (iv_lit (x := 0) (l := 0) (h := 0) (by decide)) (iv_top x1) (by decide)) (iv_lit (x := 3) (l := 3) (h := 3) (by decide)) (by decide)) (by decide)
  refine lv_iload_n hx hb dX10_image_0 rfl (lv_at hl 1 rfl) ?_
  refine lv_if_lt (tgt := 9) hx hb dX10_image_1 (by decide) (fun hc => absurd hc hr.1) (fun hc => ?_)
  refine lv_iload_n hx hb dX10_image_4 rfl (lv_at hl 1 rfl) ?_
  refine lv_iconst (v := (3 : Int32)) hx hb dX10_image_5 (by decide) ?_
  refine lv_icmp_lt (tgt := 11) hx hb dX10_image_6 (by decide) (fun hd => ?_) (fun hd => absurd hr.2 hd)
  refine lv_aload_n hx hb dX10_image_11 rfl (lv_at hl 0 rfl) ?_
  refine va_get (D := E.1) (ci := 10) (v := .ref (qx + 48)) (C := RX10) (T := TX10) (N := 7) hx hb zc.2.2.2.2.1 uw10 zc.2.2.2.1 hK.1 hMx 0 rfl rfl 1 (by decide) (zc.2.2.2.2.1 _ kf_10_16) (fun _ h9 => h9) rfl dX10_image_12 ?_
  refine lv_iload_n hx hb dX10_image_15 rfl (lv_at hl 1 rfl) ?_
  refine va_aldq hx hb hK.1 hMx 48 8 rfl rfl hin dX10_image_16 ?_
  rw [hm]
  refine W.eq (g2 := F0 m 17 ls (.ref qi :: [])) rfl ?_
  refine lv_ifnonnull (tgt := 33) hx hb dX10_image_17 (by decide) ?_
  exact im_tail zc hK hM hT hI hin hm va_S.rf (fun _ h => h) hl
set_option maxRecDepth 40000 in
theorem tG_0 : tG (fun _ => 0) 0 0 (-1) (fun _ => 0) 0 0 0 0 0 2 5 (fun _ => 0) (fun _ => 0) (fun _ => 0) (fun _ => 0) (fun _ => 0) (fun _ => 0) (fun _ => 0) (fun _ => 0) 0 0 0 0 0 2 5 (fun _ => 0) (fun _ => 0) (fun _ => 0) (fun _ => 0) (fun _ => 0) (fun _ => 0) (fun _ => 0) (fun _ => 0) 0 (fun _ => 0) (fun _ => 0) (fun _ => 0) 0 (fun _ => 0) (fun _ => 0) (fun _ => 0) 0 (fun _ => 0) (fun _ => 0) (fun _ => 0) 0 (fun _ => 0) (fun _ => 0) (fun _ => 0) 0 0 (fun _ => 0) (fun _ => 0) 0 0 (fun _ => 0) (fun _ => 0) := by unfold tG; refine ⟨fun _ => iv_lit (x := 0) (by decide), ⟨by decide, by decide⟩, ⟨by decide, by decide⟩, ⟨by decide, by decide⟩, fun _ => iv_lit (x := 0) (by decide), ⟨by decide, by decide⟩, ⟨by decide, by decide⟩, ⟨by decide, by decide⟩, ⟨by decide, by decide⟩, ⟨by decide, by decide⟩, ⟨by decide, by decide⟩, ⟨by decide, by decide⟩, fun _ => iv_lit (x := 0) (by decide), fun _ => iv_lit (x := 0) (by decide), fun _ => iv_lit (x := 0) (by decide), fun _ => iv_lit (x := 0) (by decide), fun _ => iv_lit (x := 0) (by decide), fun _ => iv_lit (x := 0) (by decide), fun _ => iv_lit (x := 0) (by decide), fun _ => iv_lit (x := 0) (by decide), ⟨by decide, by decide⟩, ⟨by decide, by decide⟩, ⟨by decide, by decide⟩, ⟨by decide, by decide⟩, ⟨by decide, by decide⟩, ⟨by decide, by decide⟩, ⟨by decide, by decide⟩, fun _ => iv_lit (x := 0) (by decide), fun _ => iv_lit (x := 0) (by decide), fun _ => iv_lit (x := 0) (by decide), fun _ => iv_lit (x := 0) (by decide), fun _ => iv_lit (x := 0) (by decide), fun _ => iv_lit (x := 0) (by decide), fun _ => iv_lit (x := 0) (by decide), fun _ => iv_lit (x := 0) (by decide), ⟨by decide, by decide⟩, fun _ => iv_lit (x := 0) (by decide), fun _ => iv_lit (x := 0) (by decide), fun _ => iv_lit (x := 0) (by decide), ⟨by decide, by decide⟩, fun _ => iv_lit (x := 0) (by decide), fun _ => iv_lit (x := 0) (by decide), fun _ => iv_lit (x := 0) (by decide), ⟨by decide, by decide⟩, fun _ => iv_lit (x := 0) (by decide), fun _ => iv_lit (x := 0) (by decide), fun _ => iv_lit (x := 0) (by decide), ⟨by decide, by decide⟩, fun _ => iv_lit (x := 0) (by decide), fun _ => iv_lit (x := 0) (by decide), fun _ => iv_lit (x := 0) (by decide), ⟨by decide, by decide⟩, ⟨by decide, by decide⟩, fun _ => iv_lit (x := 0) (by decide), fun _ => iv_lit (x := 0) (by decide), ⟨by decide, by decide⟩, ⟨by decide, by decide⟩, fun _ => iv_lit (x := 0) (by decide), fun _ => iv_lit (x := 0) (by decide)⟩
set_option maxRecDepth 40000 in
set_option maxHeartbeats 4000000 in
theorem wt_0 {E : zE} {h : Nat} {H : Heap} (g9 : va_P E.1 zcl (zb_X9_init E h) H) : wtW E h (fun _ => 0) 0 0 (-1) (fun _ => 0) 0 0 0 0 0 2 5 (fun _ => 0) (fun _ => 0) (fun _ => 0) (fun _ => 0) (fun _ => 0) (fun _ => 0) (fun _ => 0) (fun _ => 0) 0 0 0 0 0 2 5 (fun _ => 0) (fun _ => 0) (fun _ => 0) (fun _ => 0) (fun _ => 0) (fun _ => 0) (fun _ => 0) (fun _ => 0) 0 (fun _ => 0) (fun _ => 0) (fun _ => 0) 0 (fun _ => 0) (fun _ => 0) (fun _ => 0) 0 (fun _ => 0) (fun _ => 0) (fun _ => 0) 0 (fun _ => 0) (fun _ => 0) (fun _ => 0) 0 0 (fun _ => 0) (fun _ => 0) 0 0 (fun _ => 0) (fun _ => 0) H := g9
set_option maxRecDepth 40000 in
set_option maxHeartbeats 4000000 in
theorem c_image_new (l : Launch) {E : zE} {qx h : Nat} {ta_tape : Nat → Int32} {tf_length : Int32} {tf_fault : Int32} {tf_place : Int32} {ta_counts : Nat → Int32} {tl0f_huts : Int32} {tl0f_singers : Int32} {tl0f_villages : Int32} {tl0f_dams : Int32} {tl0f_echoes : Int32} {tl0f_deep : Int32} {tl0f_slide : Int32} {tl0a_heights : Nat → Int32} {tl0a_ladders : Nat → Int32} {tl0a_minutes : Nat → Int32} {tl0a_echoFrom : Nat → Int32} {tl0a_echoTo : Nat → Int32} {tl0a_homes : Nat → Int32} {tl0a_talls : Nat → Int32} {tl0a_known : Nat → Int32} {tl1f_huts : Int32} {tl1f_singers : Int32} {tl1f_villages : Int32} {tl1f_dams : Int32} {tl1f_echoes : Int32} {tl1f_deep : Int32} {tl1f_slide : Int32} {tl1a_heights : Nat → Int32} {tl1a_ladders : Nat → Int32} {tl1a_minutes : Nat → Int32} {tl1a_echoFrom : Nat → Int32} {tl1a_echoTo : Nat → Int32} {tl1a_homes : Nat → Int32} {tl1a_talls : Nat → Int32} {tl1a_known : Nat → Int32} {tv0f_deeds : Int32} {tv0a_kinds : Nat → Int32} {tv0a_firsts : Nat → Int32} {tv0a_seconds : Nat → Int32} {tv1f_deeds : Int32} {tv1a_kinds : Nat → Int32} {tv1a_firsts : Nat → Int32} {tv1a_seconds : Nat → Int32} {ts0f_facts : Int32} {ts0a_heard : Nat → Int32} {ts0a_huts : Nat → Int32} {ts0a_minutes : Nat → Int32} {ts1f_facts : Int32} {ts1a_heard : Nat → Int32} {ts1a_huts : Nat → Int32} {ts1a_minutes : Nat → Int32} {tc0f_voices : Int32} {tc0f_step : Int32} {tc0a_parts : Nat → Int32} {tc0a_heights : Nat → Int32} {tc1f_voices : Int32} {tc1f_step : Int32} {tc1a_parts : Nat → Int32} {tc1a_heights : Nat → Int32} {m_images : Nat → Option Nat} {rlf_huts : Int32} {rlf_singers : Int32} {rlf_villages : Int32} {rlf_dams : Int32} {rlf_echoes : Int32} {rlf_deep : Int32} {rlf_slide : Int32} {rla_heights : Nat → Int32} {rla_ladders : Nat → Int32} {rla_minutes : Nat → Int32} {rla_echoFrom : Nat → Int32} {rla_echoTo : Nat → Int32} {rla_homes : Nat → Int32} {rla_talls : Nat → Int32} {rla_known : Nat → Int32} {rvf_deeds : Int32} {rva_kinds : Nat → Int32} {rva_firsts : Nat → Int32} {rva_seconds : Nat → Int32} {rsf_facts : Int32} {rsa_heard : Nat → Int32} {rsa_huts : Nat → Int32} {rsa_minutes : Nat → Int32} {rcf_voices : Int32} {rcf_step : Int32} {rca_parts : Nat → Int32} {rca_heights : Nat → Int32} {rf_fault : Int32} {rf_faultPlace : Int32} {ra_numbers : Nat → Int32} {ra_tape : Nat → Int32} {rf_length : Int32} {rf_behind : Int32} {rf_kind : Int32} {rf_first : Int32} {rf_value : Int32} {rf_hutsToldOf : Int32} {rf_singersToldOf : Int32} {nf_minute : Int32} {nf_avalanches : Int32} {nf_begun : Int32} {nf_climbed : Int32} {nf_seed : Int32} {na_huts : Nat → Int32} {na_known : Nat → Int32} {na_levels : Nat → Int32} {na_snow : Nat → Int32} {na_open : Nat → Int32} {pa_heard : Nat → Int32} {pa_walked : Nat → Int32} {pa_total : Nat → Int32} {pa_longest : Nat → Int32} {pa_next : Nat → Int32} {pa_cover : Nat → Int32} {pa_now : Nat → Int32} {pa_then : Nat → Int32} {ko_stands : Option Nat} {ka_gaps : Nat → Int32} {ka_behind : Nat → Int32} {ba_less : Nat → Int32} {ba_full : Nat → Int32} {x1 : Int32} (hr : ¬ x1 < 0 ∧ x1 < 3) (hm : m_images (Int32.toNatClampNeg x1) = none) (hT : tG ta_tape tf_length tf_fault tf_place ta_counts tl0f_huts tl0f_singers tl0f_villages tl0f_dams tl0f_echoes tl0f_deep tl0f_slide tl0a_heights tl0a_ladders tl0a_minutes tl0a_echoFrom tl0a_echoTo tl0a_homes tl0a_talls tl0a_known tl1f_huts tl1f_singers tl1f_villages tl1f_dams tl1f_echoes tl1f_deep tl1f_slide tl1a_heights tl1a_ladders tl1a_minutes tl1a_echoFrom tl1a_echoTo tl1a_homes tl1a_talls tl1a_known tv0f_deeds tv0a_kinds tv0a_firsts tv0a_seconds tv1f_deeds tv1a_kinds tv1a_firsts tv1a_seconds ts0f_facts ts0a_heard ts0a_huts ts0a_minutes ts1f_facts ts1a_heard ts1a_huts ts1a_minutes tc0f_voices tc0f_step tc0a_parts tc0a_heights tc1f_voices tc1f_step tc1a_parts tc1a_heights) : Met l yX10_image (Cond.code yX10_image cX10_image 2 (some .boolean) :: zb) (rmI 47 1261) (va_Pc [.ref qx, .int x1] (fun U => (U.heap.size = h ∧ qx + 93 ≤ h) ∧ wxW E qx ta_tape tf_length tf_fault tf_place ta_counts tl0f_huts tl0f_singers tl0f_villages tl0f_dams tl0f_echoes tl0f_deep tl0f_slide tl0a_heights tl0a_ladders tl0a_minutes tl0a_echoFrom tl0a_echoTo tl0a_homes tl0a_talls tl0a_known tl1f_huts tl1f_singers tl1f_villages tl1f_dams tl1f_echoes tl1f_deep tl1f_slide tl1a_heights tl1a_ladders tl1a_minutes tl1a_echoFrom tl1a_echoTo tl1a_homes tl1a_talls tl1a_known tv0f_deeds tv0a_kinds tv0a_firsts tv0a_seconds tv1f_deeds tv1a_kinds tv1a_firsts tv1a_seconds ts0f_facts ts0a_heard ts0a_huts ts0a_minutes ts1f_facts ts1a_heard ts1a_huts ts1a_minutes tc0f_voices tc0f_step tc0a_parts tc0a_heights tc1f_voices tc1f_step tc1a_parts tc1a_heights m_images rlf_huts rlf_singers rlf_villages rlf_dams rlf_echoes rlf_deep rlf_slide rla_heights rla_ladders rla_minutes rla_echoFrom rla_echoTo rla_homes rla_talls rla_known rvf_deeds rva_kinds rva_firsts rva_seconds rsf_facts rsa_heard rsa_huts rsa_minutes rcf_voices rcf_step rca_parts rca_heights rf_fault rf_faultPlace ra_numbers ra_tape rf_length rf_behind rf_kind rf_first rf_value rf_hutsToldOf rf_singersToldOf nf_minute nf_avalanches nf_begun nf_climbed nf_seed na_huts na_known na_levels na_snow na_open pa_heard pa_walked pa_total pa_longest pa_next pa_cover pa_now pa_then ko_stands ka_gaps ka_behind ba_less ba_full U.heap ∧ zK E U ∧ zO U)) (zQi (S := Unit) (fun r _ => r = 1) (fun _ H => ∃ na_tape nf_length nf_fault nf_place na_counts nl0f_huts nl0f_singers nl0f_villages nl0f_dams nl0f_echoes nl0f_deep nl0f_slide nl0a_heights nl0a_ladders nl0a_minutes nl0a_echoFrom nl0a_echoTo nl0a_homes nl0a_talls nl0a_known nl1f_huts nl1f_singers nl1f_villages nl1f_dams nl1f_echoes nl1f_deep nl1f_slide nl1a_heights nl1a_ladders nl1a_minutes nl1a_echoFrom nl1a_echoTo nl1a_homes nl1a_talls nl1a_known nv0f_deeds nv0a_kinds nv0a_firsts nv0a_seconds nv1f_deeds nv1a_kinds nv1a_firsts nv1a_seconds ns0f_facts ns0a_heard ns0a_huts ns0a_minutes ns1f_facts ns1a_heard ns1a_huts ns1a_minutes nc0f_voices nc0f_step nc0a_parts nc0a_heights nc1f_voices nc1f_step nc1a_parts nc1a_heights, tG na_tape nf_length nf_fault nf_place na_counts nl0f_huts nl0f_singers nl0f_villages nl0f_dams nl0f_echoes nl0f_deep nl0f_slide nl0a_heights nl0a_ladders nl0a_minutes nl0a_echoFrom nl0a_echoTo nl0a_homes nl0a_talls nl0a_known nl1f_huts nl1f_singers nl1f_villages nl1f_dams nl1f_echoes nl1f_deep nl1f_slide nl1a_heights nl1a_ladders nl1a_minutes nl1a_echoFrom nl1a_echoTo nl1a_homes nl1a_talls nl1a_known nv0f_deeds nv0a_kinds nv0a_firsts nv0a_seconds nv1f_deeds nv1a_kinds nv1a_firsts nv1a_seconds ns0f_facts ns0a_heard ns0a_huts ns0a_minutes ns1f_facts ns1a_heard ns1a_huts ns1a_minutes nc0f_voices nc0f_step nc0a_parts nc0a_heights nc1f_voices nc1f_step nc1a_parts nc1a_heights ∧ wxiW E qx h ta_tape tf_length tf_fault tf_place ta_counts tl0f_huts tl0f_singers tl0f_villages tl0f_dams tl0f_echoes tl0f_deep tl0f_slide tl0a_heights tl0a_ladders tl0a_minutes tl0a_echoFrom tl0a_echoTo tl0a_homes tl0a_talls tl0a_known tl1f_huts tl1f_singers tl1f_villages tl1f_dams tl1f_echoes tl1f_deep tl1f_slide tl1a_heights tl1a_ladders tl1a_minutes tl1a_echoFrom tl1a_echoTo tl1a_homes tl1a_talls tl1a_known tv0f_deeds tv0a_kinds tv0a_firsts tv0a_seconds tv1f_deeds tv1a_kinds tv1a_firsts tv1a_seconds ts0f_facts ts0a_heard ts0a_huts ts0a_minutes ts1f_facts ts1a_heard ts1a_huts ts1a_minutes tc0f_voices tc0f_step tc0a_parts tc0a_heights tc1f_voices tc1f_step tc1a_parts tc1a_heights (va_up m_images (Int32.toNatClampNeg x1) (some h)) rlf_huts rlf_singers rlf_villages rlf_dams rlf_echoes rlf_deep rlf_slide rla_heights rla_ladders rla_minutes rla_echoFrom rla_echoTo rla_homes rla_talls rla_known rvf_deeds rva_kinds rva_firsts rva_seconds rsf_facts rsa_heard rsa_huts rsa_minutes rcf_voices rcf_step rca_parts rca_heights rf_fault rf_faultPlace ra_numbers ra_tape rf_length rf_behind rf_kind rf_first rf_value rf_hutsToldOf rf_singersToldOf nf_minute nf_avalanches nf_begun nf_climbed nf_seed na_huts na_known na_levels na_snow na_open pa_heard pa_walked pa_total pa_longest pa_next pa_cover pa_now pa_then ko_stands ka_gaps ka_behind ba_less ba_full na_tape nf_length nf_fault nf_place na_counts nl0f_huts nl0f_singers nl0f_villages nl0f_dams nl0f_echoes nl0f_deep nl0f_slide nl0a_heights nl0a_ladders nl0a_minutes nl0a_echoFrom nl0a_echoTo nl0a_homes nl0a_talls nl0a_known nl1f_huts nl1f_singers nl1f_villages nl1f_dams nl1f_echoes nl1f_deep nl1f_slide nl1a_heights nl1a_ladders nl1a_minutes nl1a_echoFrom nl1a_echoTo nl1a_homes nl1a_talls nl1a_known nv0f_deeds nv0a_kinds nv0a_firsts nv0a_seconds nv1f_deeds nv1a_kinds nv1a_firsts nv1a_seconds ns0f_facts ns0a_heard ns0a_huts ns0a_minutes ns1f_facts ns1a_heard ns1a_huts ns1a_minutes nc0f_voices nc0f_step nc0a_parts nc0a_heights nc1f_voices nc1f_step nc1a_parts nc1a_heights H) (zImA qx h)) 47 1261 (zImA qx h) := by
  refine Met.ofW (cc := cX10_image) (maxL := 2) (ret := (some .boolean)) (by decide) rfl ?_
  intro p e s m args below meth c s₁ B hml hv
  obtain ⟨rfl, ⟨hsz, hqh⟩, hMx, hK, hO⟩ := hv
  have zc := zc_of B hml
  have hx := zc.1
  have hb := zc.2.1
  have hl := lv_entry ([.ref qx, .int x1]) (n := 2) (Nat.le_of_ble_eq_true rfl)
  rw [lg_entry_eq]
  generalize (lg_sl ([.ref qx, .int x1]) ++ List.replicate (2 - (lg_sl ([.ref qx, .int x1])).length) Slot.unset).toArray = ls at hl ⊢
  have hl : lv_has ls 2 [(0, .ref qx), (1, .int x1)] := hl
  have hS : va_S (zImA qx h) s.heap s.heap [] := va_S.rf
  have hin : vp_in x1 3 := iv_in (iv_lta (l := 0) (h := 2) (r_lt hr.2) (iv_leb (l := 0) (h := 2147483647) (r_nlt hr.1) (iv_lit (x := 0) (l := 0) (h := 0) (by decide)) (iv_top x1) (by decide)) (iv_lit (x := 3) (l := 3) (h := 3) (by decide)) (by decide)) (by decide)
  refine lv_iload_n hx hb dX10_image_0 rfl (lv_at hl 1 rfl) ?_
  refine lv_if_lt (tgt := 9) hx hb dX10_image_1 (by decide) (fun hc => absurd hc hr.1) (fun hc => ?_)
  refine lv_iload_n hx hb dX10_image_4 rfl (lv_at hl 1 rfl) ?_
  refine lv_iconst (v := (3 : Int32)) hx hb dX10_image_5 (by decide) ?_
  refine lv_icmp_lt (tgt := 11) hx hb dX10_image_6 (by decide) (fun hd => ?_) (fun hd => absurd hr.2 hd)
  refine lv_aload_n hx hb dX10_image_11 rfl (lv_at hl 0 rfl) ?_
  refine va_get (D := E.1) (ci := 10) (v := .ref (qx + 48)) (C := RX10) (T := TX10) (N := 7) hx hb zc.2.2.2.2.1 uw10 zc.2.2.2.1 hK.1 hMx 0 rfl rfl 1 (by decide) (zc.2.2.2.2.1 _ kf_10_16) (fun _ h9 => h9) rfl dX10_image_12 ?_
  refine lv_iload_n hx hb dX10_image_15 rfl (lv_at hl 1 rfl) ?_
  refine va_aldq hx hb hK.1 hMx 48 8 rfl rfl hin dX10_image_16 ?_
  rw [hm]
  refine W.eq (g2 := F0 m 17 ls (.null :: [])) rfl ?_
  refine lv_ifnonnullN hx hb dX10_image_17 ?_
  refine lv_aload_n hx hb dX10_image_20 rfl (lv_at hl 0 rfl) ?_
  refine va_get (D := E.1) (ci := 10) (v := .ref (qx + 48)) (C := RX10) (T := TX10) (N := 7) hx hb zc.2.2.2.2.1 uw10 zc.2.2.2.1 hK.1 hMx 0 rfl rfl 1 (by decide) (zc.2.2.2.2.1 _ kf_10_16) (fun _ h9 => h9) rfl dX10_image_21 ?_
  refine lv_iload_n hx hb dX10_image_24 rfl (lv_at hl 1 rfl) ?_
  refine zNew (ws := []) (C := RX9) (T := TX9) (N := 9) (ci := 9) zc hK (fun k q h => by simp at h) hS hsz uw9 tyX9 tyX9_ok kcl_10_7 kins_9 kinit_9 rfl [.null, .int 0, .int 0, .int 0, .null, .null, .null, .null, .null] (fun j hj => match j, hj with | 0, _ => rfl | 1, _ => rfl | 2, _ => rfl | 3, _ => rfl | 4, _ => rfl | 5, _ => rfl | 6, _ => rfl | 7, _ => rfl | 8, _ => rfl | j + 9, hj => absurd hj (by omega)) (Nat.le_of_ble_eq_true rfl) (Nat.le_of_ble_eq_true rfl) dX10_image_25 (fun H1 hN o1 hz1 hS => ?_)
  have hMx := wx_kp hMx (fun z _ _ h3 => o1 z (Nat.lt_of_lt_of_le h3 hqh))
  have g9 : va_P E.1 zcl [(h, .inr (9, [.null, .int 0, .int 0, .int 0, .null, .null, .null, .null, .null]))] H1 := hN
  refine W.cs (cells' := 1) (slots' := 9) rfl rfl ?_
  refine lv_dup hx hb dX10_image_28 rfl ?_
  refine zIc zc ky_X9_init kz_X9_init rfl km_10_9 (ci_X9_init l) (zIpre hK hO g9 hz1) hS (fun q (hq : h ≤ q) => Or.inr hq) hl.1 (Nat.le_of_ble_eq_true rfl) ⟨rfl, rfl⟩ ⟨(Nat.le_of_ble_eq_true rfl), (Nat.le_of_ble_eq_true rfl)⟩ ⟨(Nat.le_of_ble_eq_true rfl), (Nat.le_of_ble_eq_true rfl)⟩ dX10_image_29 (fun _ H2 locs _ hJ hk hS => ?_)
  have hMx := wx_kp hMx (fun z h1 _ h3 => hk z h1 (fun (hq : h ≤ z) => absurd (Nat.lt_of_lt_of_le h3 hqh) (Nat.not_lt.mpr hq)))
  have g9 := hJ.1
  refine W.cs (cells' := 47) (slots' := 1261) rfl rfl ?_
  refine zAast (t := 8) (r := (RX9, TX9, 9)) zc hK hMx ((wxD E qx ta_tape tf_length tf_fault tf_place ta_counts tl0f_huts tl0f_singers tl0f_villages tl0f_dams tl0f_echoes tl0f_deep tl0f_slide tl0a_heights tl0a_ladders tl0a_minutes tl0a_echoFrom tl0a_echoTo tl0a_homes tl0a_talls tl0a_known tl1f_huts tl1f_singers tl1f_villages tl1f_dams tl1f_echoes tl1f_deep tl1f_slide tl1a_heights tl1a_ladders tl1a_minutes tl1a_echoFrom tl1a_echoTo tl1a_homes tl1a_talls tl1a_known tv0f_deeds tv0a_kinds tv0a_firsts tv0a_seconds tv1f_deeds tv1a_kinds tv1a_firsts tv1a_seconds ts0f_facts ts0a_heard ts0a_huts ts0a_minutes ts1f_facts ts1a_heard ts1a_huts ts1a_minutes tc0f_voices tc0f_step tc0a_parts tc0a_heights tc1f_voices tc1f_step tc1a_parts tc1a_heights m_images rlf_huts rlf_singers rlf_villages rlf_dams rlf_echoes rlf_deep rlf_slide rla_heights rla_ladders rla_minutes rla_echoFrom rla_echoTo rla_homes rla_talls rla_known rvf_deeds rva_kinds rva_firsts rva_seconds rsf_facts rsa_heard rsa_huts rsa_minutes rcf_voices rcf_step rca_parts rca_heights rf_fault rf_faultPlace ra_numbers ra_tape rf_length rf_behind rf_kind rf_first rf_value rf_hutsToldOf rf_singersToldOf nf_minute nf_avalanches nf_begun nf_climbed nf_seed na_huts na_known na_levels na_snow na_open pa_heard pa_walked pa_total pa_longest pa_next pa_cover pa_now pa_then ko_stands ka_gaps ka_behind ba_less ba_full).weaken (fun _ _ _ h => Or.inl h)) hS 48 0 rfl rfl g9 rfl rfl hin dX10_image_32 (fun H3 locs hN oq hz3 hS => ?_)
  have hMx : wxW E qx ta_tape tf_length tf_fault tf_place ta_counts tl0f_huts tl0f_singers tl0f_villages tl0f_dams tl0f_echoes tl0f_deep tl0f_slide tl0a_heights tl0a_ladders tl0a_minutes tl0a_echoFrom tl0a_echoTo tl0a_homes tl0a_talls tl0a_known tl1f_huts tl1f_singers tl1f_villages tl1f_dams tl1f_echoes tl1f_deep tl1f_slide tl1a_heights tl1a_ladders tl1a_minutes tl1a_echoFrom tl1a_echoTo tl1a_homes tl1a_talls tl1a_known tv0f_deeds tv0a_kinds tv0a_firsts tv0a_seconds tv1f_deeds tv1a_kinds tv1a_firsts tv1a_seconds ts0f_facts ts0a_heard ts0a_huts ts0a_minutes ts1f_facts ts1a_heard ts1a_huts ts1a_minutes tc0f_voices tc0f_step tc0a_parts tc0a_heights tc1f_voices tc1f_step tc1a_parts tc1a_heights (va_up m_images (Int32.toNatClampNeg x1) (some h)) rlf_huts rlf_singers rlf_villages rlf_dams rlf_echoes rlf_deep rlf_slide rla_heights rla_ladders rla_minutes rla_echoFrom rla_echoTo rla_homes rla_talls rla_known rvf_deeds rva_kinds rva_firsts rva_seconds rsf_facts rsa_heard rsa_huts rsa_minutes rcf_voices rcf_step rca_parts rca_heights rf_fault rf_faultPlace ra_numbers ra_tape rf_length rf_behind rf_kind rf_first rf_value rf_hutsToldOf rf_singersToldOf nf_minute nf_avalanches nf_begun nf_climbed nf_seed na_huts na_known na_levels na_snow na_open pa_heard pa_walked pa_total pa_longest pa_next pa_cover pa_now pa_then ko_stands ka_gaps ka_behind ba_less ba_full H3 := hN
  have g9 := zkp g9 zrg_X9_init (fun q _ h2 _ => oq q (by omega))
  exact im_tail zc hK (xi_of hMx (wt_0 g9) hqh) hT tG_0 hin (va_up_self _ _ _) hS (fun q hq => by unfold wttA at hq; unfold zImA zR; omega) hl
set_option maxRecDepth 40000 in
set_option maxHeartbeats 4000000 in
theorem c_again_no (l : Launch) {E : zE} {qx : Nat} {ta_tape : Nat → Int32} {tf_length : Int32} {tf_fault : Int32} {tf_place : Int32} {ta_counts : Nat → Int32} {tl0f_huts : Int32} {tl0f_singers : Int32} {tl0f_villages : Int32} {tl0f_dams : Int32} {tl0f_echoes : Int32} {tl0f_deep : Int32} {tl0f_slide : Int32} {tl0a_heights : Nat → Int32} {tl0a_ladders : Nat → Int32} {tl0a_minutes : Nat → Int32} {tl0a_echoFrom : Nat → Int32} {tl0a_echoTo : Nat → Int32} {tl0a_homes : Nat → Int32} {tl0a_talls : Nat → Int32} {tl0a_known : Nat → Int32} {tl1f_huts : Int32} {tl1f_singers : Int32} {tl1f_villages : Int32} {tl1f_dams : Int32} {tl1f_echoes : Int32} {tl1f_deep : Int32} {tl1f_slide : Int32} {tl1a_heights : Nat → Int32} {tl1a_ladders : Nat → Int32} {tl1a_minutes : Nat → Int32} {tl1a_echoFrom : Nat → Int32} {tl1a_echoTo : Nat → Int32} {tl1a_homes : Nat → Int32} {tl1a_talls : Nat → Int32} {tl1a_known : Nat → Int32} {tv0f_deeds : Int32} {tv0a_kinds : Nat → Int32} {tv0a_firsts : Nat → Int32} {tv0a_seconds : Nat → Int32} {tv1f_deeds : Int32} {tv1a_kinds : Nat → Int32} {tv1a_firsts : Nat → Int32} {tv1a_seconds : Nat → Int32} {ts0f_facts : Int32} {ts0a_heard : Nat → Int32} {ts0a_huts : Nat → Int32} {ts0a_minutes : Nat → Int32} {ts1f_facts : Int32} {ts1a_heard : Nat → Int32} {ts1a_huts : Nat → Int32} {ts1a_minutes : Nat → Int32} {tc0f_voices : Int32} {tc0f_step : Int32} {tc0a_parts : Nat → Int32} {tc0a_heights : Nat → Int32} {tc1f_voices : Int32} {tc1f_step : Int32} {tc1a_parts : Nat → Int32} {tc1a_heights : Nat → Int32} {m_images : Nat → Option Nat} {rlf_huts : Int32} {rlf_singers : Int32} {rlf_villages : Int32} {rlf_dams : Int32} {rlf_echoes : Int32} {rlf_deep : Int32} {rlf_slide : Int32} {rla_heights : Nat → Int32} {rla_ladders : Nat → Int32} {rla_minutes : Nat → Int32} {rla_echoFrom : Nat → Int32} {rla_echoTo : Nat → Int32} {rla_homes : Nat → Int32} {rla_talls : Nat → Int32} {rla_known : Nat → Int32} {rvf_deeds : Int32} {rva_kinds : Nat → Int32} {rva_firsts : Nat → Int32} {rva_seconds : Nat → Int32} {rsf_facts : Int32} {rsa_heard : Nat → Int32} {rsa_huts : Nat → Int32} {rsa_minutes : Nat → Int32} {rcf_voices : Int32} {rcf_step : Int32} {rca_parts : Nat → Int32} {rca_heights : Nat → Int32} {rf_fault : Int32} {rf_faultPlace : Int32} {ra_numbers : Nat → Int32} {ra_tape : Nat → Int32} {rf_length : Int32} {rf_behind : Int32} {rf_kind : Int32} {rf_first : Int32} {rf_value : Int32} {rf_hutsToldOf : Int32} {rf_singersToldOf : Int32} {nf_minute : Int32} {nf_avalanches : Int32} {nf_begun : Int32} {nf_climbed : Int32} {nf_seed : Int32} {na_huts : Nat → Int32} {na_known : Nat → Int32} {na_levels : Nat → Int32} {na_snow : Nat → Int32} {na_open : Nat → Int32} {pa_heard : Nat → Int32} {pa_walked : Nat → Int32} {pa_total : Nat → Int32} {pa_longest : Nat → Int32} {pa_next : Nat → Int32} {pa_cover : Nat → Int32} {pa_now : Nat → Int32} {pa_then : Nat → Int32} {ko_stands : Option Nat} {ka_gaps : Nat → Int32} {ka_behind : Nat → Int32} {ba_less : Nat → Int32} {ba_full : Nat → Int32} {x1 : Int32} (hn : ¬ x1 < 0 → x1 < 3 → m_images (Int32.toNatClampNeg x1) = none) : Met l yX10_again (Cond.code yX10_again cX10_again 2 (some .boolean) :: zb) (rmI 0 0) (va_Pc [.ref qx, .int x1] (fun U => wxW E qx ta_tape tf_length tf_fault tf_place ta_counts tl0f_huts tl0f_singers tl0f_villages tl0f_dams tl0f_echoes tl0f_deep tl0f_slide tl0a_heights tl0a_ladders tl0a_minutes tl0a_echoFrom tl0a_echoTo tl0a_homes tl0a_talls tl0a_known tl1f_huts tl1f_singers tl1f_villages tl1f_dams tl1f_echoes tl1f_deep tl1f_slide tl1a_heights tl1a_ladders tl1a_minutes tl1a_echoFrom tl1a_echoTo tl1a_homes tl1a_talls tl1a_known tv0f_deeds tv0a_kinds tv0a_firsts tv0a_seconds tv1f_deeds tv1a_kinds tv1a_firsts tv1a_seconds ts0f_facts ts0a_heard ts0a_huts ts0a_minutes ts1f_facts ts1a_heard ts1a_huts ts1a_minutes tc0f_voices tc0f_step tc0a_parts tc0a_heights tc1f_voices tc1f_step tc1a_parts tc1a_heights m_images rlf_huts rlf_singers rlf_villages rlf_dams rlf_echoes rlf_deep rlf_slide rla_heights rla_ladders rla_minutes rla_echoFrom rla_echoTo rla_homes rla_talls rla_known rvf_deeds rva_kinds rva_firsts rva_seconds rsf_facts rsa_heard rsa_huts rsa_minutes rcf_voices rcf_step rca_parts rca_heights rf_fault rf_faultPlace ra_numbers ra_tape rf_length rf_behind rf_kind rf_first rf_value rf_hutsToldOf rf_singersToldOf nf_minute nf_avalanches nf_begun nf_climbed nf_seed na_huts na_known na_levels na_snow na_open pa_heard pa_walked pa_total pa_longest pa_next pa_cover pa_now pa_then ko_stands ka_gaps ka_behind ba_less ba_full U.heap ∧ zK E U)) (vp_Si (fun r => r = 0)) 0 0 (fun _ => False) := by
  refine Met.ofW (cc := cX10_again) (maxL := 2) (ret := (some .boolean)) (by decide) rfl ?_
  intro p e s m args below meth c s₁ B hml hv
  obtain ⟨rfl, hMx, hK⟩ := hv
  have zc := zc_of B hml
  have hx := zc.1
  have hb := zc.2.1
  have hl := lv_entry ([.ref qx, .int x1]) (n := 2) (Nat.le_of_ble_eq_true rfl)
  rw [lg_entry_eq]
  generalize (lg_sl ([.ref qx, .int x1]) ++ List.replicate (2 - (lg_sl ([.ref qx, .int x1])).length) Slot.unset).toArray = ls at hl ⊢
  have hl : lv_has ls 2 [(0, .ref qx), (1, .int x1)] := hl
  refine lv_iload_n hx hb dX10_again_0 rfl (lv_at hl 1 rfl) ?_
  refine lv_if_lt (tgt := 18) hx hb dX10_again_1 (by decide) (fun hc => ?_) (fun hc => ?_)
  · refine lv_iconst (v := (0 : Int32)) hx hb dX10_again_18 (by decide) ?_
    exact zret_z zc rfl rfl dX10_again_19
  refine lv_iload_n hx hb dX10_again_4 rfl (lv_at hl 1 rfl) ?_
  refine lv_iconst (v := (3 : Int32)) hx hb dX10_again_5 (by decide) ?_
  refine lv_icmp_ge (tgt := 18) hx hb dX10_again_6 (by decide) (fun hd => ?_) (fun hd => ?_)
  · refine lv_iconst (v := (0 : Int32)) hx hb dX10_again_18 (by decide) ?_
    exact zret_z zc rfl rfl dX10_again_19
  have hd2 : x1 < 3 := Int32.not_le.mp hd
  have hin : vp_in x1 3 := iv_in (iv_lta (l := 0) (h := 2) (r_lt hd2) (iv_leb (l := 0) (h := 2147483647) (r_nlt hc) (iv_lit (x := 0) (l := 0) (h := 0) (by decide)) (iv_top x1) (by decide)) (iv_lit (x := 3) (l := 3) (h := 3) (by decide)) (by decide)) (by decide)
  refine lv_aload_n hx hb dX10_again_9 rfl (lv_at hl 0 rfl) ?_
  refine va_get (D := E.1) (ci := 10) (v := .ref (qx + 48)) (C := RX10) (T := TX10) (N := 7) hx hb zc.2.2.2.2.1 uw10 zc.2.2.2.1 hK.1 hMx 0 rfl rfl 1 (by decide) (zc.2.2.2.2.1 _ kf_10_16) (fun _ h9 => h9) rfl dX10_again_10 ?_
  refine lv_iload_n hx hb dX10_again_13 rfl (lv_at hl 1 rfl) ?_
  refine va_aldq hx hb hK.1 hMx 48 8 rfl rfl hin dX10_again_14 ?_
  rw [hn hc hd2]
  refine W.eq (g2 := F0 m 15 ls (.null :: [])) rfl ?_
  refine lv_ifnonnullN hx hb dX10_again_15 ?_
  refine lv_iconst (v := (0 : Int32)) hx hb dX10_again_18 (by decide) ?_
  exact zret_z zc rfl rfl dX10_again_19
set_option maxRecDepth 40000 in
set_option maxHeartbeats 4000000 in
theorem c_again_yes (l : Launch) {E : zE} {qx qi : Nat} {ta_tape : Nat → Int32} {tf_length : Int32} {tf_fault : Int32} {tf_place : Int32} {ta_counts : Nat → Int32} {tl0f_huts : Int32} {tl0f_singers : Int32} {tl0f_villages : Int32} {tl0f_dams : Int32} {tl0f_echoes : Int32} {tl0f_deep : Int32} {tl0f_slide : Int32} {tl0a_heights : Nat → Int32} {tl0a_ladders : Nat → Int32} {tl0a_minutes : Nat → Int32} {tl0a_echoFrom : Nat → Int32} {tl0a_echoTo : Nat → Int32} {tl0a_homes : Nat → Int32} {tl0a_talls : Nat → Int32} {tl0a_known : Nat → Int32} {tl1f_huts : Int32} {tl1f_singers : Int32} {tl1f_villages : Int32} {tl1f_dams : Int32} {tl1f_echoes : Int32} {tl1f_deep : Int32} {tl1f_slide : Int32} {tl1a_heights : Nat → Int32} {tl1a_ladders : Nat → Int32} {tl1a_minutes : Nat → Int32} {tl1a_echoFrom : Nat → Int32} {tl1a_echoTo : Nat → Int32} {tl1a_homes : Nat → Int32} {tl1a_talls : Nat → Int32} {tl1a_known : Nat → Int32} {tv0f_deeds : Int32} {tv0a_kinds : Nat → Int32} {tv0a_firsts : Nat → Int32} {tv0a_seconds : Nat → Int32} {tv1f_deeds : Int32} {tv1a_kinds : Nat → Int32} {tv1a_firsts : Nat → Int32} {tv1a_seconds : Nat → Int32} {ts0f_facts : Int32} {ts0a_heard : Nat → Int32} {ts0a_huts : Nat → Int32} {ts0a_minutes : Nat → Int32} {ts1f_facts : Int32} {ts1a_heard : Nat → Int32} {ts1a_huts : Nat → Int32} {ts1a_minutes : Nat → Int32} {tc0f_voices : Int32} {tc0f_step : Int32} {tc0a_parts : Nat → Int32} {tc0a_heights : Nat → Int32} {tc1f_voices : Int32} {tc1f_step : Int32} {tc1a_parts : Nat → Int32} {tc1a_heights : Nat → Int32} {m_images : Nat → Option Nat} {rlf_huts : Int32} {rlf_singers : Int32} {rlf_villages : Int32} {rlf_dams : Int32} {rlf_echoes : Int32} {rlf_deep : Int32} {rlf_slide : Int32} {rla_heights : Nat → Int32} {rla_ladders : Nat → Int32} {rla_minutes : Nat → Int32} {rla_echoFrom : Nat → Int32} {rla_echoTo : Nat → Int32} {rla_homes : Nat → Int32} {rla_talls : Nat → Int32} {rla_known : Nat → Int32} {rvf_deeds : Int32} {rva_kinds : Nat → Int32} {rva_firsts : Nat → Int32} {rva_seconds : Nat → Int32} {rsf_facts : Int32} {rsa_heard : Nat → Int32} {rsa_huts : Nat → Int32} {rsa_minutes : Nat → Int32} {rcf_voices : Int32} {rcf_step : Int32} {rca_parts : Nat → Int32} {rca_heights : Nat → Int32} {rf_fault : Int32} {rf_faultPlace : Int32} {ra_numbers : Nat → Int32} {ra_tape : Nat → Int32} {rf_length : Int32} {rf_behind : Int32} {rf_kind : Int32} {rf_first : Int32} {rf_value : Int32} {rf_hutsToldOf : Int32} {rf_singersToldOf : Int32} {nf_minute : Int32} {nf_avalanches : Int32} {nf_begun : Int32} {nf_climbed : Int32} {nf_seed : Int32} {na_huts : Nat → Int32} {na_known : Nat → Int32} {na_levels : Nat → Int32} {na_snow : Nat → Int32} {na_open : Nat → Int32} {pa_heard : Nat → Int32} {pa_walked : Nat → Int32} {pa_total : Nat → Int32} {pa_longest : Nat → Int32} {pa_next : Nat → Int32} {pa_cover : Nat → Int32} {pa_now : Nat → Int32} {pa_then : Nat → Int32} {ko_stands : Option Nat} {ka_gaps : Nat → Int32} {ka_behind : Nat → Int32} {ba_less : Nat → Int32} {ba_full : Nat → Int32} {ia_tape : Nat → Int32} {if_length : Int32} {if_fault : Int32} {if_place : Int32} {ia_counts : Nat → Int32} {il0f_huts : Int32} {il0f_singers : Int32} {il0f_villages : Int32} {il0f_dams : Int32} {il0f_echoes : Int32} {il0f_deep : Int32} {il0f_slide : Int32} {il0a_heights : Nat → Int32} {il0a_ladders : Nat → Int32} {il0a_minutes : Nat → Int32} {il0a_echoFrom : Nat → Int32} {il0a_echoTo : Nat → Int32} {il0a_homes : Nat → Int32} {il0a_talls : Nat → Int32} {il0a_known : Nat → Int32} {il1f_huts : Int32} {il1f_singers : Int32} {il1f_villages : Int32} {il1f_dams : Int32} {il1f_echoes : Int32} {il1f_deep : Int32} {il1f_slide : Int32} {il1a_heights : Nat → Int32} {il1a_ladders : Nat → Int32} {il1a_minutes : Nat → Int32} {il1a_echoFrom : Nat → Int32} {il1a_echoTo : Nat → Int32} {il1a_homes : Nat → Int32} {il1a_talls : Nat → Int32} {il1a_known : Nat → Int32} {iv0f_deeds : Int32} {iv0a_kinds : Nat → Int32} {iv0a_firsts : Nat → Int32} {iv0a_seconds : Nat → Int32} {iv1f_deeds : Int32} {iv1a_kinds : Nat → Int32} {iv1a_firsts : Nat → Int32} {iv1a_seconds : Nat → Int32} {is0f_facts : Int32} {is0a_heard : Nat → Int32} {is0a_huts : Nat → Int32} {is0a_minutes : Nat → Int32} {is1f_facts : Int32} {is1a_heard : Nat → Int32} {is1a_huts : Nat → Int32} {is1a_minutes : Nat → Int32} {ic0f_voices : Int32} {ic0f_step : Int32} {ic0a_parts : Nat → Int32} {ic0a_heights : Nat → Int32} {ic1f_voices : Int32} {ic1f_step : Int32} {ic1a_parts : Nat → Int32} {ic1a_heights : Nat → Int32} {x1 : Int32} (hr : ¬ x1 < 0 ∧ x1 < 3) (hm : m_images (Int32.toNatClampNeg x1) = some qi) (hT : tG ta_tape tf_length tf_fault tf_place ta_counts tl0f_huts tl0f_singers tl0f_villages tl0f_dams tl0f_echoes tl0f_deep tl0f_slide tl0a_heights tl0a_ladders tl0a_minutes tl0a_echoFrom tl0a_echoTo tl0a_homes tl0a_talls tl0a_known tl1f_huts tl1f_singers tl1f_villages tl1f_dams tl1f_echoes tl1f_deep tl1f_slide tl1a_heights tl1a_ladders tl1a_minutes tl1a_echoFrom tl1a_echoTo tl1a_homes tl1a_talls tl1a_known tv0f_deeds tv0a_kinds tv0a_firsts tv0a_seconds tv1f_deeds tv1a_kinds tv1a_firsts tv1a_seconds ts0f_facts ts0a_heard ts0a_huts ts0a_minutes ts1f_facts ts1a_heard ts1a_huts ts1a_minutes tc0f_voices tc0f_step tc0a_parts tc0a_heights tc1f_voices tc1f_step tc1a_parts tc1a_heights) (hI : tG ia_tape if_length if_fault if_place ia_counts il0f_huts il0f_singers il0f_villages il0f_dams il0f_echoes il0f_deep il0f_slide il0a_heights il0a_ladders il0a_minutes il0a_echoFrom il0a_echoTo il0a_homes il0a_talls il0a_known il1f_huts il1f_singers il1f_villages il1f_dams il1f_echoes il1f_deep il1f_slide il1a_heights il1a_ladders il1a_minutes il1a_echoFrom il1a_echoTo il1a_homes il1a_talls il1a_known iv0f_deeds iv0a_kinds iv0a_firsts iv0a_seconds iv1f_deeds iv1a_kinds iv1a_firsts iv1a_seconds is0f_facts is0a_heard is0a_huts is0a_minutes is1f_facts is1a_heard is1a_huts is1a_minutes ic0f_voices ic0f_step ic0a_parts ic0a_heights ic1f_voices ic1f_step ic1a_parts ic1a_heights) : Met l yX10_again (Cond.code yX10_again cX10_again 2 (some .boolean) :: zb) (rmI 0 0) (va_Pc [.ref qx, .int x1] (fun U => wxiW E qx qi ta_tape tf_length tf_fault tf_place ta_counts tl0f_huts tl0f_singers tl0f_villages tl0f_dams tl0f_echoes tl0f_deep tl0f_slide tl0a_heights tl0a_ladders tl0a_minutes tl0a_echoFrom tl0a_echoTo tl0a_homes tl0a_talls tl0a_known tl1f_huts tl1f_singers tl1f_villages tl1f_dams tl1f_echoes tl1f_deep tl1f_slide tl1a_heights tl1a_ladders tl1a_minutes tl1a_echoFrom tl1a_echoTo tl1a_homes tl1a_talls tl1a_known tv0f_deeds tv0a_kinds tv0a_firsts tv0a_seconds tv1f_deeds tv1a_kinds tv1a_firsts tv1a_seconds ts0f_facts ts0a_heard ts0a_huts ts0a_minutes ts1f_facts ts1a_heard ts1a_huts ts1a_minutes tc0f_voices tc0f_step tc0a_parts tc0a_heights tc1f_voices tc1f_step tc1a_parts tc1a_heights m_images rlf_huts rlf_singers rlf_villages rlf_dams rlf_echoes rlf_deep rlf_slide rla_heights rla_ladders rla_minutes rla_echoFrom rla_echoTo rla_homes rla_talls rla_known rvf_deeds rva_kinds rva_firsts rva_seconds rsf_facts rsa_heard rsa_huts rsa_minutes rcf_voices rcf_step rca_parts rca_heights rf_fault rf_faultPlace ra_numbers ra_tape rf_length rf_behind rf_kind rf_first rf_value rf_hutsToldOf rf_singersToldOf nf_minute nf_avalanches nf_begun nf_climbed nf_seed na_huts na_known na_levels na_snow na_open pa_heard pa_walked pa_total pa_longest pa_next pa_cover pa_now pa_then ko_stands ka_gaps ka_behind ba_less ba_full ia_tape if_length if_fault if_place ia_counts il0f_huts il0f_singers il0f_villages il0f_dams il0f_echoes il0f_deep il0f_slide il0a_heights il0a_ladders il0a_minutes il0a_echoFrom il0a_echoTo il0a_homes il0a_talls il0a_known il1f_huts il1f_singers il1f_villages il1f_dams il1f_echoes il1f_deep il1f_slide il1a_heights il1a_ladders il1a_minutes il1a_echoFrom il1a_echoTo il1a_homes il1a_talls il1a_known iv0f_deeds iv0a_kinds iv0a_firsts iv0a_seconds iv1f_deeds iv1a_kinds iv1a_firsts iv1a_seconds is0f_facts is0a_heard is0a_huts is0a_minutes is1f_facts is1a_heard is1a_huts is1a_minutes ic0f_voices ic0f_step ic0a_parts ic0a_heights ic1f_voices ic1f_step ic1a_parts ic1a_heights U.heap ∧ zK E U)) (zQi (S := Unit) (fun r _ => r = 1) (fun _ H => ∃ na_tape nf_length nf_fault nf_place na_counts nl0f_huts nl0f_singers nl0f_villages nl0f_dams nl0f_echoes nl0f_deep nl0f_slide nl0a_heights nl0a_ladders nl0a_minutes nl0a_echoFrom nl0a_echoTo nl0a_homes nl0a_talls nl0a_known nl1f_huts nl1f_singers nl1f_villages nl1f_dams nl1f_echoes nl1f_deep nl1f_slide nl1a_heights nl1a_ladders nl1a_minutes nl1a_echoFrom nl1a_echoTo nl1a_homes nl1a_talls nl1a_known nv0f_deeds nv0a_kinds nv0a_firsts nv0a_seconds nv1f_deeds nv1a_kinds nv1a_firsts nv1a_seconds ns0f_facts ns0a_heard ns0a_huts ns0a_minutes ns1f_facts ns1a_heard ns1a_huts ns1a_minutes nc0f_voices nc0f_step nc0a_parts nc0a_heights nc1f_voices nc1f_step nc1a_parts nc1a_heights, tG na_tape nf_length nf_fault nf_place na_counts nl0f_huts nl0f_singers nl0f_villages nl0f_dams nl0f_echoes nl0f_deep nl0f_slide nl0a_heights nl0a_ladders nl0a_minutes nl0a_echoFrom nl0a_echoTo nl0a_homes nl0a_talls nl0a_known nl1f_huts nl1f_singers nl1f_villages nl1f_dams nl1f_echoes nl1f_deep nl1f_slide nl1a_heights nl1a_ladders nl1a_minutes nl1a_echoFrom nl1a_echoTo nl1a_homes nl1a_talls nl1a_known nv0f_deeds nv0a_kinds nv0a_firsts nv0a_seconds nv1f_deeds nv1a_kinds nv1a_firsts nv1a_seconds ns0f_facts ns0a_heard ns0a_huts ns0a_minutes ns1f_facts ns1a_heard ns1a_huts ns1a_minutes nc0f_voices nc0f_step nc0a_parts nc0a_heights nc1f_voices nc1f_step nc1a_parts nc1a_heights ∧ wxiW E qx qi na_tape nf_length nf_fault nf_place na_counts nl0f_huts nl0f_singers nl0f_villages nl0f_dams nl0f_echoes nl0f_deep nl0f_slide nl0a_heights nl0a_ladders nl0a_minutes nl0a_echoFrom nl0a_echoTo nl0a_homes nl0a_talls nl0a_known nl1f_huts nl1f_singers nl1f_villages nl1f_dams nl1f_echoes nl1f_deep nl1f_slide nl1a_heights nl1a_ladders nl1a_minutes nl1a_echoFrom nl1a_echoTo nl1a_homes nl1a_talls nl1a_known nv0f_deeds nv0a_kinds nv0a_firsts nv0a_seconds nv1f_deeds nv1a_kinds nv1a_firsts nv1a_seconds ns0f_facts ns0a_heard ns0a_huts ns0a_minutes ns1f_facts ns1a_heard ns1a_huts ns1a_minutes nc0f_voices nc0f_step nc0a_parts nc0a_heights nc1f_voices nc1f_step nc1a_parts nc1a_heights m_images rlf_huts rlf_singers rlf_villages rlf_dams rlf_echoes rlf_deep rlf_slide rla_heights rla_ladders rla_minutes rla_echoFrom rla_echoTo rla_homes rla_talls rla_known rvf_deeds rva_kinds rva_firsts rva_seconds rsf_facts rsa_heard rsa_huts rsa_minutes rcf_voices rcf_step rca_parts rca_heights rf_fault rf_faultPlace ra_numbers ra_tape rf_length rf_behind rf_kind rf_first rf_value rf_hutsToldOf rf_singersToldOf nf_minute nf_avalanches nf_begun nf_climbed nf_seed na_huts na_known na_levels na_snow na_open pa_heard pa_walked pa_total pa_longest pa_next pa_cover pa_now pa_then ko_stands ka_gaps ka_behind ba_less ba_full ia_tape if_length if_fault if_place ia_counts il0f_huts il0f_singers il0f_villages il0f_dams il0f_echoes il0f_deep il0f_slide il0a_heights il0a_ladders il0a_minutes il0a_echoFrom il0a_echoTo il0a_homes il0a_talls il0a_known il1f_huts il1f_singers il1f_villages il1f_dams il1f_echoes il1f_deep il1f_slide il1a_heights il1a_ladders il1a_minutes il1a_echoFrom il1a_echoTo il1a_homes il1a_talls il1a_known iv0f_deeds iv0a_kinds iv0a_firsts iv0a_seconds iv1f_deeds iv1a_kinds iv1a_firsts iv1a_seconds is0f_facts is0a_heard is0a_huts is0a_minutes is1f_facts is1a_heard is1a_huts is1a_minutes ic0f_voices ic0f_step ic0a_parts ic0a_heights ic1f_voices ic1f_step ic1a_parts ic1a_heights H) (wttA (qx + 1) qi)) 0 0 (wttA (qx + 1) qi) := by
  refine Met.ofW (cc := cX10_again) (maxL := 2) (ret := (some .boolean)) (by decide) rfl ?_
  intro p e s m args below meth c s₁ B hml hv
  obtain ⟨rfl, hM, hK⟩ := hv
  have zc := zc_of B hml
  have hx := zc.1
  have hb := zc.2.1
  have hl := lv_entry ([.ref qx, .int x1]) (n := 2) (Nat.le_of_ble_eq_true rfl)
  rw [lg_entry_eq]
  generalize (lg_sl ([.ref qx, .int x1]) ++ List.replicate (2 - (lg_sl ([.ref qx, .int x1])).length) Slot.unset).toArray = ls at hl ⊢
  have hl : lv_has ls 2 [(0, .ref qx), (1, .int x1)] := hl
  have hMx := xi_x hM
  have hS : va_S (wttA (qx + 1) qi) s.heap s.heap [] := va_S.rf
  have hsub : ∀ q, wttA (qx + 1) qi q → wttA (qx + 1) qi q := fun _ h => h
  have hin : vp_in x1 3 := iv_in (iv_lta (l := 0) (h := 2) (r_lt hr.2) (iv_leb (l := 0) (h := 2147483647) (r_nlt hr.1) (iv_lit (x := 0) (l := 0) (h := 0) (by decide)) (iv_top x1) (by decide)) (iv_lit (x := 3) (l := 3) (h := 3) (by decide)) (by decide)) (by decide)
  refine lv_iload_n hx hb dX10_again_0 rfl (lv_at hl 1 rfl) ?_
  refine lv_if_lt (tgt := 18) hx hb dX10_again_1 (by decide) (fun hc => absurd hc hr.1) (fun hc => ?_)
  refine lv_iload_n hx hb dX10_again_4 rfl (lv_at hl 1 rfl) ?_
  refine lv_iconst (v := (3 : Int32)) hx hb dX10_again_5 (by decide) ?_
  refine lv_icmp_ge (tgt := 18) hx hb dX10_again_6 (by decide) (fun hd => absurd hr.2 (Int32.not_lt.mpr hd)) (fun hd => ?_)
  refine lv_aload_n hx hb dX10_again_9 rfl (lv_at hl 0 rfl) ?_
  refine va_get (D := E.1) (ci := 10) (v := .ref (qx + 48)) (C := RX10) (T := TX10) (N := 7) hx hb zc.2.2.2.2.1 uw10 zc.2.2.2.1 hK.1 hMx 0 rfl rfl 1 (by decide) (zc.2.2.2.2.1 _ kf_10_16) (fun _ h9 => h9) rfl dX10_again_10 ?_
  refine lv_iload_n hx hb dX10_again_13 rfl (lv_at hl 1 rfl) ?_
  refine va_aldq hx hb hK.1 hMx 48 8 rfl rfl hin dX10_again_14 ?_
  rw [hm]
  refine W.eq (g2 := F0 m 15 ls (.ref qi :: [])) rfl ?_
  refine lv_ifnonnull (tgt := 20) hx hb dX10_again_15 (by decide) ?_
  refine lv_aload_n hx hb dX10_again_20 rfl (lv_at hl 0 rfl) ?_
  refine va_get (D := E.1) (ci := 10) (v := .ref (qx + 1)) (C := RX10) (T := TX10) (N := 7) hx hb zc.2.2.2.2.1 uw10 zc.2.2.2.1 hK.1 hMx 0 rfl rfl 0 (by decide) (zc.2.2.2.2.1 _ kf_10_10) (fun _ h9 => h9) rfl dX10_again_21 ?_
  refine lv_aload_n hx hb dX10_again_24 rfl (lv_at hl 0 rfl) ?_
  refine va_get (D := E.1) (ci := 10) (v := .ref (qx + 48)) (C := RX10) (T := TX10) (N := 7) hx hb zc.2.2.2.2.1 uw10 zc.2.2.2.1 hK.1 hMx 0 rfl rfl 1 (by decide) (zc.2.2.2.2.1 _ kf_10_16) (fun _ h9 => h9) rfl dX10_again_25 ?_
  refine lv_iload_n hx hb dX10_again_28 rfl (lv_at hl 1 rfl) ?_
  refine va_aldq hx hb hK.1 hMx 48 8 rfl rfl hin dX10_again_29 ?_
  rw [hm]
  refine W.eq (g2 := F0 m 30 ls (.ref qi :: .ref (qx + 1) :: [])) rfl ?_
  refine zVa_v [.ref qi] [] zc ky_X9_copyFrom kz_X9_copyFrom km_10_323 (c_wtt_X9_copyFrom_47 l (post := fun na_tape nf_length nf_fault nf_place na_counts nl0f_huts nl0f_singers nl0f_villages nl0f_dams nl0f_echoes nl0f_deep nl0f_slide nl0a_heights nl0a_ladders nl0a_minutes nl0a_echoFrom nl0a_echoTo nl0a_homes nl0a_talls nl0a_known nl1f_huts nl1f_singers nl1f_villages nl1f_dams nl1f_echoes nl1f_deep nl1f_slide nl1a_heights nl1a_ladders nl1a_minutes nl1a_echoFrom nl1a_echoTo nl1a_homes nl1a_talls nl1a_known nv0f_deeds nv0a_kinds nv0a_firsts nv0a_seconds nv1f_deeds nv1a_kinds nv1a_firsts nv1a_seconds ns0f_facts ns0a_heard ns0a_huts ns0a_minutes ns1f_facts ns1a_heard ns1a_huts ns1a_minutes nc0f_voices nc0f_step nc0a_parts nc0a_heights nc1f_voices nc1f_step nc1a_parts nc1a_heights => tG na_tape nf_length nf_fault nf_place na_counts nl0f_huts nl0f_singers nl0f_villages nl0f_dams nl0f_echoes nl0f_deep nl0f_slide nl0a_heights nl0a_ladders nl0a_minutes nl0a_echoFrom nl0a_echoTo nl0a_homes nl0a_talls nl0a_known nl1f_huts nl1f_singers nl1f_villages nl1f_dams nl1f_echoes nl1f_deep nl1f_slide nl1a_heights nl1a_ladders nl1a_minutes nl1a_echoFrom nl1a_echoTo nl1a_homes nl1a_talls nl1a_known nv0f_deeds nv0a_kinds nv0a_firsts nv0a_seconds nv1f_deeds nv1a_kinds nv1a_firsts nv1a_seconds ns0f_facts ns0a_heard ns0a_huts ns0a_minutes ns1f_facts ns1a_heard ns1a_huts ns1a_minutes nc0f_voices nc0f_step nc0a_parts nc0a_heights nc1f_voices nc1f_step nc1a_parts nc1a_heights) (tG_copy hT hI (fun _ _ _ _ _ _ _ _ _ _ _ _ _ _ _ _ _ _ _ _ _ _ _ _ _ _ _ _ _ _ _ _ _ _ _ _ _ _ _ _ _ _ _ _ _ _ _ _ _ _ _ _ _ _ _ _ _ _ _ h => h))) (wttPreV0 hK (pj_wxi_wtt_1_93 hM)) hS hsub rfl rfl hl.1 (Nat.le_of_ble_eq_true rfl) ⟨rfl, rfl⟩ ⟨(Nat.le_of_ble_eq_true rfl), (Nat.le_of_ble_eq_true rfl)⟩ ⟨Nat.le_refl _, Nat.le_refl _⟩ dX10_again_30 (fun u H4 locs hw hB hsz hk hS => ?_)
  have hM := jn_wxi_wtt_1_93 hM hB hk
  refine lv_iconst (v := (1 : Int32)) hx hb dX10_again_33 (by decide) ?_
  exact zret_zw () zc hS rfl rfl ⟨_, _, _, _, _, _, _, _, _, _, _, _, _, _, _, _, _, _, _, _, _, _, _, _, _, _, _, _, _, _, _, _, _, _, _, _, _, _, _, _, _, _, _, _, _, _, _, _, _, _, _, _, _, _, _, _, _, _, _, hw, hM⟩ dX10_again_34
end
section
/-- the first take that wins, as a table of verses and steps -/
def tk_f (less : Nat → Int32) (s : Nat) : Nat → Nat → Int32
  | 0, _ => -1
  | n + 1, k => if k ≤ s ∧ less (s - k) = -1 then 10 + nI k else tk_f less s n (k + 1)
def tk_b (C v : Nat) (less : Nat → Int32) (s : Nat) : Int32 := if v = 0 then -1 else tk_f less s C 1
def tk_row (C v : Nat) (less : Nat → Int32) : Nat → Int32
  | 0 => tk_b C v less 0
  | 1 => tk_b C v less 1
  | s + 2 => if tk_row C v less s = -1 then 2 else tk_b C v less (s + 2)
def tk (C : Nat) : Nat → Nat → Int32
  | 0 => tk_row C 0 (fun _ => 0)
  | v + 1 => tk_row C (v + 1) (tk C v)
def tk_p (C : Nat) : Nat → Nat → Int32
  | 0 => fun _ => 0
  | v + 1 => tk C v
theorem tk_out (less : Nat → Int32) (s : Nat) : ∀ (n k : Nat), s < k → tk_f less s n k = -1
  | 0, _, _ => rfl
  | n + 1, k, h => by
    unfold tk_f
    rw [if_neg (fun h2 => by omega)]
    exact tk_out less s n (k + 1) (by omega)
theorem tk_row_eq (C v : Nat) (less : Nat → Int32) (s : Nat) : tk_row C v less s = if 2 ≤ s ∧ tk_row C v less (s - 2) = -1 then 2 else tk_b C v less s := by
  match s with
  | 0 => rw [if_neg (fun h => by omega)]; rfl
  | 1 => rw [if_neg (fun h => by omega)]; rfl
  | s + 2 =>
    show (if tk_row C v less s = -1 then 2 else tk_b C v less (s + 2)) = _
    have e : s + 2 - 2 = s := by omega
    rw [e]
    by_cases h : tk_row C v less s = -1
    · rw [if_pos h, if_pos ⟨by omega, h⟩]
    · rw [if_neg h, if_neg (fun h2 => h h2.2)]
theorem tk_is (C v s : Nat) : tk C v s = tk_row C v (tk_p C v) s := by
  cases v <;> rfl
theorem tk_two {C v s : Nat} (h : 2 ≤ s) (h2 : tk C v (s - 2) = -1) : tk C v s = 2 := by
  rw [tk_is, tk_row_eq, ← tk_is, if_pos ⟨h, h2⟩]
theorem tk_one {C v s : Nat} (h : ¬ (2 ≤ s ∧ tk C v (s - 2) = -1)) : tk C v s = tk_b C v (tk_p C v) s := by
  rw [tk_is, tk_row_eq, ← tk_is, if_neg h]
theorem tk_zero {C s : Nat} (h : ¬ (2 ≤ s ∧ tk C 0 (s - 2) = -1)) : tk C 0 s = -1 := by
  rw [tk_one h]; rfl
theorem tk_succ {C v s : Nat} (h : ¬ (2 ≤ s ∧ tk C (v + 1) (s - 2) = -1)) : tk C (v + 1) s = tk_f (tk C v) s C 1 := by
  rw [tk_one h]
  show (if v + 1 = 0 then -1 else tk_f (tk C v) s C 1) = _
  rw [if_neg (by omega)]
/-- the class's own search -/
theorem sp_xloop {C w s : Nat} {less full : Nat → Int32} {post : Int32 → Prop} (hC : C ≤ 9) (hv : w + 1 ≤ 60) (hs : s ≤ 60) (hl : ∀ j, j < s → less j = tk C w j) (h : post (tk_f (tk C w) s C 1)) : q_wb_X8_firstTake_22 less full (nI (w + 1)) (nI s) (nI C) 1 post := by
  intro P hP
  have loop : ∀ (n k : Nat), n + k = C + 1 → 1 ≤ k → post (tk_f (tk C w) s n k) → P (nI k) := by
    intro n
    induction n with
    | zero =>
      intro k hk h1 hp
      apply hP
      refine ⟨fun h => absurd h (nI_nle (by omega) (by omega)), fun _ => ⟨fun _ => hp, fun h => absurd (nI_lt (by omega) (by omega)) h⟩⟩
    | succ n ih =>
      intro k hk h1 hp
      apply hP
      refine ⟨fun h => absurd h (nI_nle (by omega) (by omega)), fun _ => ⟨fun h => absurd h (nI_nlt (by omega) (by omega)), fun _ => ?_⟩⟩
      by_cases hks : s < k
      · rw [tk_out _ _ _ _ hks] at hp
        exact ⟨fun _ => hp, fun h => absurd (nI_lt hks (by omega)) h⟩
      · refine ⟨fun h => absurd h (nI_nlt (by omega) (by omega)), fun _ => ?_⟩
        rw [pk_sub (by omega)]
        refine ⟨vp_in_nI (by omega) (by omega), ?_⟩
        rw [nI_clamp (by omega), hl (s - k) (by omega)]
        unfold tk_f at hp
        refine ⟨fun hne v1 e1 => ?_, fun heq => ?_⟩
        · rw [if_neg (fun h2 => hne h2.2)] at hp
          rw [e1, nI_1]
          exact ih (k + 1) (by omega) (by omega) hp
        · rw [if_pos ⟨by omega, heq⟩] at hp
          exact hp
  exact loop C 1 (by omega) (by omega) h
theorem sp_xft {C v s : Nat} {less full : Nat → Int32} {post : Int32 → Prop} (hC : C ≤ 9) (hv : v ≤ 60) (hs : s ≤ 60) (hf : ∀ j, j < s → full j = tk C v j) (hl : ∀ w, v = w + 1 → ∀ j, j < s → less j = tk C w j) (h : post (tk C v s)) : q_wb_X8_firstTake_0 less full (nI v) (nI s) (nI C) post := by
  have key : ¬ (2 ≤ s ∧ tk C v (s - 2) = -1) → q_wb_X8_firstTake_19 less full (nI v) (nI s) (nI C) post := by
    intro hn
    cases v with
    | zero =>
      intro P hP
      apply hP
      rw [tk_zero hn] at h
      exact ⟨fun _ => h, fun h2 => absurd (by decide) h2⟩
    | succ w =>
      rw [tk_succ hn] at h
      exact sp_xloop hC hv hs (hl w rfl) h
  have e2 : (2 : Int32) = nI 2 := rfl
  refine ⟨fun h2 => key (fun h3 => absurd h2 ?_), fun h2 => ?_⟩
  · rw [e2]; exact nI_nlt (by omega) (by omega)
  · have h3 : 2 ≤ s := by
      refine Nat.le_of_not_lt (fun h4 => h2 ?_)
      rw [e2]; exact nI_lt h4 (by omega)
    rw [e2, pk_sub h3]
    refine ⟨vp_in_nI (by omega) (by omega), ?_⟩
    rw [nI_clamp (by omega), hf (s - 2) (by omega)]
    refine ⟨fun h4 => key (fun h5 => h4 h5.2), fun h4 => ?_⟩
    rw [tk_two h3 h4] at h
    exact h
/-- the class's table -/
theorem sp_xlay {C A B : Nat} {less full : Nat → Int32} {post : (Nat → Int32) → (Nat → Int32) → Prop} (hC : C ≤ 9) (hA : A ≤ 60) (hB : B ≤ 60) (h : ∀ less full, (∀ j, j ≤ B → full j = tk C A j) → (∀ w, A = w + 1 → ∀ j, j ≤ B → less j = tk C w j) → post less full) : q_wb_X8_lay_0 less full (nI A) (nI B) (nI C) post := by
  intro P hP
  have loop : ∀ (n v : Nat) (less full : Nat → Int32), n + v = A + 1 → (∀ u, v = u + 1 → (∀ j, j ≤ B → full j = tk C u j) ∧ ∀ w, u = w + 1 → ∀ j, j ≤ B → less j = tk C w j) → P (nI v) less full := by
    intro n
    induction n with
    | zero =>
      intro v less full hn hi
      apply hP
      have h1 := hi A (by omega)
      exact ⟨fun _ => h less full h1.1 h1.2, fun h2 => absurd (nI_lt (by omega) (by omega)) h2⟩
    | succ n ih =>
      intro v less full hn hi
      apply hP
      refine ⟨fun h2 => absurd h2 (nI_nlt (by omega) (by omega)), fun _ => ?_⟩
      rw [nI_1, nI_clamp (by omega)]
      refine ⟨nI_pos (by omega), by show 0 + (B + 1) ≤ 61; omega, by show 0 + (B + 1) ≤ 61; omega, ?_⟩
      intro less1 e1 P2 hP2
      have hl1 : ∀ w, v = w + 1 → ∀ j, j ≤ B → less1 j = tk C w j := by
        intro w hw j hj
        rw [e1]
        show (if 0 ≤ j ∧ j < 0 + (B + 1) then full (0 + (j - 0)) else less j) = _
        rw [if_pos ⟨by omega, by omega⟩]
        have e : 0 + (j - 0) = j := by omega
        rw [e]
        exact (hi w hw).1 j hj
      have loop2 : ∀ (n s : Nat) (full : Nat → Int32), n + s = B + 1 → (∀ j, j < s → full j = tk C v j) → P2 (nI s) full := by
        intro n
        induction n with
        | zero =>
          intro s full hs hf
          apply hP2
          refine ⟨fun _ v1 ev => ?_, fun h2 => absurd (nI_lt (by omega) (by omega)) h2⟩
          rw [ev, nI_1]
          refine ih (v + 1) less1 full (by omega) (fun u hu => ⟨fun j hj => ?_, fun w hw j hj => hl1 w (by omega) j hj⟩)
          have : u = v := by omega
          subst this
          exact hf j (by omega)
        | succ n ih2 =>
          intro s full hs hf
          apply hP2
          refine ⟨fun h2 => absurd h2 (nI_nlt (by omega) (by omega)), fun _ => ?_⟩
          refine sp_xft hC (by omega) (by omega) hf (fun w hw j hj => hl1 w hw j (by omega)) ?_
          refine ⟨vp_in_nI (by omega) (by omega), ?_⟩
          intro full1 ef v2 ev
          rw [ev, nI_1]
          refine ih2 (s + 1) full1 (by omega) (fun j hj => ?_)
          rw [ef, nI_clamp (by omega)]
          unfold upd
          by_cases hjs : j = s
          · rw [if_pos hjs, hjs]
          · rw [if_neg hjs]
            exact hf j (by omega)
      exact loop2 (B + 1) 0 full (by omega) (fun j hj => absurd hj (by omega))
  exact loop (A + 1) 0 less full (by omega) (fun u hu => absurd hu (by omega))
/-- the reference's search -/
theorem sp_won {x y : Nat} {w : Nat → Int32} {post : Int32 → Prop} (hx : x ≤ 60) (hy : y ≤ 60) (h0 : w (61 * x + y) = 0 → post 0) (h1 : ¬ w (61 * x + y) = 0 → post 1) : q_m_won_0 w (nI x) (nI y) post := by
  refine ⟨fun h => absurd h (nI_pos (by omega)), fun _ => ⟨fun h => absurd h (nI_pos (by omega)), fun _ => ?_⟩⟩
  have e : (61 : Int32) = nI 61 := rfl
  rw [e, pk_mul, nI_add]
  refine ⟨vp_in_nI (by omega) (by omega), ?_⟩
  rw [nI_clamp (by omega)]
  exact ⟨h0, h1⟩
theorem sp_good {x y vs st : Nat} {w : Nat → Int32} {post : Int32 → Prop} (hx : x ≤ 60) (hy : y ≤ 60) (hv : vs ≤ 9) (hs : st ≤ 60) (h1 : vs ≤ x → st ≤ y → w (61 * (x - vs) + (y - st)) = 0 → post 1) (h0 : ¬ (vs ≤ x ∧ st ≤ y ∧ w (61 * (x - vs) + (y - st)) = 0) → post 0) : q_m_isGood_0 w (nI x) (nI y) (nI vs) (nI st) post := by
  refine ⟨fun h => h0 (fun h2 => absurd h (nI_nlt h2.1 (by omega))), fun h => ⟨fun h2 => h0 (fun h3 => absurd h2 (nI_nlt h3.2.1 (by omega))), fun h2 => ?_⟩⟩
  have a1 : vs ≤ x := Nat.le_of_not_lt (fun h3 => h (nI_lt h3 (by omega)))
  have a2 : st ≤ y := Nat.le_of_not_lt (fun h3 => h2 (nI_lt h3 (by omega)))
  rw [pk_sub a1, pk_sub a2]
  exact sp_won (by omega) (by omega) (fun e => zi (h1 a1 a2 e)) (fun e => io (h0 (fun h3 => e h3.2.2)))
theorem sp_mloop {C v s : Nat} {w : Nat → Int32} {post : Int32 → Prop} (hC : C ≤ 9) (hv : v ≤ 60) (hs : s ≤ 60) (h2 : ∀ u, v = u + 1 → ∀ j, j < s → w (61 * u + j) = if tk C u j = -1 then 0 else 1) (h : post (tk_b C v (tk_p C v) s)) : q_m_firstTake_16 w (nI v) (nI s) (nI C) 1 post := by
  intro P hP
  have e1 : (1 : Int32) = nI 1 := rfl
  have bad : ∀ (n k : Nat), n + k = C + 1 → 1 ≤ k → post (if v = 0 then -1 else tk_f (tk_p C v) s n k) → P (nI k) := by
    intro n
    induction n with
    | zero =>
      intro k hk h1 hp
      apply hP
      refine ⟨fun _ => ?_, fun h3 => absurd (nI_lt (by omega) (by omega)) h3⟩
      by_cases hv0 : v = 0
      · rw [if_pos hv0] at hp; exact hp
      · rw [if_neg hv0] at hp; exact hp
    | succ n ih =>
      intro k hk h1 hp
      apply hP
      refine ⟨fun h3 => absurd h3 (nI_nlt (by omega) (by omega)), fun _ => ?_⟩
      rw [e1]
      refine sp_good hv hs (by omega) (by omega) (fun a1 a2 a3 => oi ?_) (fun hn => iz (fun v1 ev => ?_))
      · obtain ⟨u, rfl⟩ : ∃ u, v = u + 1 := ⟨v - 1, by omega⟩
        rw [if_neg (by omega)] at hp
        have e3 : u + 1 - 1 = u := by omega
        rw [e3, h2 u rfl (s - k) (by omega)] at a3
        have a4 : tk C u (s - k) = -1 := by
          by_cases h5 : tk C u (s - k) = -1
          · exact h5
          · rw [if_neg h5] at a3; exact absurd a3 (by decide)
        unfold tk_f at hp
        have a5 : k ≤ s ∧ tk_p C (u + 1) (s - k) = -1 := ⟨a2, a4⟩
        rw [if_pos a5] at hp
        exact hp
      · rw [ev]
        show P (nI k + 1)
        rw [nI_1]
        refine ih (k + 1) (by omega) (by omega) ?_
        by_cases hv0 : v = 0
        · rw [if_pos hv0] at hp ⊢; exact hp
        · rw [if_neg hv0] at hp ⊢
          unfold tk_f at hp
          rw [if_neg] at hp
          · exact hp
          · intro h5
            obtain ⟨u, rfl⟩ : ∃ u, v = u + 1 := ⟨v - 1, by omega⟩
            refine hn ⟨by omega, h5.1, ?_⟩
            have e3 : u + 1 - 1 = u := by omega
            rw [e3, h2 u rfl (s - k) (by omega)]
            have h6 : tk C u (s - k) = -1 := h5.2
            rw [if_pos h6]
  exact bad C 1 (by omega) (by omega) h
theorem sp_mft {C v s : Nat} {w : Nat → Int32} {post : Int32 → Prop} (hC : C ≤ 9) (hv : v ≤ 60) (hs : s ≤ 60) (h1 : ∀ j, j < s → w (61 * v + j) = if tk C v j = -1 then 0 else 1) (h2 : ∀ u, v = u + 1 → ∀ j, j < s → w (61 * u + j) = if tk C u j = -1 then 0 else 1) (h : post (tk C v s)) : q_m_firstTake_0 w (nI v) (nI s) (nI C) post := by
  refine sp_good (vs := 0) (st := 2) hv hs (by omega) (by omega) (fun _ a2 a3 => oi ?_) (fun hn => iz ?_)
  · rw [Nat.sub_zero, h1 (s - 2) (by omega)] at a3
    have a4 : tk C v (s - 2) = -1 := by
      by_cases h5 : tk C v (s - 2) = -1
      · exact h5
      · rw [if_neg h5] at a3; exact absurd a3 (by decide)
    rw [tk_two a2 a4] at h
    exact h
  · refine sp_mloop hC hv hs h2 ?_
    rw [tk_one] at h
    · exact h
    · intro h5
      refine hn ⟨by omega, h5.1, ?_⟩
      rw [Nat.sub_zero, h1 (s - 2) (by omega), if_pos h5.2]
/-- the reference's table, and its answer -/
theorem sp_mtrade2 {C A B : Nat} {p4 : Int32} {w : Nat → Int32} {post : Int32 → Int32 → (Nat → Int32) → Prop} (hC : C ≤ 9) (hA : A ≤ 60) (hB : B ≤ 60) (h0 : p4 = 0 → ∀ w, post (if tk C A B = -1 then 0 else 1) 0 w) (h1 : ¬ p4 = 0 → ∀ w, post (tk C A B) 0 w) : q_m_trade_41 0 w (nI A) (nI B) (nI C) p4 0 post := by
  intro P hP
  have e61 : (61 : Int32) = nI 61 := rfl
  have nb0 : vp_nar .boolean 0 = 0 := rfl
  have nb1 : vp_nar .boolean 1 = 1 := rfl
  have loop : ∀ (n v : Nat) (w : Nat → Int32), n + v = A + 1 → (∀ x y, x < v → y ≤ B → w (61 * x + y) = if tk C x y = -1 then 0 else 1) → P (nI v) w := by
    intro n
    induction n with
    | zero =>
      intro v w hn hi
      apply hP
      refine ⟨fun _ => ⟨fun hp => ?_, fun hp => ?_⟩, fun h2 => absurd (nI_lt (by omega) (by omega)) h2⟩
      · rw [e61, pk_mul, nI_add]
        refine ⟨vp_in_nI (by omega) (by omega), ?_⟩
        rw [nI_clamp (by omega), hi A B (by omega) (by omega)]
        have h3 := h0 hp
        by_cases ht : tk C A B = -1
        · rw [if_pos ht] at h3 ⊢
          exact iz (h3 _)
        · rw [if_neg ht] at h3 ⊢
          exact oi (h3 _)
      · exact sp_mft hC hA hB (fun j hj => hi A j (by omega) (by omega)) (fun u hu j hj => hi u j (by omega) (by omega)) (h1 hp _)
    | succ n ih =>
      intro v w hn hi
      apply hP
      refine ⟨fun h2 => absurd h2 (nI_nlt (by omega) (by omega)), fun _ => ?_⟩
      intro P2 hP2
      have loop2 : ∀ (n s : Nat) (w : Nat → Int32), n + s = B + 1 → (∀ x y, x < v ∧ y ≤ B ∨ x = v ∧ y < s → w (61 * x + y) = if tk C x y = -1 then 0 else 1) → P2 (nI s) w := by
        intro n
        induction n with
        | zero =>
          intro s w hs hi
          apply hP2
          refine ⟨fun _ v1 ev => ?_, fun h2 => absurd (nI_lt (by omega) (by omega)) h2⟩
          rw [ev, nI_1]
          exact ih (v + 1) w (by omega) (fun x y hx hy => hi x y (by omega))
        | succ n ih2 =>
          intro s w hs hi
          apply hP2
          refine ⟨fun h2 => absurd h2 (nI_nlt (by omega) (by omega)), fun _ => ?_⟩
          refine sp_mft hC (by omega) (by omega) (fun j hj => hi v j (by omega)) (fun u hu j hj => hi u j (by omega)) ?_
          rw [e61, pk_mul, nI_add]
          have go : ∀ b : Int32, vp_nar .boolean b = (if tk C v s = -1 then 0 else 1) → q_m_trade_86 P P2 0 w (nI A) (nI B) (nI C) p4 (nI v) (nI s) (nI (61 * v + s)) b post := by
            intro b hb
            refine ⟨vp_in_nI (by omega) (by omega), ?_⟩
            intro w1 ew v1 ev
            rw [ev, nI_1]
            refine ih2 (s + 1) w1 (by omega) (fun x y hxy => ?_)
            rw [ew, nI_clamp (by omega)]
            unfold upd
            by_cases he : 61 * x + y = 61 * v + s
            · rw [if_pos he, hb]
              have ex : x = v := by omega
              have ey : y = s := by omega
              rw [ex, ey]
            · rw [if_neg he]
              exact hi x y (by omega)
          exact ⟨fun ht => go 0 (by rw [if_pos ht]; exact nb0), fun ht => go 1 (by rw [if_neg ht]; exact nb1)⟩
      exact loop2 (B + 1) 0 w (by omega) (fun x y hxy => hi x y (by omega) (by omega))
  exact loop (A + 1) 0 w (by omega) (fun x y hx hy => absurd hx (by omega))
theorem sp_mbad {p1 p2 p3 p4 : Int32} {w : Nat → Int32} {post : Int32 → Int32 → (Nat → Int32) → Prop} (h : post (-2) 0 w) (hb : ¬ ((0 ≤ p1 ∧ p1 ≤ 60) ∧ (0 ≤ p2 ∧ p2 ≤ 60) ∧ 1 ≤ p3 ∧ p3 ≤ 9)) : q_m_trade_0 0 w p1 p2 p3 p4 post :=
  sp_in (fun _ => iz h) (fun a1 a2 => oi (sp_in (fun _ => iz h) (fun b1 b2 => oi (sp_in (fun _ => zi h) (fun c1 c2 => absurd ⟨⟨a1, a2⟩, ⟨b1, b2⟩, c1, c2⟩ hb)))))
def tT (p1 p2 p3 p4 : Int32) : Int32 := if (0 ≤ p1 ∧ p1 ≤ 60) ∧ (0 ≤ p2 ∧ p2 ≤ 60) ∧ 1 ≤ p3 ∧ p3 ≤ 9 then (if p4 = 0 then (if tk p3.toNatClampNeg p1.toNatClampNeg p2.toNatClampNeg = -1 then 0 else 1) else tk p3.toNatClampNeg p1.toNatClampNeg p2.toNatClampNeg) else -2
theorem tT_bad {p1 p2 p3 p4 : Int32} (h : ¬ ((0 ≤ p1 ∧ p1 ≤ 60) ∧ (0 ≤ p2 ∧ p2 ≤ 60) ∧ 1 ≤ p3 ∧ p3 ≤ 9)) : tT p1 p2 p3 p4 = -2 := if_neg h
theorem tT_good {A B C : Nat} {p4 : Int32} (hA : A ≤ 60) (hB : B ≤ 60) (hC : C ≤ 9) (h : (0 ≤ nI A ∧ nI A ≤ 60) ∧ (0 ≤ nI B ∧ nI B ≤ 60) ∧ 1 ≤ nI C ∧ nI C ≤ 9) : tT (nI A) (nI B) (nI C) p4 = if p4 = 0 then (if tk C A B = -1 then 0 else 1) else tk C A B := by
  unfold tT
  rw [if_pos h, nI_clamp (by omega), nI_clamp (by omega), nI_clamp (by omega)]
theorem tX {less full : Nat → Int32} {p1 p2 p3 p4 : Int32} {post : Int32 → (Nat → Int32) → (Nat → Int32) → Prop} (hp : ∀ less full, post (tT p1 p2 p3 p4) less full) : q_wx_X10_trade_0 less full p1 p2 p3 p4 post := by
  have bad : ¬ ((0 ≤ p1 ∧ p1 ≤ 60) ∧ (0 ≤ p2 ∧ p2 ≤ 60) ∧ 1 ≤ p3 ∧ p3 ≤ 9) → post (-2) less full := fun hb => by
    have := hp less full
    rw [tT_bad hb] at this
    exact this
  refine ⟨fun h => bad (fun h2 => absurd h (Int32.not_lt.mpr h2.1.1)), fun h1 => ⟨fun h => bad (fun h2 => absurd h (Int32.not_lt.mpr h2.1.2)), fun h2 => ⟨fun h => bad (fun h2 => absurd h (Int32.not_lt.mpr h2.2.1.1)), fun h3 => ⟨fun h => bad (fun h2 => absurd h (Int32.not_lt.mpr h2.2.1.2)), fun h4 => ⟨fun h => bad (fun h2 => absurd h (Int32.not_lt.mpr h2.2.2.1)), fun h5 => ⟨fun h6 => ?_, fun h => bad (fun h2 => absurd h2.2.2.2 h)⟩⟩⟩⟩⟩⟩
  have h7 : ¬ p3 < 0 := fun h => h5 (by
    rw [Int32.lt_iff_toInt_lt] at h ⊢
    have a0 : (0 : Int32).toInt = 0 := rfl
    have a1 : (1 : Int32).toInt = 1 := rfl
    omega)
  have good : (0 ≤ p1 ∧ p1 ≤ 60) ∧ (0 ≤ p2 ∧ p2 ≤ 60) ∧ 1 ≤ p3 ∧ p3 ≤ 9 := ⟨⟨Int32.not_lt.mp h1, Int32.not_lt.mp h2⟩, ⟨Int32.not_lt.mp h3, Int32.not_lt.mp h4⟩, Int32.not_lt.mp h5, h6⟩
  obtain ⟨A, hA, rfl⟩ := nI_of2 (M := 60) (n := 60) (by decide) h1 (Int32.not_lt.mp h2)
  obtain ⟨B, hB, rfl⟩ := nI_of2 (M := 60) (n := 60) (by decide) h3 (Int32.not_lt.mp h4)
  obtain ⟨C, hC, rfl⟩ := nI_of2 (M := 9) (n := 9) (by decide) h7 h6
  have e := tT_good (p4 := p4) hA hB hC good
  refine sp_xlay hC hA hB (fun less full hf hl => ?_)
  refine sp_xft hC hA hB (fun j hj => hf j (by omega)) (fun w hw j hj => hl w hw j (by omega)) ?_
  have hp2 := hp less full
  rw [e] at hp2
  refine ⟨fun h0 => ?_, fun h0 => ?_⟩
  · rw [if_pos h0] at hp2
    exact ⟨fun ht => by rw [if_neg ht] at hp2; exact hp2, fun ht => by rw [if_pos ht] at hp2; exact hp2⟩
  · rw [if_neg h0] at hp2; exact hp2
theorem tM {c0 : Int32} {w : Nat → Int32} {p1 p2 p3 p4 : Int32} {post : Int32 → Int32 → (Nat → Int32) → Prop} (hp : ∀ c w, iv 0 0 c → post (tT p1 p2 p3 p4) c w) : q_m_trade_0 c0 w p1 p2 p3 p4 post := by
  show q_m_trade_0 0 w p1 p2 p3 p4 post
  have hp : ∀ w, post (tT p1 p2 p3 p4) 0 w := fun w => hp 0 w (iv_lit (by decide))
  by_cases good : (0 ≤ p1 ∧ p1 ≤ 60) ∧ (0 ≤ p2 ∧ p2 ≤ 60) ∧ 1 ≤ p3 ∧ p3 ≤ 9
  rotate_left
  · exact sp_mbad (by have := hp w; rw [tT_bad good] at this; exact this) good
  have h1 : ¬ p1 < 0 := Int32.not_lt.mpr good.1.1
  have h3 : ¬ p2 < 0 := Int32.not_lt.mpr good.2.1.1
  have h7 : ¬ p3 < 0 := fun h => (Int32.not_lt.mpr good.2.2.1) (by
    rw [Int32.lt_iff_toInt_lt] at h ⊢
    have a0 : (0 : Int32).toInt = 0 := rfl
    have a1 : (1 : Int32).toInt = 1 := rfl
    omega)
  obtain ⟨A, hA, rfl⟩ := nI_of2 (M := 60) (n := 60) (by decide) h1 good.1.2
  obtain ⟨B, hB, rfl⟩ := nI_of2 (M := 60) (n := 60) (by decide) h3 good.2.1.2
  obtain ⟨C, hC, rfl⟩ := nI_of2 (M := 9) (n := 9) (by decide) h7 good.2.2.2
  have e := tT_good (p4 := p4) hA hB hC good
  rw [e] at hp
  refine sp_in (fun h => absurd good.1 h) (fun _ _ => oi ?_)
  refine sp_in (fun h => absurd good.2.1 h) (fun _ _ => oi ?_)
  refine sp_in (fun h => absurd good.2.2 h) (fun _ _ => io ?_)
  exact sp_mtrade2 hC hA hB (fun h w => by have := hp w; rw [if_pos h] at this; exact this) (fun h w => by have := hp w; rw [if_neg h] at this; exact this)
end
section
theorem e_put {t : Nat → Int32} {n : Nat} {v : Int32} {post : (Nat → Int32) → Int32 → Prop} (hn : n + 4 ≤ 600) (ht : ∀ j, iv (-128) 127 (t j)) (h : ∀ t', (∀ j, iv (-128) 127 (t' j)) → post t' (nI (n + 4))) : q_wx_X9_put_0 t (nI n) v post := by
  intro P hP
  have st : ∀ (x y : Int32) (t : Nat → Int32) (m : Nat), ¬ x < 0 → y = x + -8 → m + 1 ≤ 600 → (∀ j, iv (-128) 127 (t j)) → (∀ t', (∀ j, iv (-128) 127 (t' j)) → P y t' (nI (m + 1))) → P x t (nI m) := by
    intro x y t m h1 h2 h3 h4 h5
    apply hP
    refine ⟨fun h => absurd h h1, fun _ => ⟨fun h => absurd h (nI_ge (b := 600) (by omega) (by omega)), fun _ v1 e1 => ⟨vp_in_nI (by omega) (by omega), fun t1 e2 v2 e3 v3 e5 => ?_⟩⟩⟩
    rw [e3, nI_1, e5, ← h2]
    exact h5 t1 (iv_updB e2 h4)
  refine st 24 16 _ n (by decide) (by decide) (by omega) ht fun t1 d1 => ?_
  refine st 16 8 _ (n + 1) (by decide) (by decide) (by omega) d1 fun t2 d2 => ?_
  refine st 8 0 _ (n + 2) (by decide) (by decide) (by omega) d2 fun t3 d3 => ?_
  refine st 0 (-8) _ (n + 3) (by decide) (by decide) (by omega) d3 fun t4 d4 => ?_
  apply hP
  exact ⟨fun _ => h t4 d4, fun h => absurd (by decide) h⟩
theorem e_len {n : Nat} (hn : n ≤ 600) : (nI n + (20 : Int32) ≤ (600 : Int32)) ↔ n + 20 ≤ 600 := by
  rw [show (20 : Int32) = nI 20 from rfl, show (600 : Int32) = nI 600 from rfl, nI_add]
  exact nI_leI (by omega) (by omega)
/-- what feed answers, and the length behind it -/
def feR (n : Int32) : Int32 := if n + 20 ≤ 600 then n + 20 else -1
def feL (n : Int32) : Int32 := if n + 20 ≤ 600 then n + 20 else n
def enR (n x : Int32) : Int32 := if 0 ≤ x ∧ x ≤ n then x else -1
def enL (n x : Int32) : Int32 := if 0 ≤ x ∧ x ≤ n then x else n
theorem e_x_feed {ta_tape : Nat → Int32} {tf_length x1 x2 x3 x4 x5 : Int32} {post : Int32 → (Nat → Int32) → Int32 → Prop} (k_ta_tape : ∀ j, iv (-128) 127 (ta_tape j)) (k_tf_length : iv 0 600 tf_length) (hpost : ∀ (t : Nat → Int32), (∀ j, iv (-128) 127 (t j)) → iv 0 600 (feL tf_length) → post (feR tf_length) t (feL tf_length)) : q_wx_X10_feed_0 ta_tape tf_length x1 x2 x3 x4 x5 post := by
  obtain ⟨n, rfl, -, hn6, hn2⟩ := iv_nI k_tf_length (by omega)
  have hn : n ≤ 600 := by omega
  unfold feR feL at hpost
  refine ⟨fun hc => ?_, fun hc => ?_⟩
  · have hle := (e_len hn).mp hc
    rw [if_pos hc, if_pos hc] at hpost
    have e20 : nI n + (20 : Int32) = nI (n + 20) := nI_add n 20
    rw [e20] at hpost
    refine e_put (by omega) k_ta_tape fun t1 d1 => ?_
    refine e_put (n := n + 4) (by omega) d1 fun t2 d2 => ?_
    refine e_put (n := n + 4 + 4) (by omega) d2 fun t3 d3 => ?_
    refine e_put (n := n + 4 + 4 + 4) (by omega) d3 fun t4 d4 => ?_
    refine e_put (n := n + 4 + 4 + 4 + 4) (by omega) d4 fun t5 d5 => ?_
    exact hpost t5 d5 (iv_ofN (by omega) (by omega) (by omega))
  · rw [if_neg hc, if_neg hc] at hpost
    exact hpost ta_tape k_ta_tape k_tf_length
theorem e_x_end {tf_length x1 : Int32} {post : Int32 → Int32 → Prop} (k_tf_length : iv 0 600 tf_length) (hpost : iv 0 600 (enL tf_length x1) → post (enR tf_length x1) (enL tf_length x1)) : q_wx_X10_end_0 tf_length x1 post := by
  unfold enL enR at hpost
  refine ⟨fun h => ?_, fun h => ⟨fun h2 => ?_, fun h2 => ?_⟩⟩
  · have hn : ¬ (0 ≤ x1 ∧ x1 ≤ tf_length) := fun h9 => absurd h (Int32.not_lt.mpr h9.1)
    rw [if_neg hn, if_neg hn] at hpost
    exact hpost k_tf_length
  · have hn : 0 ≤ x1 ∧ x1 ≤ tf_length := ⟨Int32.not_lt.mp h, h2⟩
    rw [if_pos hn, if_pos hn] at hpost
    refine hpost ⟨?_, Int.le_trans (Int32.le_iff_toInt_le.mp h2) k_tf_length.2⟩
    exact Int32.le_iff_toInt_le.mp hn.1
  · have hn : ¬ (0 ≤ x1 ∧ x1 ≤ tf_length) := fun h9 => h2 h9.2
    rw [if_neg hn, if_neg hn] at hpost
    exact hpost k_tf_length
theorem e_four {t z : Nat → Int32} {s : Nat} {v : Int32} {post : (Nat → Int32) → (Nat → Int32) → Prop} (hs : z 0 = nI s) (h4 : s + 4 ≤ 600) (hz : ∀ j, iv 0 600 (z j)) (ht : ∀ j, iv (-128) 127 (t j)) (h : ∀ t' z', z' 0 = nI (s + 4) → (∀ j, ¬ j = 0 → z' j = z j) → (∀ j, iv 0 600 (z' j)) → (∀ j, iv (-128) 127 (t' j)) → post t' z') : q_m_four_0 t z v post := by
  intro P hP
  have st : ∀ (x y : Int32) (t z : Nat → Int32) (m : Nat), ¬ x < 0 → y = x + -8 → z 0 = nI m → m + 1 ≤ 600 → (∀ j, iv 0 600 (z j)) → (∀ j, iv (-128) 127 (t j)) → (∀ t' z', z' 0 = nI (m + 1) → (∀ j, ¬ j = 0 → z' j = z j) → (∀ j, iv 0 600 (z' j)) → (∀ j, iv (-128) 127 (t' j)) → P y t' z') → P x t z := by
    intro x y t z m h1 h2 h3 h4 h5 h6 h7
    apply hP
    refine ⟨fun h => absurd h h1, fun _ v1 e1 => ?_⟩
    rw [c_0, h3]
    refine ⟨vp_in_nI (by omega) (by omega), fun t1 e2 v2 e3 z1 e4 v3 e5 => ?_⟩
    rw [nI_1] at e3
    rw [e5, ← h2]
    refine h7 t1 z1 ?_ ?_ (iv_upd e4 h5 (by rw [e3]; exact iv_ofN (by omega) (by omega) (by omega))) (iv_updB e2 h6)
    · rw [e4, e3]; exact up_s
    · intro j hj
      rw [e4]
      exact up_n hj
  refine st 24 16 _ _ s (by decide) (by decide) hs (by omega) hz ht fun t1 z1 a1 n1 b1 d1 => ?_
  refine st 16 8 _ _ (s + 1) (by decide) (by decide) a1 (by omega) b1 d1 fun t2 z2 a2 n2 b2 d2 => ?_
  refine st 8 0 _ _ (s + 2) (by decide) (by decide) a2 (by omega) b2 d2 fun t3 z3 a3 n3 b3 d3 => ?_
  refine st 0 (-8) _ _ (s + 3) (by decide) (by decide) a3 (by omega) b3 d3 fun t4 z4 a4 n4 b4 d4 => ?_
  apply hP
  exact ⟨fun _ => h t4 z4 a4 (fun j hj => by rw [n4 j hj, n3 j hj, n2 j hj, n1 j hj]) b4 d4, fun h => absurd (by decide) h⟩
theorem e_m_feed {f_code : Int32} {a_tape a_size : Nat → Int32} {x1 x2 x3 x4 x5 : Int32} {post : Int32 → Int32 → (Nat → Int32) → (Nat → Int32) → Prop} (k_a_tape : ∀ j, iv (-128) 127 (a_tape j)) (k_a_size : ∀ j, iv 0 600 (a_size j)) (hpost : ∀ (t z : Nat → Int32), (∀ j, iv (-128) 127 (t j)) → (∀ j, iv 0 600 (z j)) → z 0 = feL (a_size 0) → (∀ j, ¬ j = 0 → z j = a_size j) → post (feR (a_size 0)) 0 t z) : q_m_feed_0 f_code a_tape a_size x1 x2 x3 x4 x5 post := by
  unfold feR feL at hpost
  refine ⟨fun hc => ?_, fun hc => ?_⟩
  · rw [c_0] at hc
    obtain ⟨s, hs, -, hs6, hs2⟩ := iv_nI (k_a_size 0) (by omega)
    rw [if_pos hc, if_pos hc] at hpost
    rw [hs] at hc hpost
    have hle : s + 20 ≤ 600 := (e_len (by omega)).mp hc
    have e20 : nI s + (20 : Int32) = nI (s + 20) := nI_add s 20
    rw [e20] at hpost
    refine e_four hs (by omega) k_a_size k_a_tape fun t1 z1 a1 n1 b1 d1 => ?_
    refine e_four a1 (by omega) b1 d1 fun t2 z2 a2 n2 b2 d2 => ?_
    refine e_four a2 (by omega) b2 d2 fun t3 z3 a3 n3 b3 d3 => ?_
    refine e_four a3 (by omega) b3 d3 fun t4 z4 a4 n4 b4 d4 => ?_
    refine e_four a4 (by omega) b4 d4 fun t5 z5 a5 n5 b5 d5 => ?_
    have h9 := hpost t5 z5 d5 b5 a5 (fun j hj => by rw [n5 j hj, n4 j hj, n3 j hj, n2 j hj, n1 j hj])
    rw [c_0, a5]
    exact h9
  · rw [c_0] at hc
    rw [if_neg hc, if_neg hc] at hpost
    exact hpost a_tape a_size k_a_tape k_a_size rfl (fun _ _ => rfl)
theorem e_m_end {f_code : Int32} {a_size : Nat → Int32} {x1 : Int32} {post : Int32 → Int32 → (Nat → Int32) → Prop} (k_a_size : ∀ j, iv 0 600 (a_size j)) (hpost : ∀ (z : Nat → Int32), (∀ j, iv 0 600 (z j)) → z 0 = enL (a_size 0) x1 → (∀ j, ¬ j = 0 → z j = a_size j) → post (enR (a_size 0) x1) 0 z) : q_m_end_0 f_code a_size x1 post := by
  unfold enR enL at hpost
  refine sp_in (fun h => zi ?_) (fun h1 h2 => io (fun z e => ?_))
  · rw [c_0] at h
    rw [if_neg h, if_neg h] at hpost
    exact hpost a_size k_a_size rfl (fun _ _ => rfl)
  · rw [c_0] at h2 e
    rw [if_pos ⟨h1, h2⟩, if_pos ⟨h1, h2⟩] at hpost
    refine hpost z (iv_upd e k_a_size ⟨Int32.le_iff_toInt_le.mp h1, Int.le_trans (Int32.le_iff_toInt_le.mp h2) (k_a_size 0).2⟩) (by rw [e]; exact up_s) (fun j hj => by rw [e]; exact up_n hj)
theorem e_m_text {f_code : Int32} {a_tape : Nat → Int32} {a_size a0 : Nat → Int32} {a_fault : Nat → Int32} {a_faultPlace : Nat → Int32} {a_many : Nat → Int32} {a_lands : Nat → Int32} {a_evenings : Nat → Int32} {a_sights : Nat → Int32} {a_choirs : Nat → Int32} {f_reached : Int32} {f_length : Int32} {f_begins : Int32} {f_sort : Int32} {f_value : Int32} {f_word : Int64} {f_wrongAt : Int32} {f_laterFault : Int32} {f_laterPlace : Int32} {a_told : Nat → Int32} {a_read : Nat → Int32} {f_farHut : Int32} {f_farSinger : Int32} {f_good : Int32} {x1 : Int32} {x2 : Int32} {post : Int32 → (Int32) → (Nat → Int32) → (Nat → Int32) → (Nat → Int32) → (Nat → Int32) → (Nat → Int32) → (Nat → Int32) → (Nat → Int32) → (Nat → Int32) → (Int32) → (Int32) → (Int32) → (Int32) → (Int32) → (Int64) → (Int32) → (Int32) → (Int32) → (Nat → Int32) → (Nat → Int32) → (Int32) → (Int32) → (Int32) → Prop} (ha0 : a_size = a0) (k_f_code : iv 0 0 f_code) (k_a_tape : ∀ j, iv (-128) 127 (a_tape j)) (k_a_size : ∀ j, iv 0 600 (a_size j)) (k_a_many : ∀ j, iv 0 2 (a_many j)) (k_a_lands : mLand a_lands) (k_a_evenings : mEve a_evenings) (k_a_sights : mSig a_sights) (k_a_choirs : mCho a_choirs) (hpost : ∀ (r : Int32) (f_code : Int32) (a_size : Nat → Int32) (a_fault : Nat → Int32) (a_faultPlace : Nat → Int32) (a_many : Nat → Int32) (a_lands : Nat → Int32) (a_evenings : Nat → Int32) (a_sights : Nat → Int32) (a_choirs : Nat → Int32) (f_reached : Int32) (f_length : Int32) (f_begins : Int32) (f_sort : Int32) (f_value : Int32) (f_word : Int64) (f_wrongAt : Int32) (f_laterFault : Int32) (f_laterPlace : Int32) (a_told : Nat → Int32) (a_read : Nat → Int32) (f_farHut : Int32) (f_farSinger : Int32) (f_good : Int32), (a_size 0 = 0) → (∀ j, ¬ j = 0 → a_size j = a0 j) → (iv 0 0 f_code) → (∀ j, iv 0 600 (a_size j)) → (∀ j, iv 0 2 (a_many j)) → (mLand a_lands) → (mEve a_evenings) → (mSig a_sights) → (mCho a_choirs) → post r f_code a_size a_fault a_faultPlace a_many a_lands a_evenings a_sights a_choirs f_reached f_length f_begins f_sort f_value f_word f_wrongAt f_laterFault f_laterPlace a_told a_read f_farHut f_farSinger f_good) : q_m_text_0 f_code a_tape a_size a_fault a_faultPlace a_many a_lands a_evenings a_sights a_choirs f_reached f_length f_begins f_sort f_value f_word f_wrongAt f_laterFault f_laterPlace a_told a_read f_farHut f_farSinger f_good x1 x2 post := by
  subst ha0
  intro vl el z ez fa ef fp ep
  have y1 : z 0 = 0 := by rw [ez, c_0]; exact up_s
  have y2 : ∀ j, ¬ j = 0 → z j = a_size j := fun j hj => by rw [ez, c_0]; exact up_n hj
  have hz : ∀ j, iv 0 600 (z j) := iv_upd ez k_a_size (iv_lit (by decide))
  have hvl : iv 0 600 vl := iv_eq el (k_a_size _)
  obtain ⟨n, rfl, -, hn, hn2⟩ := iv_nI hvl (by omega)
  refine sp_in (fun _ => iz (hpost _ _ _ _ _ _ _ _ _ _ _ _ _ _ _ _ _ _ _ _ _ _ _ _ y1 y2 (iv_lit (by decide)) hz k_a_many k_a_lands k_a_evenings k_a_sights k_a_choirs)) (fun a1 a2 => oi ?_)
  obtain ⟨o, rfl, -, ho, ho2⟩ := iv_nI (iv_of (l := 0) (h := 3) rfl rfl a1 a2) (by omega)
  have hx : vp_in (nI o) 16 := vp_in_nI (by omega) (by omega)
  rw [nI_clamp (by omega)]
  have hmo := k_a_many o
  have k75 : (x2 = -1 → ¬ a_many o = 2) → (¬ x2 = -1 → ∃ K, K ≤ 1 ∧ x2 = nI K) → q_m_text_75 0 a_tape z fa fp a_many a_lands a_evenings a_sights a_choirs f_reached (nI n) f_begins f_sort f_value f_word f_wrongAt f_laterFault f_laterPlace a_told a_read f_farHut f_farSinger f_good (nI o) x2 post := by
    intro q1 q2
    refine sp_readTextT (by omega) (by omega) (fun _ _ _ _ _ _ _ _ _ _ _ _ _ _ _ => zi (hpost _ _ _ _ _ _ _ _ _ _ _ _ _ _ _ _ _ _ _ _ _ _ _ _ y1 y2 (iv_lit (by decide)) hz k_a_many k_a_lands k_a_evenings k_a_sights k_a_choirs)) (fun fa fp re be so va wd wr lf lp told rd fh fs gd hok => io ?_)
    have k118 : ∀ (k : Nat) (y : Int32), k ≤ 1 → iv 0 2 (a_many o + y) → q_m_text_118 0 a_tape z fa fp a_many a_lands a_evenings a_sights a_choirs re (nI n) be so va wd wr lf lp told rd fh fs gd (nI o) (nI k) (nI o) (a_many o) y post := by
      intro k y hk hy v1 e1
      refine ⟨hx, fun m1 em => ?_⟩
      refine sp_storeAllT (by omega) hk k_a_lands k_a_evenings k_a_sights k_a_choirs hok (fun l e s c h1 h2 h3 h4 => hpost _ _ _ _ _ _ _ _ _ _ _ _ _ _ _ _ _ _ _ _ _ _ _ _ y1 y2 (iv_lit (by decide)) hz (iv_upd em k_a_many (iv_eq e1 hy)) h1 h2 h3 h4)
    have y0 : iv 0 2 (a_many o + 0) := iv_add hmo (iv_lit (l := 0) (h := 0) (by decide)) (by decide)
    refine ⟨fun h => ?_, fun h => ⟨hx, ?_⟩⟩
    · obtain ⟨K, hK, rfl⟩ := q2 h
      refine ⟨hx, fun _ => ?_, fun h9 => absurd h9 h⟩
      rw [nI_clamp (by omega)]
      exact k118 K 0 hK y0
    · have hm1 : iv 0 1 (a_many o) := iv_ne (q1 h) hmo (iv_lit (l := 2) (h := 2) (by decide)) (by decide)
      obtain ⟨K, hKe, -, hK, hK2⟩ := iv_nI hm1 (by omega)
      refine ⟨hx, fun h9 => absurd h h9, fun _ => ?_⟩
      rw [nI_clamp (by omega)]
      have h9 := k118 K 1 (by omega) (iv_add hm1 (iv_lit (l := 1) (h := 1) (by decide)) (by decide))
      rw [← hKe] at h9
      exact h9
  refine ⟨fun hne => ?_, fun hm => ⟨hx, fun h2 => k75 (fun _ => h2) (fun h => absurd hm h), fun _ => hpost _ _ _ _ _ _ _ _ _ _ _ _ _ _ _ _ _ _ _ _ _ _ _ _ y1 y2 (iv_lit (by decide)) hz k_a_many k_a_lands k_a_evenings k_a_sights k_a_choirs⟩⟩
  refine ⟨hx, ?_⟩
  rw [nI_clamp (by omega)]
  refine sp_in (fun _ => ⟨rfl, zi (hpost _ _ _ _ _ _ _ _ _ _ _ _ _ _ _ _ _ _ _ _ _ _ _ _ y1 y2 (iv_lit (by decide)) hz k_a_many k_a_lands k_a_evenings k_a_sights k_a_choirs)⟩) (fun g1 g2 => ⟨rfl, io (k75 (fun h => absurd h hne) (fun _ => ?_))⟩)
  have hxx : iv 0 1 x2 := iv_lea (r_le g2) (iv_leb (l := 0) (h := 2147483647) (r_le g1) (iv_lit (l := 0) (h := 0) (by decide)) (iv_top x2) (by decide)) (iv_sub (l := -1) (h := 1) hmo (iv_lit (l := 1) (h := 1) (by decide)) (by decide)) (by decide)
  obtain ⟨K, hKe, -, hK, hK2⟩ := iv_nI hxx (by omega)
  exact ⟨K, by omega, hKe⟩

theorem cp_at {a a' : Nat → Int32} {f g : Nat} (h : ∀ i, i < 1 → a' (1 * g + i) = a (1 * f + i)) : a' g = a f := by
  have := h 0 (by omega)
  rw [Nat.one_mul, Nat.one_mul, Nat.add_zero, Nat.add_zero] at this
  exact this
theorem cp_ne {a a' : Nat → Int32} {g : Nat} (h : ∀ j, j < 1 * g ∨ 1 * g + 1 ≤ j → a' j = a j) : ∀ j, ¬ j = g → a' j = a j := fun j hj => h j (by omega)
theorem e_copyAll {t z fa fp mn l e s c : Nat → Int32} {f g : Nat} {post : (Nat → Int32) → (Nat → Int32) → (Nat → Int32) → (Nat → Int32) → (Nat → Int32) → (Nat → Int32) → (Nat → Int32) → (Nat → Int32) → (Nat → Int32) → Prop} (hf : f ≤ 3) (hg : g ≤ 3) (hne : ¬ f = g) (ht : ∀ j, iv (-128) 127 (t j)) (hz : ∀ j, iv 0 600 (z j)) (hm : ∀ j, iv 0 2 (mn j)) (hl : mLand l) (he : mEve e) (hs : mSig s) (hc : mCho c)
    (h : ∀ t z1 fa fp mn l e s c, z1 g = z f → (∀ j, ¬ j = g → z1 j = z j) → (∀ j, iv (-128) 127 (t j)) → (∀ j, iv 0 600 (z1 j)) → (∀ j, iv 0 2 (mn j)) → mLand l → mEve e → mSig s → mCho c → post t z1 fa fp mn l e s c) : q_m_copyAll_0 t z fa fp mn l e s c (nI f) (nI g) post := by
  intro P hP
  have ef : (600 : Int32) * nI f = nI (600 * f) := pk_mul 600 f
  have eg : (600 : Int32) * nI g = nI (600 * g) := pk_mul 600 g
  have loop : ∀ (n i : Nat) (t : Nat → Int32), n + i = 600 → (∀ j, iv (-128) 127 (t j)) → P (nI i) t := by
    intro n
    induction n with
    | zero =>
      intro i t hi ht
      apply hP
      refine ⟨fun _ => ?_, fun h2 => absurd (nI_le (a := 600) (by omega) (by omega)) h2⟩
      exact sp_row2E hf hg hne fun z' z1 z2 => sp_row3E hf hg hne fun _ _ _ => sp_row4E hf hg hne fun _ _ _ => sp_row5E hf hg hne fun m' m1 m2 => sp_row6E hf hg hne fun l' l1 l2 => sp_row7E hf hg hne fun e' e1 e2 => sp_row8E hf hg hne fun s' s1 s2 => sp_row9E hf hg hne fun c' c1 c2 => h _ _ _ _ _ _ _ _ _ (cp_at z1) (cp_ne z2) ht (cp_any hz z1 z2) (cp_any hm m1 m2) (cp_L hf hg hl l1 l2) (cp_E hf hg he e1 e2) (cp_S hf hg hs s1 s2) (cp_C hf hg hc c1 c2)
    | succ n ih =>
      intro i t hi ht
      apply hP
      refine ⟨fun h2 => absurd h2 (nI_ge (b := 600) (by omega) (by omega)), fun _ => ?_⟩
      rw [ef, eg, nI_add, nI_add]
      refine ⟨vp_in_nI (by omega) (by omega), fun v1 _ => ⟨vp_in_nI (by omega) (by omega), fun t1 e1 v2 e2 => ?_⟩⟩
      rw [e2, nI_1]
      exact ih (i + 1) t1 (by omega) (iv_updB e1 ht)
  exact loop 600 0 t rfl ht

/-- which image is meant: none, or a place below 3 -/
def imJ (x : Int32) : Prop := 0 ≤ x ∧ x ≤ 2
theorem e_m_image {f_code : Int32} {a_tape a_size a_fault a_faultPlace a_many a_lands a_evenings a_sights a_choirs a_kept : Nat → Int32} {x1 : Int32} {post : Int32 → Int32 → (Nat → Int32) → (Nat → Int32) → (Nat → Int32) → (Nat → Int32) → (Nat → Int32) → (Nat → Int32) → (Nat → Int32) → (Nat → Int32) → (Nat → Int32) → (Nat → Int32) → Prop} (k_a_tape : ∀ j, iv (-128) 127 (a_tape j)) (k_a_size : ∀ j, iv 0 600 (a_size j)) (k_a_many : ∀ j, iv 0 2 (a_many j)) (k_a_lands : mLand a_lands) (k_a_evenings : mEve a_evenings) (k_a_sights : mSig a_sights) (k_a_choirs : mCho a_choirs) (k_a_kept : ∀ j, iv 0 1 (a_kept j)) (h0 : ¬ imJ x1 → post 0 0 a_tape a_size a_fault a_faultPlace a_many a_lands a_evenings a_sights a_choirs a_kept) (h1 : ∀ k, k < 3 → x1 = nI k → ∀ t z fa fp mn l e s c kp, z (k + 1) = a_size 0 → (∀ j, ¬ j = k + 1 → z j = a_size j) → kp k = 1 → (∀ j, ¬ j = k → kp j = a_kept j) → (∀ j, iv (-128) 127 (t j)) → (∀ j, iv 0 600 (z j)) → (∀ j, iv 0 2 (mn j)) → mLand l → mEve e → mSig s → mCho c → (∀ j, iv 0 1 (kp j)) → post 1 0 t z fa fp mn l e s c kp) : q_m_image_0 f_code a_tape a_size a_fault a_faultPlace a_many a_lands a_evenings a_sights a_choirs a_kept x1 post := by
  refine sp_in (fun h => zi (h0 h)) (fun a1 a2 => io ?_)
  obtain ⟨j, rfl, -, hj, hj2⟩ := iv_nI (iv_of (l := 0) (h := 2) rfl rfl a1 a2) (by omega)
  rw [nI_1]
  refine e_copyAll (f := 0) (by omega) (by omega) (by omega) k_a_tape k_a_size k_a_many k_a_lands k_a_evenings k_a_sights k_a_choirs (fun t z fa fp mn l e s c y1 y2 h1' h2 h3 h4 h5 h6 h7 => ⟨vp_in_nI (by omega) (by omega), fun kp ek => ?_⟩)
  rw [nI_clamp (by omega)] at ek
  exact h1 j (by omega) rfl t z fa fp mn l e s c kp y1 y2 (by rw [ek]; exact up_s) (fun q hq => by rw [ek]; exact up_n hq) h1' h2 h3 h4 h5 h6 h7 (iv_updZ ek k_a_kept)
theorem e_m_again {f_code : Int32} {a_tape a_size a_fault a_faultPlace a_many a_lands a_evenings a_sights a_choirs a_kept : Nat → Int32} {x1 : Int32} {post : Int32 → Int32 → (Nat → Int32) → (Nat → Int32) → (Nat → Int32) → (Nat → Int32) → (Nat → Int32) → (Nat → Int32) → (Nat → Int32) → (Nat → Int32) → (Nat → Int32) → Prop} (k_a_tape : ∀ j, iv (-128) 127 (a_tape j)) (k_a_size : ∀ j, iv 0 600 (a_size j)) (k_a_many : ∀ j, iv 0 2 (a_many j)) (k_a_lands : mLand a_lands) (k_a_evenings : mEve a_evenings) (k_a_sights : mSig a_sights) (k_a_choirs : mCho a_choirs) (h0 : ¬ (∃ k, k < 3 ∧ x1 = nI k ∧ ¬ a_kept k = 0) → post 0 0 a_tape a_size a_fault a_faultPlace a_many a_lands a_evenings a_sights a_choirs) (h1 : ∀ k, k < 3 → x1 = nI k → ¬ a_kept k = 0 → ∀ t z fa fp mn l e s c, z 0 = a_size (k + 1) → (∀ j, ¬ j = 0 → z j = a_size j) → (∀ j, iv (-128) 127 (t j)) → (∀ j, iv 0 600 (z j)) → (∀ j, iv 0 2 (mn j)) → mLand l → mEve e → mSig s → mCho c → post 1 0 t z fa fp mn l e s c) : q_m_again_0 f_code a_tape a_size a_fault a_faultPlace a_many a_lands a_evenings a_sights a_choirs a_kept x1 post := by
  refine sp_in (fun h => ⟨fun _ => h0 (fun ⟨k, hk, e, _⟩ => h (by rw [e]; exact ⟨nI_pos' (by omega), nI_le (b := 2) (by omega) (by omega)⟩)), fun h9 => absurd rfl h9⟩) (fun a1 a2 => ⟨fun h9 => absurd h9 (by decide), fun _ => ?_⟩)
  obtain ⟨j, rfl, -, hj, hj2⟩ := iv_nI (iv_of (l := 0) (h := 2) rfl rfl a1 a2) (by omega)
  refine ⟨vp_in_nI (by omega) (by omega), ?_⟩
  rw [nI_clamp (by omega)]
  refine ⟨fun hk => ?_, fun hk => h0 (fun ⟨k, hk3, e, h9⟩ => h9 (by rw [(nI_eq (by omega) (by omega)).mp e] at hk; exact hk))⟩
  rw [nI_1]
  exact e_copyAll (g := 0) (by omega) (by omega) (by omega) k_a_tape k_a_size k_a_many k_a_lands k_a_evenings k_a_sights k_a_choirs (fun t z fa fp mn l e s c y1 y2 g1 g2 g3 g4 g5 g6 g7 => h1 j (by omega) rfl hk t z fa fp mn l e s c y1 y2 g1 g2 g3 g4 g5 g6 g7)
set_option maxRecDepth 20000 in
theorem e_copy_57 {a_tape : Nat → Int32} {f_length : Int32} {f_fault : Int32} {f_place : Int32} {a_counts : Nat → Int32} {l0f_huts : Int32} {l0f_singers : Int32} {l0f_villages : Int32} {l0f_dams : Int32} {l0f_echoes : Int32} {l0f_deep : Int32} {l0f_slide : Int32} {l0a_heights : Nat → Int32} {l0a_ladders : Nat → Int32} {l0a_minutes : Nat → Int32} {l0a_echoFrom : Nat → Int32} {l0a_echoTo : Nat → Int32} {l0a_homes : Nat → Int32} {l0a_talls : Nat → Int32} {l0a_known : Nat → Int32} {l1f_huts : Int32} {l1f_singers : Int32} {l1f_villages : Int32} {l1f_dams : Int32} {l1f_echoes : Int32} {l1f_deep : Int32} {l1f_slide : Int32} {l1a_heights : Nat → Int32} {l1a_ladders : Nat → Int32} {l1a_minutes : Nat → Int32} {l1a_echoFrom : Nat → Int32} {l1a_echoTo : Nat → Int32} {l1a_homes : Nat → Int32} {l1a_talls : Nat → Int32} {l1a_known : Nat → Int32} {v0f_deeds : Int32} {v0a_kinds : Nat → Int32} {v0a_firsts : Nat → Int32} {v0a_seconds : Nat → Int32} {v1f_deeds : Int32} {v1a_kinds : Nat → Int32} {v1a_firsts : Nat → Int32} {v1a_seconds : Nat → Int32} {s0f_facts : Int32} {s0a_heard : Nat → Int32} {s0a_huts : Nat → Int32} {s0a_minutes : Nat → Int32} {s1f_facts : Int32} {s1a_heard : Nat → Int32} {s1a_huts : Nat → Int32} {s1a_minutes : Nat → Int32} {c0f_voices : Int32} {c0f_step : Int32} {c0a_parts : Nat → Int32} {c0a_heights : Nat → Int32} {c1f_voices : Int32} {c1f_step : Int32} {c1a_parts : Nat → Int32} {c1a_heights : Nat → Int32} {oa_tape : Nat → Int32} {of_length : Int32} {of_fault : Int32} {of_place : Int32} {oa_counts : Nat → Int32} {ol0f_huts : Int32} {ol0f_singers : Int32} {ol0f_villages : Int32} {ol0f_dams : Int32} {ol0f_echoes : Int32} {ol0f_deep : Int32} {ol0f_slide : Int32} {ol0a_heights : Nat → Int32} {ol0a_ladders : Nat → Int32} {ol0a_minutes : Nat → Int32} {ol0a_echoFrom : Nat → Int32} {ol0a_echoTo : Nat → Int32} {ol0a_homes : Nat → Int32} {ol0a_talls : Nat → Int32} {ol0a_known : Nat → Int32} {ol1f_huts : Int32} {ol1f_singers : Int32} {ol1f_villages : Int32} {ol1f_dams : Int32} {ol1f_echoes : Int32} {ol1f_deep : Int32} {ol1f_slide : Int32} {ol1a_heights : Nat → Int32} {ol1a_ladders : Nat → Int32} {ol1a_minutes : Nat → Int32} {ol1a_echoFrom : Nat → Int32} {ol1a_echoTo : Nat → Int32} {ol1a_homes : Nat → Int32} {ol1a_talls : Nat → Int32} {ol1a_known : Nat → Int32} {ov0f_deeds : Int32} {ov0a_kinds : Nat → Int32} {ov0a_firsts : Nat → Int32} {ov0a_seconds : Nat → Int32} {ov1f_deeds : Int32} {ov1a_kinds : Nat → Int32} {ov1a_firsts : Nat → Int32} {ov1a_seconds : Nat → Int32} {os0f_facts : Int32} {os0a_heard : Nat → Int32} {os0a_huts : Nat → Int32} {os0a_minutes : Nat → Int32} {os1f_facts : Int32} {os1a_heard : Nat → Int32} {os1a_huts : Nat → Int32} {os1a_minutes : Nat → Int32} {oc0f_voices : Int32} {oc0f_step : Int32} {oc0a_parts : Nat → Int32} {oc0a_heights : Nat → Int32} {oc1f_voices : Int32} {oc1f_step : Int32} {oc1a_parts : Nat → Int32} {oc1a_heights : Nat → Int32} {x2 : Int32} {post : (Nat → Int32) → (Int32) → (Int32) → (Int32) → (Nat → Int32) → (Int32) → (Int32) → (Int32) → (Int32) → (Int32) → (Int32) → (Int32) → (Nat → Int32) → (Nat → Int32) → (Nat → Int32) → (Nat → Int32) → (Nat → Int32) → (Nat → Int32) → (Nat → Int32) → (Nat → Int32) → (Int32) → (Int32) → (Int32) → (Int32) → (Int32) → (Int32) → (Int32) → (Nat → Int32) → (Nat → Int32) → (Nat → Int32) → (Nat → Int32) → (Nat → Int32) → (Nat → Int32) → (Nat → Int32) → (Nat → Int32) → (Int32) → (Nat → Int32) → (Nat → Int32) → (Nat → Int32) → (Int32) → (Nat → Int32) → (Nat → Int32) → (Nat → Int32) → (Int32) → (Nat → Int32) → (Nat → Int32) → (Nat → Int32) → (Int32) → (Nat → Int32) → (Nat → Int32) → (Nat → Int32) → (Int32) → (Int32) → (Nat → Int32) → (Nat → Int32) → (Int32) → (Int32) → (Nat → Int32) → (Nat → Int32) → Prop} {f0 : Int32} (hlen : f_length = f0) (k_a_tape : ∀ j, iv (-128) 127 (a_tape j)) (k_f_length : iv 0 600 f_length) (k_f_fault : iv 0 4 f_fault) (k_f_place : iv (-1) 600 f_place) (k_a_counts : ∀ j, iv 0 2 (a_counts j)) (k_l0f_huts : iv 0 9 l0f_huts) (k_l0f_singers : iv 0 6 l0f_singers) (k_l0f_villages : iv 0 511 l0f_villages) (k_l0f_dams : iv 0 511 l0f_dams) (k_l0f_echoes : iv 0 4 l0f_echoes) (k_l0f_deep : iv 1 9 l0f_deep) (k_l0f_slide : iv 0 10 l0f_slide) (k_l0a_heights : ∀ j, iv 0 99 (l0a_heights j)) (k_l0a_ladders : ∀ j, iv 0 9 (l0a_ladders j)) (k_l0a_minutes : ∀ j, iv 0 9 (l0a_minutes j)) (k_l0a_echoFrom : ∀ j, iv 0 8 (l0a_echoFrom j)) (k_l0a_echoTo : ∀ j, iv 0 8 (l0a_echoTo j)) (k_l0a_homes : ∀ j, iv 0 8 (l0a_homes j)) (k_l0a_talls : ∀ j, iv 0 9 (l0a_talls j)) (k_l0a_known : ∀ j, iv 0 31 (l0a_known j)) (k_l1f_huts : iv 0 9 l1f_huts) (k_l1f_singers : iv 0 6 l1f_singers) (k_l1f_villages : iv 0 511 l1f_villages) (k_l1f_dams : iv 0 511 l1f_dams) (k_l1f_echoes : iv 0 4 l1f_echoes) (k_l1f_deep : iv 1 9 l1f_deep) (k_l1f_slide : iv 0 10 l1f_slide) (k_l1a_heights : ∀ j, iv 0 99 (l1a_heights j)) (k_l1a_ladders : ∀ j, iv 0 9 (l1a_ladders j)) (k_l1a_minutes : ∀ j, iv 0 9 (l1a_minutes j)) (k_l1a_echoFrom : ∀ j, iv 0 8 (l1a_echoFrom j)) (k_l1a_echoTo : ∀ j, iv 0 8 (l1a_echoTo j)) (k_l1a_homes : ∀ j, iv 0 8 (l1a_homes j)) (k_l1a_talls : ∀ j, iv 0 9 (l1a_talls j)) (k_l1a_known : ∀ j, iv 0 31 (l1a_known j)) (k_v0f_deeds : iv 0 40 v0f_deeds) (k_v0a_kinds : ∀ j, iv 0 5 (v0a_kinds j)) (k_v0a_firsts : ∀ j, iv 0 5 (v0a_firsts j)) (k_v0a_seconds : ∀ j, iv (-1) 8 (v0a_seconds j)) (k_v1f_deeds : iv 0 40 v1f_deeds) (k_v1a_kinds : ∀ j, iv 0 5 (v1a_kinds j)) (k_v1a_firsts : ∀ j, iv 0 5 (v1a_firsts j)) (k_v1a_seconds : ∀ j, iv (-1) 8 (v1a_seconds j)) (k_s0f_facts : iv 0 10 s0f_facts) (k_s0a_heard : ∀ j, iv 0 1 (s0a_heard j)) (k_s0a_huts : ∀ j, iv 0 8 (s0a_huts j)) (k_s0a_minutes : ∀ j, iv 0 60 (s0a_minutes j)) (k_s1f_facts : iv 0 10 s1f_facts) (k_s1a_heard : ∀ j, iv 0 1 (s1a_heard j)) (k_s1a_huts : ∀ j, iv 0 8 (s1a_huts j)) (k_s1a_minutes : ∀ j, iv 0 60 (s1a_minutes j)) (k_c0f_voices : iv 0 9 c0f_voices) (k_c0f_step : iv 0 9 c0f_step) (k_c0a_parts : ∀ j, iv 0 3 (c0a_parts j)) (k_c0a_heights : ∀ j, iv 0 9 (c0a_heights j)) (k_c1f_voices : iv 0 9 c1f_voices) (k_c1f_step : iv 0 9 c1f_step) (k_c1a_parts : ∀ j, iv 0 3 (c1a_parts j)) (k_c1a_heights : ∀ j, iv 0 9 (c1a_heights j)) (k_oa_tape : ∀ j, iv (-128) 127 (oa_tape j)) (k_of_length : iv 0 600 of_length) (k_of_fault : iv 0 4 of_fault) (k_of_place : iv (-1) 600 of_place) (k_oa_counts : ∀ j, iv 0 2 (oa_counts j)) (k_ol0f_huts : iv 0 9 ol0f_huts) (k_ol0f_singers : iv 0 6 ol0f_singers) (k_ol0f_villages : iv 0 511 ol0f_villages) (k_ol0f_dams : iv 0 511 ol0f_dams) (k_ol0f_echoes : iv 0 4 ol0f_echoes) (k_ol0f_deep : iv 1 9 ol0f_deep) (k_ol0f_slide : iv 0 10 ol0f_slide) (k_ol0a_heights : ∀ j, iv 0 99 (ol0a_heights j)) (k_ol0a_ladders : ∀ j, iv 0 9 (ol0a_ladders j)) (k_ol0a_minutes : ∀ j, iv 0 9 (ol0a_minutes j)) (k_ol0a_echoFrom : ∀ j, iv 0 8 (ol0a_echoFrom j)) (k_ol0a_echoTo : ∀ j, iv 0 8 (ol0a_echoTo j)) (k_ol0a_homes : ∀ j, iv 0 8 (ol0a_homes j)) (k_ol0a_talls : ∀ j, iv 0 9 (ol0a_talls j)) (k_ol0a_known : ∀ j, iv 0 31 (ol0a_known j)) (k_ol1f_huts : iv 0 9 ol1f_huts) (k_ol1f_singers : iv 0 6 ol1f_singers) (k_ol1f_villages : iv 0 511 ol1f_villages) (k_ol1f_dams : iv 0 511 ol1f_dams) (k_ol1f_echoes : iv 0 4 ol1f_echoes) (k_ol1f_deep : iv 1 9 ol1f_deep) (k_ol1f_slide : iv 0 10 ol1f_slide) (k_ol1a_heights : ∀ j, iv 0 99 (ol1a_heights j)) (k_ol1a_ladders : ∀ j, iv 0 9 (ol1a_ladders j)) (k_ol1a_minutes : ∀ j, iv 0 9 (ol1a_minutes j)) (k_ol1a_echoFrom : ∀ j, iv 0 8 (ol1a_echoFrom j)) (k_ol1a_echoTo : ∀ j, iv 0 8 (ol1a_echoTo j)) (k_ol1a_homes : ∀ j, iv 0 8 (ol1a_homes j)) (k_ol1a_talls : ∀ j, iv 0 9 (ol1a_talls j)) (k_ol1a_known : ∀ j, iv 0 31 (ol1a_known j)) (k_ov0f_deeds : iv 0 40 ov0f_deeds) (k_ov0a_kinds : ∀ j, iv 0 5 (ov0a_kinds j)) (k_ov0a_firsts : ∀ j, iv 0 5 (ov0a_firsts j)) (k_ov0a_seconds : ∀ j, iv (-1) 8 (ov0a_seconds j)) (k_ov1f_deeds : iv 0 40 ov1f_deeds) (k_ov1a_kinds : ∀ j, iv 0 5 (ov1a_kinds j)) (k_ov1a_firsts : ∀ j, iv 0 5 (ov1a_firsts j)) (k_ov1a_seconds : ∀ j, iv (-1) 8 (ov1a_seconds j)) (k_os0f_facts : iv 0 10 os0f_facts) (k_os0a_heard : ∀ j, iv 0 1 (os0a_heard j)) (k_os0a_huts : ∀ j, iv 0 8 (os0a_huts j)) (k_os0a_minutes : ∀ j, iv 0 60 (os0a_minutes j)) (k_os1f_facts : iv 0 10 os1f_facts) (k_os1a_heard : ∀ j, iv 0 1 (os1a_heard j)) (k_os1a_huts : ∀ j, iv 0 8 (os1a_huts j)) (k_os1a_minutes : ∀ j, iv 0 60 (os1a_minutes j)) (k_oc0f_voices : iv 0 9 oc0f_voices) (k_oc0f_step : iv 0 9 oc0f_step) (k_oc0a_parts : ∀ j, iv 0 3 (oc0a_parts j)) (k_oc0a_heights : ∀ j, iv 0 9 (oc0a_heights j)) (k_oc1f_voices : iv 0 9 oc1f_voices) (k_oc1f_step : iv 0 9 oc1f_step) (k_oc1a_parts : ∀ j, iv 0 3 (oc1a_parts j)) (k_oc1a_heights : ∀ j, iv 0 9 (oc1a_heights j)) (hx2 : iv 0 2 x2) (hpost : ∀ (a_tape : Nat → Int32) (f_length : Int32) (f_fault : Int32) (f_place : Int32) (a_counts : Nat → Int32) (l0f_huts : Int32) (l0f_singers : Int32) (l0f_villages : Int32) (l0f_dams : Int32) (l0f_echoes : Int32) (l0f_deep : Int32) (l0f_slide : Int32) (l0a_heights : Nat → Int32) (l0a_ladders : Nat → Int32) (l0a_minutes : Nat → Int32) (l0a_echoFrom : Nat → Int32) (l0a_echoTo : Nat → Int32) (l0a_homes : Nat → Int32) (l0a_talls : Nat → Int32) (l0a_known : Nat → Int32) (l1f_huts : Int32) (l1f_singers : Int32) (l1f_villages : Int32) (l1f_dams : Int32) (l1f_echoes : Int32) (l1f_deep : Int32) (l1f_slide : Int32) (l1a_heights : Nat → Int32) (l1a_ladders : Nat → Int32) (l1a_minutes : Nat → Int32) (l1a_echoFrom : Nat → Int32) (l1a_echoTo : Nat → Int32) (l1a_homes : Nat → Int32) (l1a_talls : Nat → Int32) (l1a_known : Nat → Int32) (v0f_deeds : Int32) (v0a_kinds : Nat → Int32) (v0a_firsts : Nat → Int32) (v0a_seconds : Nat → Int32) (v1f_deeds : Int32) (v1a_kinds : Nat → Int32) (v1a_firsts : Nat → Int32) (v1a_seconds : Nat → Int32) (s0f_facts : Int32) (s0a_heard : Nat → Int32) (s0a_huts : Nat → Int32) (s0a_minutes : Nat → Int32) (s1f_facts : Int32) (s1a_heard : Nat → Int32) (s1a_huts : Nat → Int32) (s1a_minutes : Nat → Int32) (c0f_voices : Int32) (c0f_step : Int32) (c0a_parts : Nat → Int32) (c0a_heights : Nat → Int32) (c1f_voices : Int32) (c1f_step : Int32) (c1a_parts : Nat → Int32) (c1a_heights : Nat → Int32), f_length = f0 → (∀ j, iv (-128) 127 (a_tape j)) → (iv 0 600 f_length) → (iv 0 4 f_fault) → (iv (-1) 600 f_place) → (∀ j, iv 0 2 (a_counts j)) → (iv 0 9 l0f_huts) → (iv 0 6 l0f_singers) → (iv 0 511 l0f_villages) → (iv 0 511 l0f_dams) → (iv 0 4 l0f_echoes) → (iv 1 9 l0f_deep) → (iv 0 10 l0f_slide) → (∀ j, iv 0 99 (l0a_heights j)) → (∀ j, iv 0 9 (l0a_ladders j)) → (∀ j, iv 0 9 (l0a_minutes j)) → (∀ j, iv 0 8 (l0a_echoFrom j)) → (∀ j, iv 0 8 (l0a_echoTo j)) → (∀ j, iv 0 8 (l0a_homes j)) → (∀ j, iv 0 9 (l0a_talls j)) → (∀ j, iv 0 31 (l0a_known j)) → (iv 0 9 l1f_huts) → (iv 0 6 l1f_singers) → (iv 0 511 l1f_villages) → (iv 0 511 l1f_dams) → (iv 0 4 l1f_echoes) → (iv 1 9 l1f_deep) → (iv 0 10 l1f_slide) → (∀ j, iv 0 99 (l1a_heights j)) → (∀ j, iv 0 9 (l1a_ladders j)) → (∀ j, iv 0 9 (l1a_minutes j)) → (∀ j, iv 0 8 (l1a_echoFrom j)) → (∀ j, iv 0 8 (l1a_echoTo j)) → (∀ j, iv 0 8 (l1a_homes j)) → (∀ j, iv 0 9 (l1a_talls j)) → (∀ j, iv 0 31 (l1a_known j)) → (iv 0 40 v0f_deeds) → (∀ j, iv 0 5 (v0a_kinds j)) → (∀ j, iv 0 5 (v0a_firsts j)) → (∀ j, iv (-1) 8 (v0a_seconds j)) → (iv 0 40 v1f_deeds) → (∀ j, iv 0 5 (v1a_kinds j)) → (∀ j, iv 0 5 (v1a_firsts j)) → (∀ j, iv (-1) 8 (v1a_seconds j)) → (iv 0 10 s0f_facts) → (∀ j, iv 0 1 (s0a_heard j)) → (∀ j, iv 0 8 (s0a_huts j)) → (∀ j, iv 0 60 (s0a_minutes j)) → (iv 0 10 s1f_facts) → (∀ j, iv 0 1 (s1a_heard j)) → (∀ j, iv 0 8 (s1a_huts j)) → (∀ j, iv 0 60 (s1a_minutes j)) → (iv 0 9 c0f_voices) → (iv 0 9 c0f_step) → (∀ j, iv 0 3 (c0a_parts j)) → (∀ j, iv 0 9 (c0a_heights j)) → (iv 0 9 c1f_voices) → (iv 0 9 c1f_step) → (∀ j, iv 0 3 (c1a_parts j)) → (∀ j, iv 0 9 (c1a_heights j)) → post a_tape f_length f_fault f_place a_counts l0f_huts l0f_singers l0f_villages l0f_dams l0f_echoes l0f_deep l0f_slide l0a_heights l0a_ladders l0a_minutes l0a_echoFrom l0a_echoTo l0a_homes l0a_talls l0a_known l1f_huts l1f_singers l1f_villages l1f_dams l1f_echoes l1f_deep l1f_slide l1a_heights l1a_ladders l1a_minutes l1a_echoFrom l1a_echoTo l1a_homes l1a_talls l1a_known v0f_deeds v0a_kinds v0a_firsts v0a_seconds v1f_deeds v1a_kinds v1a_firsts v1a_seconds s0f_facts s0a_heard s0a_huts s0a_minutes s1f_facts s1a_heard s1a_huts s1a_minutes c0f_voices c0f_step c0a_parts c0a_heights c1f_voices c1f_step c1a_parts c1a_heights) : q_wtt_X9_copyFrom_47_57 a_tape f_length f_fault f_place a_counts l0f_huts l0f_singers l0f_villages l0f_dams l0f_echoes l0f_deep l0f_slide l0a_heights l0a_ladders l0a_minutes l0a_echoFrom l0a_echoTo l0a_homes l0a_talls l0a_known l1f_huts l1f_singers l1f_villages l1f_dams l1f_echoes l1f_deep l1f_slide l1a_heights l1a_ladders l1a_minutes l1a_echoFrom l1a_echoTo l1a_homes l1a_talls l1a_known v0f_deeds v0a_kinds v0a_firsts v0a_seconds v1f_deeds v1a_kinds v1a_firsts v1a_seconds s0f_facts s0a_heard s0a_huts s0a_minutes s1f_facts s1a_heard s1a_huts s1a_minutes c0f_voices c0f_step c0a_parts c0a_heights c1f_voices c1f_step c1a_parts c1a_heights oa_tape of_length of_fault of_place oa_counts ol0f_huts ol0f_singers ol0f_villages ol0f_dams ol0f_echoes ol0f_deep ol0f_slide ol0a_heights ol0a_ladders ol0a_minutes ol0a_echoFrom ol0a_echoTo ol0a_homes ol0a_talls ol0a_known ol1f_huts ol1f_singers ol1f_villages ol1f_dams ol1f_echoes ol1f_deep ol1f_slide ol1a_heights ol1a_ladders ol1a_minutes ol1a_echoFrom ol1a_echoTo ol1a_homes ol1a_talls ol1a_known ov0f_deeds ov0a_kinds ov0a_firsts ov0a_seconds ov1f_deeds ov1a_kinds ov1a_firsts ov1a_seconds os0f_facts os0a_heard os0a_huts os0a_minutes os1f_facts os1a_heard os1a_huts os1a_minutes oc0f_voices oc0f_step oc0a_parts oc0a_heights oc1f_voices oc1f_step oc1a_parts oc1a_heights x2 post := by
  intro P hP
  have loop : ∀ (n : Nat) (x2 : Int32) (l0f_huts : Int32) (l0f_singers : Int32) (l0f_villages : Int32) (l0f_dams : Int32) (l0f_echoes : Int32) (l0f_deep : Int32) (l0f_slide : Int32) (l0a_heights : Nat → Int32) (l0a_ladders : Nat → Int32) (l0a_minutes : Nat → Int32) (l0a_echoFrom : Nat → Int32) (l0a_echoTo : Nat → Int32) (l0a_homes : Nat → Int32) (l0a_talls : Nat → Int32) (l0a_known : Nat → Int32) (l1f_huts : Int32) (l1f_singers : Int32) (l1f_villages : Int32) (l1f_dams : Int32) (l1f_echoes : Int32) (l1f_deep : Int32) (l1f_slide : Int32) (l1a_heights : Nat → Int32) (l1a_ladders : Nat → Int32) (l1a_minutes : Nat → Int32) (l1a_echoFrom : Nat → Int32) (l1a_echoTo : Nat → Int32) (l1a_homes : Nat → Int32) (l1a_talls : Nat → Int32) (l1a_known : Nat → Int32) (v0f_deeds : Int32) (v0a_kinds : Nat → Int32) (v0a_firsts : Nat → Int32) (v0a_seconds : Nat → Int32) (v1f_deeds : Int32) (v1a_kinds : Nat → Int32) (v1a_firsts : Nat → Int32) (v1a_seconds : Nat → Int32) (s0f_facts : Int32) (s0a_heard : Nat → Int32) (s0a_huts : Nat → Int32) (s0a_minutes : Nat → Int32) (s1f_facts : Int32) (s1a_heard : Nat → Int32) (s1a_huts : Nat → Int32) (s1a_minutes : Nat → Int32) (c0f_voices : Int32) (c0f_step : Int32) (c0a_parts : Nat → Int32) (c0a_heights : Nat → Int32) (c1f_voices : Int32) (c1f_step : Int32) (c1a_parts : Nat → Int32) (c1a_heights : Nat → Int32), (2 - x2.toInt < (n : Int)) → (iv 0 2 x2) → (iv 0 9 l0f_huts) → (iv 0 6 l0f_singers) → (iv 0 511 l0f_villages) → (iv 0 511 l0f_dams) → (iv 0 4 l0f_echoes) → (iv 1 9 l0f_deep) → (iv 0 10 l0f_slide) → (∀ j, iv 0 99 (l0a_heights j)) → (∀ j, iv 0 9 (l0a_ladders j)) → (∀ j, iv 0 9 (l0a_minutes j)) → (∀ j, iv 0 8 (l0a_echoFrom j)) → (∀ j, iv 0 8 (l0a_echoTo j)) → (∀ j, iv 0 8 (l0a_homes j)) → (∀ j, iv 0 9 (l0a_talls j)) → (∀ j, iv 0 31 (l0a_known j)) → (iv 0 9 l1f_huts) → (iv 0 6 l1f_singers) → (iv 0 511 l1f_villages) → (iv 0 511 l1f_dams) → (iv 0 4 l1f_echoes) → (iv 1 9 l1f_deep) → (iv 0 10 l1f_slide) → (∀ j, iv 0 99 (l1a_heights j)) → (∀ j, iv 0 9 (l1a_ladders j)) → (∀ j, iv 0 9 (l1a_minutes j)) → (∀ j, iv 0 8 (l1a_echoFrom j)) → (∀ j, iv 0 8 (l1a_echoTo j)) → (∀ j, iv 0 8 (l1a_homes j)) → (∀ j, iv 0 9 (l1a_talls j)) → (∀ j, iv 0 31 (l1a_known j)) → (iv 0 40 v0f_deeds) → (∀ j, iv 0 5 (v0a_kinds j)) → (∀ j, iv 0 5 (v0a_firsts j)) → (∀ j, iv (-1) 8 (v0a_seconds j)) → (iv 0 40 v1f_deeds) → (∀ j, iv 0 5 (v1a_kinds j)) → (∀ j, iv 0 5 (v1a_firsts j)) → (∀ j, iv (-1) 8 (v1a_seconds j)) → (iv 0 10 s0f_facts) → (∀ j, iv 0 1 (s0a_heard j)) → (∀ j, iv 0 8 (s0a_huts j)) → (∀ j, iv 0 60 (s0a_minutes j)) → (iv 0 10 s1f_facts) → (∀ j, iv 0 1 (s1a_heard j)) → (∀ j, iv 0 8 (s1a_huts j)) → (∀ j, iv 0 60 (s1a_minutes j)) → (iv 0 9 c0f_voices) → (iv 0 9 c0f_step) → (∀ j, iv 0 3 (c0a_parts j)) → (∀ j, iv 0 9 (c0a_heights j)) → (iv 0 9 c1f_voices) → (iv 0 9 c1f_step) → (∀ j, iv 0 3 (c1a_parts j)) → (∀ j, iv 0 9 (c1a_heights j)) → P x2 l0f_huts l0f_singers l0f_villages l0f_dams l0f_echoes l0f_deep l0f_slide l0a_heights l0a_ladders l0a_minutes l0a_echoFrom l0a_echoTo l0a_homes l0a_talls l0a_known l1f_huts l1f_singers l1f_villages l1f_dams l1f_echoes l1f_deep l1f_slide l1a_heights l1a_ladders l1a_minutes l1a_echoFrom l1a_echoTo l1a_homes l1a_talls l1a_known v0f_deeds v0a_kinds v0a_firsts v0a_seconds v1f_deeds v1a_kinds v1a_firsts v1a_seconds s0f_facts s0a_heard s0a_huts s0a_minutes s1f_facts s1a_heard s1a_huts s1a_minutes c0f_voices c0f_step c0a_parts c0a_heights c1f_voices c1f_step c1a_parts c1a_heights := by
    intro n
    induction n with
    | zero => intro x2 l0f_huts l0f_singers l0f_villages l0f_dams l0f_echoes l0f_deep l0f_slide l0a_heights l0a_ladders l0a_minutes l0a_echoFrom l0a_echoTo l0a_homes l0a_talls l0a_known l1f_huts l1f_singers l1f_villages l1f_dams l1f_echoes l1f_deep l1f_slide l1a_heights l1a_ladders l1a_minutes l1a_echoFrom l1a_echoTo l1a_homes l1a_talls l1a_known v0f_deeds v0a_kinds v0a_firsts v0a_seconds v1f_deeds v1a_kinds v1a_firsts v1a_seconds s0f_facts s0a_heard s0a_huts s0a_minutes s1f_facts s1a_heard s1a_huts s1a_minutes c0f_voices c0f_step c0a_parts c0a_heights c1f_voices c1f_step c1a_parts c1a_heights hm hx2 k_l0f_huts k_l0f_singers k_l0f_villages k_l0f_dams k_l0f_echoes k_l0f_deep k_l0f_slide k_l0a_heights k_l0a_ladders k_l0a_minutes k_l0a_echoFrom k_l0a_echoTo k_l0a_homes k_l0a_talls k_l0a_known k_l1f_huts k_l1f_singers k_l1f_villages k_l1f_dams k_l1f_echoes k_l1f_deep k_l1f_slide k_l1a_heights k_l1a_ladders k_l1a_minutes k_l1a_echoFrom k_l1a_echoTo k_l1a_homes k_l1a_talls k_l1a_known k_v0f_deeds k_v0a_kinds k_v0a_firsts k_v0a_seconds k_v1f_deeds k_v1a_kinds k_v1a_firsts k_v1a_seconds k_s0f_facts k_s0a_heard k_s0a_huts k_s0a_minutes k_s1f_facts k_s1a_heard k_s1a_huts k_s1a_minutes k_c0f_voices k_c0f_step k_c0a_parts k_c0a_heights k_c1f_voices k_c1f_step k_c1a_parts k_c1a_heights; exact (ms0_up hm hx2).elim
    | succ n ih =>
      intro x2 l0f_huts l0f_singers l0f_villages l0f_dams l0f_echoes l0f_deep l0f_slide l0a_heights l0a_ladders l0a_minutes l0a_echoFrom l0a_echoTo l0a_homes l0a_talls l0a_known l1f_huts l1f_singers l1f_villages l1f_dams l1f_echoes l1f_deep l1f_slide l1a_heights l1a_ladders l1a_minutes l1a_echoFrom l1a_echoTo l1a_homes l1a_talls l1a_known v0f_deeds v0a_kinds v0a_firsts v0a_seconds v1f_deeds v1a_kinds v1a_firsts v1a_seconds s0f_facts s0a_heard s0a_huts s0a_minutes s1f_facts s1a_heard s1a_huts s1a_minutes c0f_voices c0f_step c0a_parts c0a_heights c1f_voices c1f_step c1a_parts c1a_heights hm hx2 k_l0f_huts k_l0f_singers k_l0f_villages k_l0f_dams k_l0f_echoes k_l0f_deep k_l0f_slide k_l0a_heights k_l0a_ladders k_l0a_minutes k_l0a_echoFrom k_l0a_echoTo k_l0a_homes k_l0a_talls k_l0a_known k_l1f_huts k_l1f_singers k_l1f_villages k_l1f_dams k_l1f_echoes k_l1f_deep k_l1f_slide k_l1a_heights k_l1a_ladders k_l1a_minutes k_l1a_echoFrom k_l1a_echoTo k_l1a_homes k_l1a_talls k_l1a_known k_v0f_deeds k_v0a_kinds k_v0a_firsts k_v0a_seconds k_v1f_deeds k_v1a_kinds k_v1a_firsts k_v1a_seconds k_s0f_facts k_s0a_heard k_s0a_huts k_s0a_minutes k_s1f_facts k_s1a_heard k_s1a_huts k_s1a_minutes k_c0f_voices k_c0f_step k_c0a_parts k_c0a_heights k_c1f_voices k_c1f_step k_c1a_parts k_c1a_heights
      apply hP
      refine ⟨fun c1 => ?_, fun c1 => ?_⟩
      · skip
        exact hpost _ _ _ _ _ _ _ _ _ _ _ _ _ _ _ _ _ _ _ _ _ _ _ _ _ _ _ _ _ _ _ _ _ _ _ _ _ _ _ _ _ _ _ _ _ _ _ _ _ _ _ _ _ _ _ _ _ _ _ hlen k_a_tape k_f_length k_f_fault k_f_place k_a_counts k_l0f_huts k_l0f_singers k_l0f_villages k_l0f_dams k_l0f_echoes k_l0f_deep k_l0f_slide k_l0a_heights k_l0a_ladders k_l0a_minutes k_l0a_echoFrom k_l0a_echoTo k_l0a_homes k_l0a_talls k_l0a_known k_l1f_huts k_l1f_singers k_l1f_villages k_l1f_dams k_l1f_echoes k_l1f_deep k_l1f_slide k_l1a_heights k_l1a_ladders k_l1a_minutes k_l1a_echoFrom k_l1a_echoTo k_l1a_homes k_l1a_talls k_l1a_known k_v0f_deeds k_v0a_kinds k_v0a_firsts k_v0a_seconds k_v1f_deeds k_v1a_kinds k_v1a_firsts k_v1a_seconds k_s0f_facts k_s0a_heard k_s0a_huts k_s0a_minutes k_s1f_facts k_s1a_heard k_s1a_huts k_s1a_minutes k_c0f_voices k_c0f_step k_c0a_parts k_c0a_heights k_c1f_voices k_c1f_step k_c1a_parts k_c1a_heights
      · skip
        refine ⟨iv_in (iv_lta (l := 0) (h := 1) (r_nle c1) hx2 (iv_lit (l := 2) (h := 2) (by decide)) (by decide)) (by decide), fun hc => ?_, fun hc => ?_⟩
        · skip
          refine s_wll_X2_copyFrom_9_0 k_l0f_huts k_l0f_singers k_l0f_villages k_l0f_dams k_l0f_echoes k_l0f_deep k_l0f_slide k_l0a_heights k_l0a_ladders k_l0a_minutes k_l0a_echoFrom k_l0a_echoTo k_l0a_homes k_l0a_talls k_l0a_known k_ol0f_huts k_ol0f_singers k_ol0f_villages k_ol0f_dams k_ol0f_echoes k_ol0f_deep k_ol0f_slide k_ol0a_heights k_ol0a_ladders k_ol0a_minutes k_ol0a_echoFrom k_ol0a_echoTo k_ol0a_homes k_ol0a_talls k_ol0a_known (fun o2 o3 o4 o5 o6 o7 o8 o9 o10 o11 o12 o13 o14 o15 o16 k_o2 k_o3 k_o4 k_o5 k_o6 k_o7 k_o8 k_o9 k_o10 k_o11 k_o12 k_o13 k_o14 k_o15 k_o16 => ?_)
          refine s_wvv_X1_copyFrom_4_0 k_v0f_deeds k_v0a_kinds k_v0a_firsts k_v0a_seconds k_ov0f_deeds k_ov0a_kinds k_ov0a_firsts k_ov0a_seconds (fun o17 o18 o19 o20 k_o17 k_o18 k_o19 k_o20 => ?_)
          refine s_wss_X6_copyFrom_4_0 k_s0f_facts k_s0a_heard k_s0a_huts k_s0a_minutes k_os0f_facts k_os0a_heard k_os0a_huts k_os0a_minutes (fun o21 o22 o23 o24 k_o21 k_o22 k_o23 k_o24 => ?_)
          refine ⟨iv_nn k_oc0f_voices (by decide), ?_⟩
          refine ⟨iv_len (iv_lit (l := 0) (h := 0) (by decide)) k_oc0f_voices (by decide), ?_⟩
          refine ⟨iv_len (iv_lit (l := 0) (h := 0) (by decide)) k_oc0f_voices (by decide), ?_⟩
          intro a25 ea25
          have k_a25 := iv_cpy ea25 k_oc0a_parts k_c0a_parts
          refine ⟨iv_nn k_oc0f_voices (by decide), ?_⟩
          refine ⟨iv_len (iv_lit (l := 0) (h := 0) (by decide)) k_oc0f_voices (by decide), ?_⟩
          refine ⟨iv_len (iv_lit (l := 0) (h := 0) (by decide)) k_oc0f_voices (by decide), ?_⟩
          intro a26 ea26
          have k_a26 := iv_cpy ea26 k_oc0a_heights k_c0a_heights
          intro w27 ew27
          have hw27 := iv_eq ew27 (iv_add (l := 1) (h := 1) (iv_lit (l := 0) (h := 0) (by decide)) (iv_lit (l := 1) (h := 1) (by decide)) (by decide))
          exact ih _ _ _ _ _ _ _ _ _ _ _ _ _ _ _ _ _ _ _ _ _ _ _ _ _ _ _ _ _ _ _ _ _ _ _ _ _ _ _ _ _ _ _ _ _ _ _ _ _ _ _ _ _ _ _ (ms_up hm (inc_ltc hc ew27 (by decide))) (iv_w hw27 (by decide)) k_o2 k_o3 k_o4 k_o5 k_o6 k_o7 k_o8 k_o9 k_o10 k_o11 k_o12 k_o13 k_o14 k_o15 k_o16 k_l1f_huts k_l1f_singers k_l1f_villages k_l1f_dams k_l1f_echoes k_l1f_deep k_l1f_slide k_l1a_heights k_l1a_ladders k_l1a_minutes k_l1a_echoFrom k_l1a_echoTo k_l1a_homes k_l1a_talls k_l1a_known k_o17 k_o18 k_o19 k_o20 k_v1f_deeds k_v1a_kinds k_v1a_firsts k_v1a_seconds k_o21 k_o22 k_o23 k_o24 k_s1f_facts k_s1a_heard k_s1a_huts k_s1a_minutes k_oc0f_voices k_oc0f_step k_a25 k_a26 k_c1f_voices k_c1f_step k_c1a_parts k_c1a_heights
        · skip
          refine s_wll_X2_copyFrom_9_0 k_l1f_huts k_l1f_singers k_l1f_villages k_l1f_dams k_l1f_echoes k_l1f_deep k_l1f_slide k_l1a_heights k_l1a_ladders k_l1a_minutes k_l1a_echoFrom k_l1a_echoTo k_l1a_homes k_l1a_talls k_l1a_known k_ol1f_huts k_ol1f_singers k_ol1f_villages k_ol1f_dams k_ol1f_echoes k_ol1f_deep k_ol1f_slide k_ol1a_heights k_ol1a_ladders k_ol1a_minutes k_ol1a_echoFrom k_ol1a_echoTo k_ol1a_homes k_ol1a_talls k_ol1a_known (fun o28 o29 o30 o31 o32 o33 o34 o35 o36 o37 o38 o39 o40 o41 o42 k_o28 k_o29 k_o30 k_o31 k_o32 k_o33 k_o34 k_o35 k_o36 k_o37 k_o38 k_o39 k_o40 k_o41 k_o42 => ?_)
          refine s_wvv_X1_copyFrom_4_0 k_v1f_deeds k_v1a_kinds k_v1a_firsts k_v1a_seconds k_ov1f_deeds k_ov1a_kinds k_ov1a_firsts k_ov1a_seconds (fun o43 o44 o45 o46 k_o43 k_o44 k_o45 k_o46 => ?_)
          refine s_wss_X6_copyFrom_4_0 k_s1f_facts k_s1a_heard k_s1a_huts k_s1a_minutes k_os1f_facts k_os1a_heard k_os1a_huts k_os1a_minutes (fun o47 o48 o49 o50 k_o47 k_o48 k_o49 k_o50 => ?_)
          refine ⟨iv_nn k_oc1f_voices (by decide), ?_⟩
          refine ⟨iv_len (iv_lit (l := 0) (h := 0) (by decide)) k_oc1f_voices (by decide), ?_⟩
          refine ⟨iv_len (iv_lit (l := 0) (h := 0) (by decide)) k_oc1f_voices (by decide), ?_⟩
          intro a51 ea51
          have k_a51 := iv_cpy ea51 k_oc1a_parts k_c1a_parts
          refine ⟨iv_nn k_oc1f_voices (by decide), ?_⟩
          refine ⟨iv_len (iv_lit (l := 0) (h := 0) (by decide)) k_oc1f_voices (by decide), ?_⟩
          refine ⟨iv_len (iv_lit (l := 0) (h := 0) (by decide)) k_oc1f_voices (by decide), ?_⟩
          intro a52 ea52
          have k_a52 := iv_cpy ea52 k_oc1a_heights k_c1a_heights
          intro w53 ew53
          have hw53 := iv_eq ew53 (iv_add (l := 2) (h := 2) (iv_lit (l := 1) (h := 1) (by decide)) (iv_lit (l := 1) (h := 1) (by decide)) (by decide))
          exact ih _ _ _ _ _ _ _ _ _ _ _ _ _ _ _ _ _ _ _ _ _ _ _ _ _ _ _ _ _ _ _ _ _ _ _ _ _ _ _ _ _ _ _ _ _ _ _ _ _ _ _ _ _ _ _ (ms_up hm (inc_ltc (iv_is1 (iv_lta (l := 0) (h := 1) (r_nle c1) hx2 (iv_lit (l := 2) (h := 2) (by decide)) (by decide)) hc) ew53 (by decide))) (iv_w hw53 (by decide)) k_l0f_huts k_l0f_singers k_l0f_villages k_l0f_dams k_l0f_echoes k_l0f_deep k_l0f_slide k_l0a_heights k_l0a_ladders k_l0a_minutes k_l0a_echoFrom k_l0a_echoTo k_l0a_homes k_l0a_talls k_l0a_known k_o28 k_o29 k_o30 k_o31 k_o32 k_o33 k_o34 k_o35 k_o36 k_o37 k_o38 k_o39 k_o40 k_o41 k_o42 k_v0f_deeds k_v0a_kinds k_v0a_firsts k_v0a_seconds k_o43 k_o44 k_o45 k_o46 k_s0f_facts k_s0a_heard k_s0a_huts k_s0a_minutes k_o47 k_o48 k_o49 k_o50 k_c0f_voices k_c0f_step k_c0a_parts k_c0a_heights k_oc1f_voices k_oc1f_step k_a51 k_a52
  exact loop _ _ _ _ _ _ _ _ _ _ _ _ _ _ _ _ _ _ _ _ _ _ _ _ _ _ _ _ _ _ _ _ _ _ _ _ _ _ _ _ _ _ _ _ _ _ _ _ _ _ _ _ _ _ _ _ (ms_init_up _ _) hx2 k_l0f_huts k_l0f_singers k_l0f_villages k_l0f_dams k_l0f_echoes k_l0f_deep k_l0f_slide k_l0a_heights k_l0a_ladders k_l0a_minutes k_l0a_echoFrom k_l0a_echoTo k_l0a_homes k_l0a_talls k_l0a_known k_l1f_huts k_l1f_singers k_l1f_villages k_l1f_dams k_l1f_echoes k_l1f_deep k_l1f_slide k_l1a_heights k_l1a_ladders k_l1a_minutes k_l1a_echoFrom k_l1a_echoTo k_l1a_homes k_l1a_talls k_l1a_known k_v0f_deeds k_v0a_kinds k_v0a_firsts k_v0a_seconds k_v1f_deeds k_v1a_kinds k_v1a_firsts k_v1a_seconds k_s0f_facts k_s0a_heard k_s0a_huts k_s0a_minutes k_s1f_facts k_s1a_heard k_s1a_huts k_s1a_minutes k_c0f_voices k_c0f_step k_c0a_parts k_c0a_heights k_c1f_voices k_c1f_step k_c1a_parts k_c1a_heights

set_option maxRecDepth 20000 in
theorem e_copy_0 {a_tape : Nat → Int32} {f_length : Int32} {f_fault : Int32} {f_place : Int32} {a_counts : Nat → Int32} {l0f_huts : Int32} {l0f_singers : Int32} {l0f_villages : Int32} {l0f_dams : Int32} {l0f_echoes : Int32} {l0f_deep : Int32} {l0f_slide : Int32} {l0a_heights : Nat → Int32} {l0a_ladders : Nat → Int32} {l0a_minutes : Nat → Int32} {l0a_echoFrom : Nat → Int32} {l0a_echoTo : Nat → Int32} {l0a_homes : Nat → Int32} {l0a_talls : Nat → Int32} {l0a_known : Nat → Int32} {l1f_huts : Int32} {l1f_singers : Int32} {l1f_villages : Int32} {l1f_dams : Int32} {l1f_echoes : Int32} {l1f_deep : Int32} {l1f_slide : Int32} {l1a_heights : Nat → Int32} {l1a_ladders : Nat → Int32} {l1a_minutes : Nat → Int32} {l1a_echoFrom : Nat → Int32} {l1a_echoTo : Nat → Int32} {l1a_homes : Nat → Int32} {l1a_talls : Nat → Int32} {l1a_known : Nat → Int32} {v0f_deeds : Int32} {v0a_kinds : Nat → Int32} {v0a_firsts : Nat → Int32} {v0a_seconds : Nat → Int32} {v1f_deeds : Int32} {v1a_kinds : Nat → Int32} {v1a_firsts : Nat → Int32} {v1a_seconds : Nat → Int32} {s0f_facts : Int32} {s0a_heard : Nat → Int32} {s0a_huts : Nat → Int32} {s0a_minutes : Nat → Int32} {s1f_facts : Int32} {s1a_heard : Nat → Int32} {s1a_huts : Nat → Int32} {s1a_minutes : Nat → Int32} {c0f_voices : Int32} {c0f_step : Int32} {c0a_parts : Nat → Int32} {c0a_heights : Nat → Int32} {c1f_voices : Int32} {c1f_step : Int32} {c1a_parts : Nat → Int32} {c1a_heights : Nat → Int32} {oa_tape : Nat → Int32} {of_length : Int32} {of_fault : Int32} {of_place : Int32} {oa_counts : Nat → Int32} {ol0f_huts : Int32} {ol0f_singers : Int32} {ol0f_villages : Int32} {ol0f_dams : Int32} {ol0f_echoes : Int32} {ol0f_deep : Int32} {ol0f_slide : Int32} {ol0a_heights : Nat → Int32} {ol0a_ladders : Nat → Int32} {ol0a_minutes : Nat → Int32} {ol0a_echoFrom : Nat → Int32} {ol0a_echoTo : Nat → Int32} {ol0a_homes : Nat → Int32} {ol0a_talls : Nat → Int32} {ol0a_known : Nat → Int32} {ol1f_huts : Int32} {ol1f_singers : Int32} {ol1f_villages : Int32} {ol1f_dams : Int32} {ol1f_echoes : Int32} {ol1f_deep : Int32} {ol1f_slide : Int32} {ol1a_heights : Nat → Int32} {ol1a_ladders : Nat → Int32} {ol1a_minutes : Nat → Int32} {ol1a_echoFrom : Nat → Int32} {ol1a_echoTo : Nat → Int32} {ol1a_homes : Nat → Int32} {ol1a_talls : Nat → Int32} {ol1a_known : Nat → Int32} {ov0f_deeds : Int32} {ov0a_kinds : Nat → Int32} {ov0a_firsts : Nat → Int32} {ov0a_seconds : Nat → Int32} {ov1f_deeds : Int32} {ov1a_kinds : Nat → Int32} {ov1a_firsts : Nat → Int32} {ov1a_seconds : Nat → Int32} {os0f_facts : Int32} {os0a_heard : Nat → Int32} {os0a_huts : Nat → Int32} {os0a_minutes : Nat → Int32} {os1f_facts : Int32} {os1a_heard : Nat → Int32} {os1a_huts : Nat → Int32} {os1a_minutes : Nat → Int32} {oc0f_voices : Int32} {oc0f_step : Int32} {oc0a_parts : Nat → Int32} {oc0a_heights : Nat → Int32} {oc1f_voices : Int32} {oc1f_step : Int32} {oc1a_parts : Nat → Int32} {oc1a_heights : Nat → Int32} {post : (Nat → Int32) → (Int32) → (Int32) → (Int32) → (Nat → Int32) → (Int32) → (Int32) → (Int32) → (Int32) → (Int32) → (Int32) → (Int32) → (Nat → Int32) → (Nat → Int32) → (Nat → Int32) → (Nat → Int32) → (Nat → Int32) → (Nat → Int32) → (Nat → Int32) → (Nat → Int32) → (Int32) → (Int32) → (Int32) → (Int32) → (Int32) → (Int32) → (Int32) → (Nat → Int32) → (Nat → Int32) → (Nat → Int32) → (Nat → Int32) → (Nat → Int32) → (Nat → Int32) → (Nat → Int32) → (Nat → Int32) → (Int32) → (Nat → Int32) → (Nat → Int32) → (Nat → Int32) → (Int32) → (Nat → Int32) → (Nat → Int32) → (Nat → Int32) → (Int32) → (Nat → Int32) → (Nat → Int32) → (Nat → Int32) → (Int32) → (Nat → Int32) → (Nat → Int32) → (Nat → Int32) → (Int32) → (Int32) → (Nat → Int32) → (Nat → Int32) → (Int32) → (Int32) → (Nat → Int32) → (Nat → Int32) → Prop} (k_a_tape : ∀ j, iv (-128) 127 (a_tape j)) (k_f_length : iv 0 600 f_length) (k_f_fault : iv 0 4 f_fault) (k_f_place : iv (-1) 600 f_place) (k_a_counts : ∀ j, iv 0 2 (a_counts j)) (k_l0f_huts : iv 0 9 l0f_huts) (k_l0f_singers : iv 0 6 l0f_singers) (k_l0f_villages : iv 0 511 l0f_villages) (k_l0f_dams : iv 0 511 l0f_dams) (k_l0f_echoes : iv 0 4 l0f_echoes) (k_l0f_deep : iv 1 9 l0f_deep) (k_l0f_slide : iv 0 10 l0f_slide) (k_l0a_heights : ∀ j, iv 0 99 (l0a_heights j)) (k_l0a_ladders : ∀ j, iv 0 9 (l0a_ladders j)) (k_l0a_minutes : ∀ j, iv 0 9 (l0a_minutes j)) (k_l0a_echoFrom : ∀ j, iv 0 8 (l0a_echoFrom j)) (k_l0a_echoTo : ∀ j, iv 0 8 (l0a_echoTo j)) (k_l0a_homes : ∀ j, iv 0 8 (l0a_homes j)) (k_l0a_talls : ∀ j, iv 0 9 (l0a_talls j)) (k_l0a_known : ∀ j, iv 0 31 (l0a_known j)) (k_l1f_huts : iv 0 9 l1f_huts) (k_l1f_singers : iv 0 6 l1f_singers) (k_l1f_villages : iv 0 511 l1f_villages) (k_l1f_dams : iv 0 511 l1f_dams) (k_l1f_echoes : iv 0 4 l1f_echoes) (k_l1f_deep : iv 1 9 l1f_deep) (k_l1f_slide : iv 0 10 l1f_slide) (k_l1a_heights : ∀ j, iv 0 99 (l1a_heights j)) (k_l1a_ladders : ∀ j, iv 0 9 (l1a_ladders j)) (k_l1a_minutes : ∀ j, iv 0 9 (l1a_minutes j)) (k_l1a_echoFrom : ∀ j, iv 0 8 (l1a_echoFrom j)) (k_l1a_echoTo : ∀ j, iv 0 8 (l1a_echoTo j)) (k_l1a_homes : ∀ j, iv 0 8 (l1a_homes j)) (k_l1a_talls : ∀ j, iv 0 9 (l1a_talls j)) (k_l1a_known : ∀ j, iv 0 31 (l1a_known j)) (k_v0f_deeds : iv 0 40 v0f_deeds) (k_v0a_kinds : ∀ j, iv 0 5 (v0a_kinds j)) (k_v0a_firsts : ∀ j, iv 0 5 (v0a_firsts j)) (k_v0a_seconds : ∀ j, iv (-1) 8 (v0a_seconds j)) (k_v1f_deeds : iv 0 40 v1f_deeds) (k_v1a_kinds : ∀ j, iv 0 5 (v1a_kinds j)) (k_v1a_firsts : ∀ j, iv 0 5 (v1a_firsts j)) (k_v1a_seconds : ∀ j, iv (-1) 8 (v1a_seconds j)) (k_s0f_facts : iv 0 10 s0f_facts) (k_s0a_heard : ∀ j, iv 0 1 (s0a_heard j)) (k_s0a_huts : ∀ j, iv 0 8 (s0a_huts j)) (k_s0a_minutes : ∀ j, iv 0 60 (s0a_minutes j)) (k_s1f_facts : iv 0 10 s1f_facts) (k_s1a_heard : ∀ j, iv 0 1 (s1a_heard j)) (k_s1a_huts : ∀ j, iv 0 8 (s1a_huts j)) (k_s1a_minutes : ∀ j, iv 0 60 (s1a_minutes j)) (k_c0f_voices : iv 0 9 c0f_voices) (k_c0f_step : iv 0 9 c0f_step) (k_c0a_parts : ∀ j, iv 0 3 (c0a_parts j)) (k_c0a_heights : ∀ j, iv 0 9 (c0a_heights j)) (k_c1f_voices : iv 0 9 c1f_voices) (k_c1f_step : iv 0 9 c1f_step) (k_c1a_parts : ∀ j, iv 0 3 (c1a_parts j)) (k_c1a_heights : ∀ j, iv 0 9 (c1a_heights j)) (k_oa_tape : ∀ j, iv (-128) 127 (oa_tape j)) (k_of_length : iv 0 600 of_length) (k_of_fault : iv 0 4 of_fault) (k_of_place : iv (-1) 600 of_place) (k_oa_counts : ∀ j, iv 0 2 (oa_counts j)) (k_ol0f_huts : iv 0 9 ol0f_huts) (k_ol0f_singers : iv 0 6 ol0f_singers) (k_ol0f_villages : iv 0 511 ol0f_villages) (k_ol0f_dams : iv 0 511 ol0f_dams) (k_ol0f_echoes : iv 0 4 ol0f_echoes) (k_ol0f_deep : iv 1 9 ol0f_deep) (k_ol0f_slide : iv 0 10 ol0f_slide) (k_ol0a_heights : ∀ j, iv 0 99 (ol0a_heights j)) (k_ol0a_ladders : ∀ j, iv 0 9 (ol0a_ladders j)) (k_ol0a_minutes : ∀ j, iv 0 9 (ol0a_minutes j)) (k_ol0a_echoFrom : ∀ j, iv 0 8 (ol0a_echoFrom j)) (k_ol0a_echoTo : ∀ j, iv 0 8 (ol0a_echoTo j)) (k_ol0a_homes : ∀ j, iv 0 8 (ol0a_homes j)) (k_ol0a_talls : ∀ j, iv 0 9 (ol0a_talls j)) (k_ol0a_known : ∀ j, iv 0 31 (ol0a_known j)) (k_ol1f_huts : iv 0 9 ol1f_huts) (k_ol1f_singers : iv 0 6 ol1f_singers) (k_ol1f_villages : iv 0 511 ol1f_villages) (k_ol1f_dams : iv 0 511 ol1f_dams) (k_ol1f_echoes : iv 0 4 ol1f_echoes) (k_ol1f_deep : iv 1 9 ol1f_deep) (k_ol1f_slide : iv 0 10 ol1f_slide) (k_ol1a_heights : ∀ j, iv 0 99 (ol1a_heights j)) (k_ol1a_ladders : ∀ j, iv 0 9 (ol1a_ladders j)) (k_ol1a_minutes : ∀ j, iv 0 9 (ol1a_minutes j)) (k_ol1a_echoFrom : ∀ j, iv 0 8 (ol1a_echoFrom j)) (k_ol1a_echoTo : ∀ j, iv 0 8 (ol1a_echoTo j)) (k_ol1a_homes : ∀ j, iv 0 8 (ol1a_homes j)) (k_ol1a_talls : ∀ j, iv 0 9 (ol1a_talls j)) (k_ol1a_known : ∀ j, iv 0 31 (ol1a_known j)) (k_ov0f_deeds : iv 0 40 ov0f_deeds) (k_ov0a_kinds : ∀ j, iv 0 5 (ov0a_kinds j)) (k_ov0a_firsts : ∀ j, iv 0 5 (ov0a_firsts j)) (k_ov0a_seconds : ∀ j, iv (-1) 8 (ov0a_seconds j)) (k_ov1f_deeds : iv 0 40 ov1f_deeds) (k_ov1a_kinds : ∀ j, iv 0 5 (ov1a_kinds j)) (k_ov1a_firsts : ∀ j, iv 0 5 (ov1a_firsts j)) (k_ov1a_seconds : ∀ j, iv (-1) 8 (ov1a_seconds j)) (k_os0f_facts : iv 0 10 os0f_facts) (k_os0a_heard : ∀ j, iv 0 1 (os0a_heard j)) (k_os0a_huts : ∀ j, iv 0 8 (os0a_huts j)) (k_os0a_minutes : ∀ j, iv 0 60 (os0a_minutes j)) (k_os1f_facts : iv 0 10 os1f_facts) (k_os1a_heard : ∀ j, iv 0 1 (os1a_heard j)) (k_os1a_huts : ∀ j, iv 0 8 (os1a_huts j)) (k_os1a_minutes : ∀ j, iv 0 60 (os1a_minutes j)) (k_oc0f_voices : iv 0 9 oc0f_voices) (k_oc0f_step : iv 0 9 oc0f_step) (k_oc0a_parts : ∀ j, iv 0 3 (oc0a_parts j)) (k_oc0a_heights : ∀ j, iv 0 9 (oc0a_heights j)) (k_oc1f_voices : iv 0 9 oc1f_voices) (k_oc1f_step : iv 0 9 oc1f_step) (k_oc1a_parts : ∀ j, iv 0 3 (oc1a_parts j)) (k_oc1a_heights : ∀ j, iv 0 9 (oc1a_heights j)) (hpost : ∀ (a_tape : Nat → Int32) (f_length : Int32) (f_fault : Int32) (f_place : Int32) (a_counts : Nat → Int32) (l0f_huts : Int32) (l0f_singers : Int32) (l0f_villages : Int32) (l0f_dams : Int32) (l0f_echoes : Int32) (l0f_deep : Int32) (l0f_slide : Int32) (l0a_heights : Nat → Int32) (l0a_ladders : Nat → Int32) (l0a_minutes : Nat → Int32) (l0a_echoFrom : Nat → Int32) (l0a_echoTo : Nat → Int32) (l0a_homes : Nat → Int32) (l0a_talls : Nat → Int32) (l0a_known : Nat → Int32) (l1f_huts : Int32) (l1f_singers : Int32) (l1f_villages : Int32) (l1f_dams : Int32) (l1f_echoes : Int32) (l1f_deep : Int32) (l1f_slide : Int32) (l1a_heights : Nat → Int32) (l1a_ladders : Nat → Int32) (l1a_minutes : Nat → Int32) (l1a_echoFrom : Nat → Int32) (l1a_echoTo : Nat → Int32) (l1a_homes : Nat → Int32) (l1a_talls : Nat → Int32) (l1a_known : Nat → Int32) (v0f_deeds : Int32) (v0a_kinds : Nat → Int32) (v0a_firsts : Nat → Int32) (v0a_seconds : Nat → Int32) (v1f_deeds : Int32) (v1a_kinds : Nat → Int32) (v1a_firsts : Nat → Int32) (v1a_seconds : Nat → Int32) (s0f_facts : Int32) (s0a_heard : Nat → Int32) (s0a_huts : Nat → Int32) (s0a_minutes : Nat → Int32) (s1f_facts : Int32) (s1a_heard : Nat → Int32) (s1a_huts : Nat → Int32) (s1a_minutes : Nat → Int32) (c0f_voices : Int32) (c0f_step : Int32) (c0a_parts : Nat → Int32) (c0a_heights : Nat → Int32) (c1f_voices : Int32) (c1f_step : Int32) (c1a_parts : Nat → Int32) (c1a_heights : Nat → Int32), f_length = of_length → (∀ j, iv (-128) 127 (a_tape j)) → (iv 0 600 f_length) → (iv 0 4 f_fault) → (iv (-1) 600 f_place) → (∀ j, iv 0 2 (a_counts j)) → (iv 0 9 l0f_huts) → (iv 0 6 l0f_singers) → (iv 0 511 l0f_villages) → (iv 0 511 l0f_dams) → (iv 0 4 l0f_echoes) → (iv 1 9 l0f_deep) → (iv 0 10 l0f_slide) → (∀ j, iv 0 99 (l0a_heights j)) → (∀ j, iv 0 9 (l0a_ladders j)) → (∀ j, iv 0 9 (l0a_minutes j)) → (∀ j, iv 0 8 (l0a_echoFrom j)) → (∀ j, iv 0 8 (l0a_echoTo j)) → (∀ j, iv 0 8 (l0a_homes j)) → (∀ j, iv 0 9 (l0a_talls j)) → (∀ j, iv 0 31 (l0a_known j)) → (iv 0 9 l1f_huts) → (iv 0 6 l1f_singers) → (iv 0 511 l1f_villages) → (iv 0 511 l1f_dams) → (iv 0 4 l1f_echoes) → (iv 1 9 l1f_deep) → (iv 0 10 l1f_slide) → (∀ j, iv 0 99 (l1a_heights j)) → (∀ j, iv 0 9 (l1a_ladders j)) → (∀ j, iv 0 9 (l1a_minutes j)) → (∀ j, iv 0 8 (l1a_echoFrom j)) → (∀ j, iv 0 8 (l1a_echoTo j)) → (∀ j, iv 0 8 (l1a_homes j)) → (∀ j, iv 0 9 (l1a_talls j)) → (∀ j, iv 0 31 (l1a_known j)) → (iv 0 40 v0f_deeds) → (∀ j, iv 0 5 (v0a_kinds j)) → (∀ j, iv 0 5 (v0a_firsts j)) → (∀ j, iv (-1) 8 (v0a_seconds j)) → (iv 0 40 v1f_deeds) → (∀ j, iv 0 5 (v1a_kinds j)) → (∀ j, iv 0 5 (v1a_firsts j)) → (∀ j, iv (-1) 8 (v1a_seconds j)) → (iv 0 10 s0f_facts) → (∀ j, iv 0 1 (s0a_heard j)) → (∀ j, iv 0 8 (s0a_huts j)) → (∀ j, iv 0 60 (s0a_minutes j)) → (iv 0 10 s1f_facts) → (∀ j, iv 0 1 (s1a_heard j)) → (∀ j, iv 0 8 (s1a_huts j)) → (∀ j, iv 0 60 (s1a_minutes j)) → (iv 0 9 c0f_voices) → (iv 0 9 c0f_step) → (∀ j, iv 0 3 (c0a_parts j)) → (∀ j, iv 0 9 (c0a_heights j)) → (iv 0 9 c1f_voices) → (iv 0 9 c1f_step) → (∀ j, iv 0 3 (c1a_parts j)) → (∀ j, iv 0 9 (c1a_heights j)) → post a_tape f_length f_fault f_place a_counts l0f_huts l0f_singers l0f_villages l0f_dams l0f_echoes l0f_deep l0f_slide l0a_heights l0a_ladders l0a_minutes l0a_echoFrom l0a_echoTo l0a_homes l0a_talls l0a_known l1f_huts l1f_singers l1f_villages l1f_dams l1f_echoes l1f_deep l1f_slide l1a_heights l1a_ladders l1a_minutes l1a_echoFrom l1a_echoTo l1a_homes l1a_talls l1a_known v0f_deeds v0a_kinds v0a_firsts v0a_seconds v1f_deeds v1a_kinds v1a_firsts v1a_seconds s0f_facts s0a_heard s0a_huts s0a_minutes s1f_facts s1a_heard s1a_huts s1a_minutes c0f_voices c0f_step c0a_parts c0a_heights c1f_voices c1f_step c1a_parts c1a_heights) : q_wtt_X9_copyFrom_47_0 a_tape f_length f_fault f_place a_counts l0f_huts l0f_singers l0f_villages l0f_dams l0f_echoes l0f_deep l0f_slide l0a_heights l0a_ladders l0a_minutes l0a_echoFrom l0a_echoTo l0a_homes l0a_talls l0a_known l1f_huts l1f_singers l1f_villages l1f_dams l1f_echoes l1f_deep l1f_slide l1a_heights l1a_ladders l1a_minutes l1a_echoFrom l1a_echoTo l1a_homes l1a_talls l1a_known v0f_deeds v0a_kinds v0a_firsts v0a_seconds v1f_deeds v1a_kinds v1a_firsts v1a_seconds s0f_facts s0a_heard s0a_huts s0a_minutes s1f_facts s1a_heard s1a_huts s1a_minutes c0f_voices c0f_step c0a_parts c0a_heights c1f_voices c1f_step c1a_parts c1a_heights oa_tape of_length of_fault of_place oa_counts ol0f_huts ol0f_singers ol0f_villages ol0f_dams ol0f_echoes ol0f_deep ol0f_slide ol0a_heights ol0a_ladders ol0a_minutes ol0a_echoFrom ol0a_echoTo ol0a_homes ol0a_talls ol0a_known ol1f_huts ol1f_singers ol1f_villages ol1f_dams ol1f_echoes ol1f_deep ol1f_slide ol1a_heights ol1a_ladders ol1a_minutes ol1a_echoFrom ol1a_echoTo ol1a_homes ol1a_talls ol1a_known ov0f_deeds ov0a_kinds ov0a_firsts ov0a_seconds ov1f_deeds ov1a_kinds ov1a_firsts ov1a_seconds os0f_facts os0a_heard os0a_huts os0a_minutes os1f_facts os1a_heard os1a_huts os1a_minutes oc0f_voices oc0f_step oc0a_parts oc0a_heights oc1f_voices oc1f_step oc1a_parts oc1a_heights post := by
  refine ⟨iv_nn k_of_length (by decide), ?_⟩
  refine ⟨iv_len (iv_lit (l := 0) (h := 0) (by decide)) k_of_length (by decide), ?_⟩
  refine ⟨iv_len (iv_lit (l := 0) (h := 0) (by decide)) k_of_length (by decide), ?_⟩
  refine ⟨fun i _ => iv_fitB (k_oa_tape _), ?_⟩
  intro a1 ea1
  have k_a1 := iv_cpy ea1 k_oa_tape k_a_tape
  intro a2 ea2
  have k_a2 := iv_cpy ea2 k_oa_counts k_a_counts
  exact e_copy_57 rfl k_a1 k_of_length k_of_fault k_of_place k_a2 k_l0f_huts k_l0f_singers k_l0f_villages k_l0f_dams k_l0f_echoes k_l0f_deep k_l0f_slide k_l0a_heights k_l0a_ladders k_l0a_minutes k_l0a_echoFrom k_l0a_echoTo k_l0a_homes k_l0a_talls k_l0a_known k_l1f_huts k_l1f_singers k_l1f_villages k_l1f_dams k_l1f_echoes k_l1f_deep k_l1f_slide k_l1a_heights k_l1a_ladders k_l1a_minutes k_l1a_echoFrom k_l1a_echoTo k_l1a_homes k_l1a_talls k_l1a_known k_v0f_deeds k_v0a_kinds k_v0a_firsts k_v0a_seconds k_v1f_deeds k_v1a_kinds k_v1a_firsts k_v1a_seconds k_s0f_facts k_s0a_heard k_s0a_huts k_s0a_minutes k_s1f_facts k_s1a_heard k_s1a_huts k_s1a_minutes k_c0f_voices k_c0f_step k_c0a_parts k_c0a_heights k_c1f_voices k_c1f_step k_c1a_parts k_c1a_heights k_oa_tape k_of_length k_of_fault k_of_place k_oa_counts k_ol0f_huts k_ol0f_singers k_ol0f_villages k_ol0f_dams k_ol0f_echoes k_ol0f_deep k_ol0f_slide k_ol0a_heights k_ol0a_ladders k_ol0a_minutes k_ol0a_echoFrom k_ol0a_echoTo k_ol0a_homes k_ol0a_talls k_ol0a_known k_ol1f_huts k_ol1f_singers k_ol1f_villages k_ol1f_dams k_ol1f_echoes k_ol1f_deep k_ol1f_slide k_ol1a_heights k_ol1a_ladders k_ol1a_minutes k_ol1a_echoFrom k_ol1a_echoTo k_ol1a_homes k_ol1a_talls k_ol1a_known k_ov0f_deeds k_ov0a_kinds k_ov0a_firsts k_ov0a_seconds k_ov1f_deeds k_ov1a_kinds k_ov1a_firsts k_ov1a_seconds k_os0f_facts k_os0a_heard k_os0a_huts k_os0a_minutes k_os1f_facts k_os1a_heard k_os1a_huts k_os1a_minutes k_oc0f_voices k_oc0f_step k_oc0a_parts k_oc0a_heights k_oc1f_voices k_oc1f_step k_oc1a_parts k_oc1a_heights (iv_w (iv_lit (l := 0) (h := 0) (by decide)) (by decide)) hpost
end
section
def tsl : Nat → Int := fun k => match k with | 0 => 0 | 1 => 0 | 2 => (-1) | 3 => 0 | 4 => 0 | 5 => 0 | 6 => 0 | 7 => 0 | 8 => 1 | 9 => 0 | 10 => 0 | 11 => 0 | 12 => 0 | 13 => 0 | 14 => 0 | 15 => 1 | 16 => 0 | 17 => 0 | 18 => 0 | 19 => 0 | 20 => 0 | 21 => 0 | 22 => 0 | 23 => 0 | 24 => 0 | _ => (-2147483648)
def tsh : Nat → Int := fun k => match k with | 0 => 600 | 1 => 4 | 2 => 600 | 3 => 9 | 4 => 6 | 5 => 511 | 6 => 511 | 7 => 4 | 8 => 9 | 9 => 10 | 10 => 9 | 11 => 6 | 12 => 511 | 13 => 511 | 14 => 4 | 15 => 9 | 16 => 10 | 17 => 40 | 18 => 40 | 19 => 10 | 20 => 10 | 21 => 9 | 22 => 9 | 23 => 9 | 24 => 9 | _ => 2147483647
def tal : Nat → Int := fun k => match k with | 0 => (-128) | 1 => 0 | 2 => 0 | 3 => 0 | 4 => 0 | 5 => 0 | 6 => 0 | 7 => 0 | 8 => 0 | 9 => 0 | 10 => 0 | 11 => 0 | 12 => 0 | 13 => 0 | 14 => 0 | 15 => 0 | 16 => 0 | 17 => 0 | 18 => 0 | 19 => 0 | 20 => (-1) | 21 => 0 | 22 => 0 | 23 => (-1) | 24 => 0 | 25 => 0 | 26 => 0 | 27 => 0 | 28 => 0 | 29 => 0 | 30 => 0 | 31 => 0 | 32 => 0 | 33 => 0 | _ => (-2147483648)
def tah : Nat → Int := fun k => match k with | 0 => 127 | 1 => 2 | 2 => 99 | 3 => 9 | 4 => 9 | 5 => 8 | 6 => 8 | 7 => 8 | 8 => 9 | 9 => 31 | 10 => 99 | 11 => 9 | 12 => 9 | 13 => 8 | 14 => 8 | 15 => 8 | 16 => 9 | 17 => 31 | 18 => 5 | 19 => 5 | 20 => 8 | 21 => 5 | 22 => 5 | 23 => 8 | 24 => 1 | 25 => 8 | 26 => 60 | 27 => 1 | 28 => 8 | 29 => 60 | 30 => 3 | 31 => 9 | 32 => 3 | 33 => 9 | _ => 2147483647
def tI (S : Nat → Int32) (V : Nat → Nat → Int32) : Prop := (∀ k, iv (tsl k) (tsh k) (S k)) ∧ (∀ k j, iv (tal k) (tah k) (V k j))
abbrev TT : Type := (Nat → Int32) × (Nat → Nat → Int32)
def tJ (T : TT) : Prop := tI T.1 T.2
def tmk (a_tape : Nat → Int32) (f_length : Int32) (f_fault : Int32) (f_place : Int32) (a_counts : Nat → Int32) (l0f_huts : Int32) (l0f_singers : Int32) (l0f_villages : Int32) (l0f_dams : Int32) (l0f_echoes : Int32) (l0f_deep : Int32) (l0f_slide : Int32) (l0a_heights : Nat → Int32) (l0a_ladders : Nat → Int32) (l0a_minutes : Nat → Int32) (l0a_echoFrom : Nat → Int32) (l0a_echoTo : Nat → Int32) (l0a_homes : Nat → Int32) (l0a_talls : Nat → Int32) (l0a_known : Nat → Int32) (l1f_huts : Int32) (l1f_singers : Int32) (l1f_villages : Int32) (l1f_dams : Int32) (l1f_echoes : Int32) (l1f_deep : Int32) (l1f_slide : Int32) (l1a_heights : Nat → Int32) (l1a_ladders : Nat → Int32) (l1a_minutes : Nat → Int32) (l1a_echoFrom : Nat → Int32) (l1a_echoTo : Nat → Int32) (l1a_homes : Nat → Int32) (l1a_talls : Nat → Int32) (l1a_known : Nat → Int32) (v0f_deeds : Int32) (v0a_kinds : Nat → Int32) (v0a_firsts : Nat → Int32) (v0a_seconds : Nat → Int32) (v1f_deeds : Int32) (v1a_kinds : Nat → Int32) (v1a_firsts : Nat → Int32) (v1a_seconds : Nat → Int32) (s0f_facts : Int32) (s0a_heard : Nat → Int32) (s0a_huts : Nat → Int32) (s0a_minutes : Nat → Int32) (s1f_facts : Int32) (s1a_heard : Nat → Int32) (s1a_huts : Nat → Int32) (s1a_minutes : Nat → Int32) (c0f_voices : Int32) (c0f_step : Int32) (c0a_parts : Nat → Int32) (c0a_heights : Nat → Int32) (c1f_voices : Int32) (c1f_step : Int32) (c1a_parts : Nat → Int32) (c1a_heights : Nat → Int32) : TT := (fun k => match k with | 0 => f_length | 1 => f_fault | 2 => f_place | 3 => l0f_huts | 4 => l0f_singers | 5 => l0f_villages | 6 => l0f_dams | 7 => l0f_echoes | 8 => l0f_deep | 9 => l0f_slide | 10 => l1f_huts | 11 => l1f_singers | 12 => l1f_villages | 13 => l1f_dams | 14 => l1f_echoes | 15 => l1f_deep | 16 => l1f_slide | 17 => v0f_deeds | 18 => v1f_deeds | 19 => s0f_facts | 20 => s1f_facts | 21 => c0f_voices | 22 => c0f_step | 23 => c1f_voices | 24 => c1f_step | _ => 0, fun k => match k with | 0 => a_tape | 1 => a_counts | 2 => l0a_heights | 3 => l0a_ladders | 4 => l0a_minutes | 5 => l0a_echoFrom | 6 => l0a_echoTo | 7 => l0a_homes | 8 => l0a_talls | 9 => l0a_known | 10 => l1a_heights | 11 => l1a_ladders | 12 => l1a_minutes | 13 => l1a_echoFrom | 14 => l1a_echoTo | 15 => l1a_homes | 16 => l1a_talls | 17 => l1a_known | 18 => v0a_kinds | 19 => v0a_firsts | 20 => v0a_seconds | 21 => v1a_kinds | 22 => v1a_firsts | 23 => v1a_seconds | 24 => s0a_heard | 25 => s0a_huts | 26 => s0a_minutes | 27 => s1a_heard | 28 => s1a_huts | 29 => s1a_minutes | 30 => c0a_parts | 31 => c0a_heights | 32 => c1a_parts | 33 => c1a_heights | _ => fun _ => 0)
def mmk (a_tape : Nat → Int32) (a_size : Nat → Int32) (a_fault : Nat → Int32) (a_faultPlace : Nat → Int32) (a_many : Nat → Int32) (a_lands : Nat → Int32) (a_evenings : Nat → Int32) (a_sights : Nat → Int32) (a_choirs : Nat → Int32) (a_kept : Nat → Int32) : Nat → Nat → Int32 := fun k => match k with | 0 => a_tape | 1 => a_size | 2 => a_fault | 3 => a_faultPlace | 4 => a_many | 5 => a_lands | 6 => a_evenings | 7 => a_sights | 8 => a_choirs | 9 => a_kept | _ => fun _ => 0
theorem imJ_nI {a : Int32} : imJ a ↔ ∃ k, k < 3 ∧ a = nI k := by
  constructor
  · intro h
    obtain ⟨j, hj, e⟩ := nI_of2 (M := 2) (n := 2) (by decide) (Int32.not_lt.mpr h.1) h.2
    exact ⟨j, by omega, e⟩
  · rintro ⟨k, hk, rfl⟩
    exact ⟨nI_pos' (by omega), nI_le (b := 2) (by omega) (by omega)⟩
end
section
/-- a row of bytes that go on -/
def scn (p : Nat → Bool) : Nat → Nat → Nat
  | 0, r => r
  | m + 1, r => if p r = true then scn p m (r + 1) else r
theorem scn_le (p : Nat → Bool) : ∀ (m r : Nat), r ≤ scn p m r ∧ scn p m r ≤ r + m
  | 0, r => ⟨Nat.le_refl _, Nat.le_refl _⟩
  | m + 1, r => by
    unfold scn
    have := scn_le p m (r + 1)
    by_cases h : p r = true
    · rw [if_pos h]; omega
    · rw [if_neg h]; omega
theorem scn_t {p : Nat → Bool} {m r : Nat} (h : p r = true) : scn p (m + 1) r = scn p m (r + 1) := by
  rw [scn, if_pos h]
theorem scn_f {p : Nat → Bool} {m r : Nat} (h : ¬ p r = true) : scn p m r = r := by
  cases m with
  | zero => rfl
  | succ m => rw [scn, if_neg h]
theorem scn_all (p : Nat → Bool) : ∀ (m r j : Nat), r ≤ j → j < scn p m r → p j = true
  | 0, r, j => fun h1 h2 => absurd h2 (by unfold scn; omega)
  | m + 1, r, j => fun h1 h2 => by
    unfold scn at h2
    by_cases h : p r = true
    · rw [if_pos h] at h2
      by_cases hj : j = r
      · rw [hj]; exact h
      · exact scn_all p m (r + 1) j (by omega) h2
    · rw [if_neg h] at h2; omega
def isB (B : Nat → Int32) (j : Nat) : Bool := decide (B j = 10 ∨ B j = 32)
def isL (B : Nat → Int32) (j : Nat) : Bool := decide (97 ≤ B j ∧ B j ≤ 122)
def isD (B : Nat → Int32) (j : Nat) : Bool := decide (48 ≤ B j ∧ B j ≤ 57)
/-- a token from r on: its first byte, what is behind it, its kind (0 end, 1 word, 2 number, 3 stroke, 4 none), its value -/
def tF (B : Nat → Int32) (n r : Nat) : Nat := scn (isB B) (n - r) r
def tN (B : Nat → Int32) (n r : Nat) : Nat := if tF B n r < n then (if isL B (tF B n r) = true then scn (isL B) (n - tF B n r) (tF B n r) else if isD B (tF B n r) = true then scn (isD B) (n - tF B n r) (tF B n r) else tF B n r + 1) else tF B n r
def tK (B : Nat → Int32) (n r : Nat) : Nat := if tF B n r < n then (if isL B (tF B n r) = true then 1 else if isD B (tF B n r) = true then (if tN B n r - tF B n r ≤ 2 then 2 else 4) else if B (tF B n r) = 59 then 3 else 4) else 0
def vD (B : Nat → Int32) (f : Nat) : Nat → Int32
  | 0 => 0
  | m + 1 => if m < 2 then vD B f m * 10 + B (f + m) - 48 else vD B f m
def tV (B : Nat → Int32) (n r : Nat) : Int32 := vD B (tF B n r) (tN B n r - tF B n r)
def pw (B : Nat → Int32) (f : Nat) : Nat → Int64
  | 0 => 0
  | m + 1 => (pw B f m <<< (Int32.toInt64 8 &&& 63)) ||| Int32.toInt64 (B (f + m) &&& 255)
def tW (B : Nat → Int32) (n r : Nat) : Int64 := if tN B n r - tF B n r ≤ 8 then pw B (tF B n r) (tN B n r - tF B n r) else 0
def sI (k : Nat) : Int32 := if k = 0 then 0 else if k = 1 then 2 else if k = 2 then 3 else if k = 3 then 4 else 1
theorem tF_le {B : Nat → Int32} {n r : Nat} (hr : r ≤ n) : r ≤ tF B n r ∧ tF B n r ≤ n := by
  have := scn_le (isB B) (n - r) r
  unfold tF
  omega
theorem tk_end {B : Nat → Int32} {n r : Nat} (h : ¬ tF B n r < n) : tK B n r = 0 ∧ tN B n r = tF B n r := ⟨if_neg h, if_neg h⟩
theorem tk_let {B : Nat → Int32} {n r f : Nat} (hf : tF B n r = f) (h : f < n) (hL : isL B f = true) : tK B n r = 1 ∧ tN B n r = scn (isL B) (n - f) f := by
  unfold tK tN
  rw [hf, if_pos h, if_pos hL, if_pos h, if_pos hL]
  exact ⟨rfl, rfl⟩
theorem tk_dig {B : Nat → Int32} {n r f : Nat} (hf : tF B n r = f) (h : f < n) (hL : ¬ isL B f = true) (hD : isD B f = true) : tN B n r = scn (isD B) (n - f) f ∧ tK B n r = if scn (isD B) (n - f) f - f ≤ 2 then 2 else 4 := by
  have e : tN B n r = scn (isD B) (n - f) f := by
    unfold tN
    rw [hf, if_pos h, if_neg hL, if_pos hD]
  refine ⟨e, ?_⟩
  unfold tK
  rw [e, hf, if_pos h, if_neg hL, if_pos hD]
theorem tk_sgn {B : Nat → Int32} {n r f : Nat} (hf : tF B n r = f) (h : f < n) (hL : ¬ isL B f = true) (hD : ¬ isD B f = true) : tN B n r = f + 1 ∧ tK B n r = if B f = 59 then 3 else 4 := by
  unfold tK tN
  rw [hf, if_pos h, if_neg hL, if_neg hD, if_pos h, if_neg hL, if_neg hD]
  exact ⟨rfl, rfl⟩
theorem tk_le {B : Nat → Int32} {n r : Nat} (hr : r ≤ n) : tF B n r ≤ tN B n r ∧ tN B n r ≤ n ∧ (¬ tK B n r = 0 → tF B n r < tN B n r) ∧ (tK B n r = 0 → tF B n r = n) ∧ tK B n r ≤ 4 := by
  have h1 := tF_le (B := B) hr
  by_cases h : tF B n r < n
  · by_cases hL : isL B (tF B n r) = true
    · obtain ⟨a, b⟩ := tk_let rfl h hL
      have c := scn_le (isL B) (n - tF B n r) (tF B n r)
      have d : scn (isL B) (n - tF B n r) (tF B n r) = scn (isL B) (n - tF B n r - 1) (tF B n r + 1) := by
        conv => lhs; rw [show n - tF B n r = (n - tF B n r - 1) + 1 by omega]
        exact scn_t hL
      have e := scn_le (isL B) (n - tF B n r - 1) (tF B n r + 1)
      rw [b, a]
      exact ⟨by omega, by omega, fun _ => by omega, fun h => by omega, by omega⟩
    · by_cases hD : isD B (tF B n r) = true
      · obtain ⟨b, a⟩ := tk_dig rfl h hL hD
        have c := scn_le (isD B) (n - tF B n r) (tF B n r)
        have d : scn (isD B) (n - tF B n r) (tF B n r) = scn (isD B) (n - tF B n r - 1) (tF B n r + 1) := by
          conv => lhs; rw [show n - tF B n r = (n - tF B n r - 1) + 1 by omega]
          exact scn_t hD
        have e := scn_le (isD B) (n - tF B n r - 1) (tF B n r + 1)
        have k : tK B n r = 2 ∨ tK B n r = 4 := by
          rw [a]
          by_cases hh : scn (isD B) (n - tF B n r) (tF B n r) - tF B n r ≤ 2
          · rw [if_pos hh]; exact Or.inl rfl
          · rw [if_neg hh]; exact Or.inr rfl
        rw [b]
        exact ⟨by omega, by omega, fun _ => by omega, fun h => by omega, by omega⟩
      · obtain ⟨b, a⟩ := tk_sgn rfl h hL hD
        have k : tK B n r = 3 ∨ tK B n r = 4 := by
          rw [a]
          by_cases hh : B (tF B n r) = 59
          · rw [if_pos hh]; exact Or.inl rfl
          · rw [if_neg hh]; exact Or.inr rfl
        rw [b]
        exact ⟨by omega, by omega, fun _ => by omega, fun h => by omega, by omega⟩
  · obtain ⟨a, b⟩ := tk_end h
    rw [a, b]
    exact ⟨by omega, by omega, fun h => absurd rfl h, fun _ => by omega, by omega⟩
theorem sp_isLet {x : Int32} {post : Int32 → Prop} (h1 : 97 ≤ x ∧ x ≤ 122 → post 1) (h0 : ¬ (97 ≤ x ∧ x ≤ 122) → post 0) : q_z_X4_isLetter_0 x post :=
  ⟨fun h => h0 (fun h2 => absurd h (Int32.not_lt.mpr h2.1)), fun h => ⟨fun g => h0 (fun h2 => absurd g (Int32.not_lt.mpr h2.2)), fun g => h1 ⟨Int32.not_lt.mp h, Int32.not_lt.mp g⟩⟩⟩
theorem sp_isDig {x : Int32} {post : Int32 → Prop} (h1 : 48 ≤ x ∧ x ≤ 57 → post 1) (h0 : ¬ (48 ≤ x ∧ x ≤ 57) → post 0) : q_z_X4_isDigit_0 x post :=
  ⟨fun h => h0 (fun h2 => absurd h (Int32.not_lt.mpr h2.1)), fun h => ⟨fun g => h0 (fun h2 => absurd g (Int32.not_lt.mpr h2.2)), fun g => h1 ⟨Int32.not_lt.mp h, Int32.not_lt.mp g⟩⟩⟩
/-- the class's next token -/
theorem e_adv {tp B : Nat → Int32} {n r : Nat} {ki fi va : Int32} {post : Int32 → Int32 → Int32 → Int32 → Prop} (hn : n ≤ 600) (hr : r ≤ n) (hB : ∀ j, j < n → tp j = B j) (h : ∀ v', (tK B n r = 2 → v' = tV B n r) → post (nI (tN B n r)) (nI (tK B n r)) (nI (tF B n r)) v') : q_wr_X4_advance_0 tp (nI n) (nI r) ki fi va post := by
  have hF := tF_le (B := B) hr
  have f41 : ∀ f, tF B n r = f → q_wr_X4_advance_41 tp (nI n) (nI r) ki fi va (nI f) post := by
    intro f hf
    have hfn : f ≤ n := by omega
    refine pk_lt f n (fun hlt => ?_) (fun hge => ?_)
    · have hin : vp_in (nI f) 600 := vp_in_nI (by omega) (by omega)
      refine ⟨hin, ?_⟩
      rw [nI_clamp (by omega), hB f hlt]
      refine sp_isLet (fun a => oi ?_) (fun hnl => iz ⟨hin, ?_⟩)
      · have hL : isL B f = true := decide_eq_true a
        obtain ⟨hK, hN⟩ := tk_let hf hlt hL
        have fin : ∀ j, j = tN B n r → q_wr_X4_advance_149 tp (nI n) (nI r) 1 (nI f) va (nI j) post := by
          intro j hj
          have h1 := h va (fun hk => absurd (hK.symm.trans hk) (by decide))
          rw [← hj, hK, hf] at h1
          exact h1
        intro P hP
        have loop : ∀ m j, m + j = n → scn (isL B) m j = tN B n r → P (nI j) := by
          intro m
          induction m with
          | zero =>
            intro j hj hs
            apply hP
            refine pk_le n j (fun _ => fin j hs) (fun hlt2 => absurd hlt2 (by omega))
          | succ m ih =>
            intro j hj hs
            apply hP
            refine pk_le n j (fun hlt2 => absurd hlt2 (by omega)) (fun _ => ⟨vp_in_nI (by omega) (by omega), ?_⟩)
            rw [nI_clamp (by omega), hB j (by omega)]
            refine sp_isLet (fun a => oi (fun v e => ?_)) (fun a => iz (fin j ?_))
            · rw [e, nI_1]
              refine ih (j + 1) (by omega) ?_
              rw [← hs]
              exact (scn_t (decide_eq_true a)).symm
            · rw [← hs]
              exact (scn_f (by unfold isL; rw [decide_eq_true_iff]; exact a)).symm
        exact loop (n - f) f (by omega) hN.symm
      · have hL : ¬ isL B f = true := by unfold isL; rw [decide_eq_true_iff]; exact hnl
        refine sp_isDig (fun a => oi ?_) (fun hnd => iz ⟨hin, ?_⟩)
        · have hD : isD B f = true := decide_eq_true a
          obtain ⟨hN, hK⟩ := tk_dig hf hlt hL hD
          have fin : ∀ j, j = tN B n r → f < j → j ≤ n → q_wr_X4_readNumber_68 tp (nI n) ki (vD B f (j - f)) (nI f) (nI j) (fun r_3 f_kind_1 f_value_1 => q_wr_X4_advance_149 tp (nI n) (nI r) f_kind_1 (nI f) f_value_1 r_3 post) := by
            intro j hj h1 h2
            have e : nI j - nI f = nI (j - f) := pk_sub (by omega)
            have hv : tV B n r = vD B f (j - f) := by unfold tV; rw [hf, hj]
            rw [← hN, ← hj] at hK
            have g := h (vD B f (j - f)) (fun _ => hv.symm)
            rw [← hj, hf] at g
            unfold q_wr_X4_readNumber_68
            rw [e]
            refine pk_lt 2 (j - f) (fun h3 => ?_) (fun h3 => ?_)
            · rw [if_neg (by omega)] at hK
              rw [hK] at g
              exact g
            · rw [if_pos (by omega)] at hK
              rw [hK] at g
              exact g
          intro P hP
          have loop : ∀ m j, m + j = n → f ≤ j → (f = j → 0 < m) → scn (isD B) m j = tN B n r → P (nI j) (vD B f (j - f)) := by
            intro m
            induction m with
            | zero =>
              intro j hj hfj h0 hs
              apply hP
              refine pk_le n j (fun _ => fin j hs (by omega) (by omega)) (fun hlt2 => absurd hlt2 (by omega))
            | succ m ih =>
              intro j hj hfj h0 hs
              apply hP
              have hin2 : vp_in (nI j) 600 := vp_in_nI (by omega) (by omega)
              refine pk_le n j (fun hlt2 => absurd hlt2 (by omega)) (fun _ => ⟨hin2, ?_⟩)
              rw [nI_clamp (by omega), hB j (by omega)]
              refine sp_isDig (fun a2 => oi ?_) (fun a2 => iz (fin j ?_ ?_ (by omega)))
              · have nx : ∀ y, y = vD B f (j + 1 - f) → q_wr_X4_readNumber_59 P tp (nI n) ki (vD B f (j - f)) (nI f) (nI j) y (fun r_3 f_kind_1 f_value_1 => q_wr_X4_advance_149 tp (nI n) (nI r) f_kind_1 (nI f) f_value_1 r_3 post) := by
                  intro y hy v e
                  rw [e, nI_1, hy]
                  refine ih (j + 1) (by omega) (by omega) (fun h9 => by omega) ?_
                  rw [← hs]
                  exact (scn_t (decide_eq_true a2)).symm
                have e2 : nI j - nI f = nI (j - f) := pk_sub (by omega)
                have e3 : j + 1 - f = (j - f) + 1 := by omega
                rw [e2]
                refine pk_le 2 (j - f) (fun h3 => nx _ ?_) (fun h3 => ⟨hin2, nx _ ?_⟩)
                · rw [e3, vD, if_neg (by omega)]
                · rw [e3, vD, if_pos h3, show f + (j - f) = j by omega]
              · rw [← hs]
                exact (scn_f (by unfold isD; rw [decide_eq_true_iff]; exact a2)).symm
              · refine Nat.lt_of_le_of_ne hfj (fun h9 => a2 ?_)
                rw [← h9]; exact a
          have h0 := loop (n - f) f (by omega) (Nat.le_refl f) (fun _ => by omega) hN.symm
          rw [Nat.sub_self] at h0
          exact h0
        · have hD : ¬ isD B f = true := by unfold isD; rw [decide_eq_true_iff]; exact hnd
          obtain ⟨hN, hK⟩ := tk_sgn hf hlt hL hD
          refine ⟨fun a v e => ?_, fun a v e => ?_⟩
          · rw [if_neg a] at hK
            have g := h va (fun hk => absurd (hK.symm.trans hk) (by decide))
            rw [hN, hK, hf] at g
            rw [e, nI_1]
            exact g
          · rw [if_pos a] at hK
            have g := h va (fun hk => absurd (hK.symm.trans hk) (by decide))
            rw [hN, hK, hf] at g
            rw [e, nI_1]
            exact g
    · obtain ⟨hK, hN⟩ := tk_end (B := B) (n := n) (r := r) (by omega)
      have g := h va (fun hk => absurd (hK.symm.trans hk) (by decide))
      rw [hN, hK, hf] at g
      exact g
  intro P hP
  have loop : ∀ m j, m + j = n → scn (isB B) m j = tF B n r → P (nI j) := by
    intro m
    induction m with
    | zero =>
      intro j hj hs
      apply hP
      refine pk_le n j (fun _ => f41 j hs.symm) (fun hlt2 => absurd hlt2 (by omega))
    | succ m ih =>
      intro j hj hs
      apply hP
      have hin2 : vp_in (nI j) 600 := vp_in_nI (by omega) (by omega)
      have nx : isB B j = true → q_wr_X4_advance_35 P tp (nI n) (nI r) ki fi va (nI j) post := by
        intro hb v e
        rw [e, nI_1]
        refine ih (j + 1) (by omega) ?_
        rw [← hs]
        exact (scn_t hb).symm
      refine pk_le n j (fun hlt2 => absurd hlt2 (by omega)) (fun _ => ⟨hin2, ?_⟩)
      rw [nI_clamp (by omega), hB j (by omega)]
      refine ⟨fun a => nx (decide_eq_true (Or.inl a)), fun a => ⟨hin2, fun a2 => f41 j ?_, fun a2 => nx (decide_eq_true (Or.inr a2))⟩⟩
      rw [← hs]
      exact scn_f (by unfold isB; rw [decide_eq_true_iff]; exact fun h9 => h9.elim a a2)
  exact loop (n - r) r (by omega) rfl
end
section
theorem u8_tab : ∀ k, k < 256 → (((nI k - 128) &&& 255 = 10) ↔ nI k - 128 = 10) ∧ (((nI k - 128) &&& 255 = 32) ↔ nI k - 128 = 32) ∧ (((nI k - 128) &&& 255 = 59) ↔ nI k - 128 = 59) ∧ ((97 ≤ (nI k - 128) &&& 255 ∧ (nI k - 128) &&& 255 ≤ 122) ↔ (97 ≤ nI k - 128 ∧ nI k - 128 ≤ 122)) ∧ ((48 ≤ (nI k - 128) &&& 255 ∧ (nI k - 128) &&& 255 ≤ 57) ↔ (48 ≤ nI k - 128 ∧ nI k - 128 ≤ 57)) ∧ (0 ≤ nI k - 128 → (nI k - 128) &&& 255 = nI k - 128) ∧ 0 ≤ (nI k - 128) &&& 255 := by decide +kernel
theorem u8 {x : Int32} (h : iv (-128) 127 x) : ((x &&& 255 = 10) ↔ x = 10) ∧ ((x &&& 255 = 32) ↔ x = 32) ∧ ((x &&& 255 = 59) ↔ x = 59) ∧ ((97 ≤ x &&& 255 ∧ x &&& 255 ≤ 122) ↔ (97 ≤ x ∧ x ≤ 122)) ∧ ((48 ≤ x &&& 255 ∧ x &&& 255 ≤ 57) ↔ (48 ≤ x ∧ x ≤ 57)) ∧ (0 ≤ x → x &&& 255 = x) ∧ 0 ≤ x &&& 255 := by
  have h2 : iv 0 255 (x + 128) := iv_add (l := 0) (h := 255) h (iv_lit (x := 128) (l := 128) (h := 128) (by decide)) (by decide)
  obtain ⟨k, hk, -, hk2, -⟩ := iv_nI h2 (by decide)
  have e : x = nI k - 128 := by rw [← hk]; simp
  rw [e]
  exact u8_tab k (by omega)
theorem sp_see1 {tp B : Nat → Int32} {j n : Nat} {post : Int32 → Prop} (hn : n ≤ 600) (hB : ∀ j, j < n → tp j = B j) (hj : j < n) (h : post (B j &&& 255)) : q_m_see_0 tp (nI j) (nI n) post :=
  sp_seeE (Nat.le_of_lt hj) hn (fun e => absurd e (by omega)) (fun _ => by rw [hB j hj]; exact h)
theorem sp_see0 {tp : Nat → Int32} {j n : Nat} {post : Int32 → Prop} (hn : n ≤ 600) (hj : j = n) (h : post (-1)) : q_m_see_0 tp (nI j) (nI n) post :=
  sp_seeE (Nat.le_of_eq hj) hn (fun _ => h) (fun e => absurd e (by omega))
theorem isL_n {B : Nat → Int32} {j : Nat} (h : ¬ (97 ≤ B j ∧ B j ≤ 122)) : ¬ isL B j = true := by unfold isL; rw [decide_eq_true_iff]; exact h
theorem isD_n {B : Nat → Int32} {j : Nat} (h : ¬ (48 ≤ B j ∧ B j ≤ 57)) : ¬ isD B j = true := by unfold isD; rw [decide_eq_true_iff]; exact h
theorem dig_0 {x : Int32} (h : 48 ≤ x ∧ x ≤ 57) : 0 ≤ x := Int32.le_iff_toInt_le.mpr (by have := r_le h.1; have e : (48 : Int32).toInt = 48 := rfl; have e0 : (0 : Int32).toInt = 0 := rfl; omega)
theorem let_0 {x : Int32} (h : 97 ≤ x ∧ x ≤ 122) : 0 ≤ x := Int32.le_iff_toInt_le.mpr (by have := r_le h.1; have e : (97 : Int32).toInt = 97 := rfl; have e0 : (0 : Int32).toInt = 0 := rfl; omega)
/-- the reference's next token -/
theorem e_tok {tp B : Nat → Int32} {n r : Nat} {be so va : Int32} {wd : Int64} {post : Int32 → Int32 → Int32 → Int32 → Int64 → Prop} (hn : n ≤ 600) (hr : r ≤ n) (hB : ∀ j, j < n → tp j = B j) (hb : ∀ j, iv (-128) 127 (B j)) (h : ∀ v' w', (tK B n r = 2 → v' = tV B n r) → (tK B n r = 1 → w' = tW B n r) → post (nI (tN B n r)) (nI (tF B n r)) (sI (tK B n r)) v' w') : q_m_token_0 tp (nI r) (nI n) be so va wd post := by
  have hF := tF_le (B := B) hr
  intro P hP
  have loop : ∀ m j, m + j = n → scn (isB B) m j = tF B n r → P (nI j) := by
    intro m
    induction m with
    | zero =>
      intro j hj hs
      have hj2 : j = n := by omega
      apply hP
      refine sp_see0 hn hj2 ⟨fun h9 => absurd h9 (by decide), fun _ => ?_⟩
      refine sp_see0 hn hj2 ⟨fun _ => ?_, fun h9 => absurd h9 (by decide)⟩
      refine sp_see0 hn hj2 ⟨fun h9 => absurd h9 (by decide), fun _ => ?_⟩
      have hf : tF B n r = j := hs.symm
      obtain ⟨hK, hN⟩ := tk_end (B := B) (n := n) (r := r) (by omega)
      have g := h va 0 (fun hk => absurd (hK.symm.trans hk) (by decide)) (fun hk => absurd (hK.symm.trans hk) (by decide))
      rw [hN, hK, hf] at g
      exact g
    | succ m ih =>
      intro j hj hs
      have hlt : j < n := by omega
      obtain ⟨u10, u32, u59, uL, uD, up, u0⟩ := u8 (hb j)
      apply hP
      have k18 : isB B j = true → q_m_token_18 P tp (nI j) (nI n) be so va wd post := by
        intro hb2 v e
        rw [e, nI_1]
        refine ih (j + 1) (by omega) ?_
        rw [← hs]
        exact (scn_t hb2).symm
      refine sp_see1 hn hB hlt ⟨fun a => k18 (decide_eq_true (Or.inl (u10.mp a))), fun a => ?_⟩
      refine sp_see1 hn hB hlt ⟨fun a2 => ?_, fun a2 => k18 (decide_eq_true (Or.inr (u32.mp a2)))⟩
      have hf : tF B n r = j := by
        rw [← hs]
        exact scn_f (by unfold isB; rw [decide_eq_true_iff]; exact fun h9 => h9.elim (fun e => a (u10.mpr e)) (fun e => a2 (u32.mpr e)))
      refine sp_see1 hn hB hlt ⟨fun _ => ?_, fun h9 => absurd u0 h9⟩
      refine sp_in (fun hnl => iz ?_) (fun l1 l2 => oi ?_)
      · have hL := isL_n (fun h9 => hnl (uL.mpr h9))
        refine sp_in (fun hnd => iz ?_) (fun d1 d2 => oi ?_)
        · have hD := isD_n (fun h9 => hnd (uD.mpr h9))
          obtain ⟨hN, hK⟩ := tk_sgn hf hlt hL hD
          intro v e
          rw [e, nI_1]
          refine ⟨fun c => ?_, fun c => ?_⟩
          · rw [if_neg (fun h9 => c (u59.mpr h9))] at hK
            have g := h va 0 (fun hk => absurd (hK.symm.trans hk) (by decide)) (fun hk => absurd (hK.symm.trans hk) (by decide))
            rw [hN, hK, hf] at g
            exact g
          · rw [if_pos (u59.mp c)] at hK
            have g := h va 0 (fun hk => absurd (hK.symm.trans hk) (by decide)) (fun hk => absurd (hK.symm.trans hk) (by decide))
            rw [hN, hK, hf] at g
            exact g
        · have hD : isD B j = true := decide_eq_true (uD.mp ⟨d1, d2⟩)
          obtain ⟨hN, hK⟩ := tk_dig hf hlt hL hD
          have fin : ∀ i, j + i = tN B n r → ((nI i ≤ 2 → q_m_token_235 tp (nI (j + i)) (nI n) (nI j) so (vD B j i) 0 3 post) ∧ (¬ nI i ≤ 2 → q_m_token_235 tp (nI (j + i)) (nI n) (nI j) so (vD B j i) 0 1 post)) ∨ 600 < i := by
            intro i hi
            by_cases h6 : 600 < i
            · exact Or.inr h6
            refine Or.inl ?_
            have hv : tV B n r = vD B j i := by unfold tV; rw [hf, ← hi]; congr 1; omega
            have g0 := h (vD B j i) 0 (fun _ => hv.symm)
            rw [← hN, ← hi, show j + i - j = i by omega] at hK
            rw [← hi, hf] at g0
            refine pk_le i 2 (fun h3 => ?_) (fun h3 => ?_)
            · rw [if_pos h3] at hK
              have g := g0 (fun hk => absurd (hK.symm.trans hk) (by decide))
              rw [hK] at g
              exact g
            · rw [if_neg (by omega)] at hK
              have g := g0 (fun hk => absurd (hK.symm.trans hk) (by decide))
              rw [hK] at g
              exact g
          intro P2 hP2
          have loop2 : ∀ q i, q + (j + i) = n → scn (isD B) q (j + i) = tN B n r → P2 (nI i) (nI (j + i)) (vD B j i) := by
            intro q
            induction q with
            | zero =>
              intro i hi hs2
              apply hP2
              refine sp_see0 hn (by omega) (sp_in (fun _ => iz ?_) (fun g1 _ => absurd g1 (by decide)))
              exact (fin i hs2).resolve_right (by omega)
            | succ q ih2 =>
              intro i hi hs2
              have hlt2 : j + i < n := by omega
              obtain ⟨-, -, -, -, uD2, up2, -⟩ := u8 (hb (j + i))
              apply hP2
              refine sp_see1 hn hB hlt2 (sp_in (fun c => iz ?_) (fun c1 c2 => oi ?_))
              · refine (fin i ?_).resolve_right (by omega)
                rw [← hs2]
                exact (scn_f (isD_n (fun h9 => c (uD2.mpr h9)))).symm
              · have hd2 := uD2.mp ⟨c1, c2⟩
                have nx : ∀ y, y = vD B j (i + 1) → q_m_token_205 P2 tp (nI (j + i)) (nI n) (nI j) so (vD B j i) 0 (nI i) y post := by
                  intro y hy v1 e1 v2 e2
                  rw [e1, e2, nI_1, nI_1, hy]
                  refine ih2 (i + 1) (by omega) ?_
                  rw [← hs2]
                  exact (scn_t (decide_eq_true hd2)).symm
                refine pk_le 2 i (fun h3 => nx _ ?_) (fun h3 => sp_see1 hn hB hlt2 (nx _ ?_))
                · rw [vD, if_neg (by omega)]
                · rw [vD, if_pos h3, up2 (dig_0 hd2), Int32.mul_comm]
          have h0 := loop2 (n - j) 0 (by omega) hN.symm
          exact h0
      · have hL : isL B j = true := decide_eq_true (uL.mp ⟨l1, l2⟩)
        obtain ⟨hK, hN⟩ := tk_let hf hlt hL
        have fin : ∀ i, j + i = tN B n r → ((nI i ≤ 8 → q_m_token_136 tp (nI (j + i)) (nI n) (nI j) so va (pw B j i) (pw B j i) post) ∧ (¬ nI i ≤ 8 → q_m_token_136 tp (nI (j + i)) (nI n) (nI j) so va (pw B j i) 0 post)) ∨ 600 < i := by
          intro i hi
          by_cases h6 : 600 < i
          · exact Or.inr h6
          refine Or.inl ?_
          have e9 : j + i - j = i := by omega
          have hw : tW B n r = if i ≤ 8 then pw B j i else 0 := by unfold tW; rw [hf, ← hi, e9]
          have g0 := fun w (hw2 : w = tW B n r) => h va w (fun hk => absurd (hK.symm.trans hk) (by decide)) (fun _ => hw2)
          rw [← hi, hf, hK] at g0
          refine pk_le i 8 (fun h3 => g0 _ (by rw [hw, if_pos h3])) (fun h3 => g0 _ (by rw [hw, if_neg (by omega)]))
        intro P2 hP2
        have loop2 : ∀ q i, q + (j + i) = n → scn (isL B) q (j + i) = tN B n r → P2 (nI i) (nI (j + i)) (pw B j i) := by
          intro q
          induction q with
          | zero =>
            intro i hi hs2
            apply hP2
            refine sp_see0 hn (by omega) (sp_in (fun _ => iz ?_) (fun g1 _ => absurd g1 (by decide)))
            exact (fin i hs2).resolve_right (by omega)
          | succ q ih2 =>
            intro i hi hs2
            have hlt2 : j + i < n := by omega
            obtain ⟨-, -, -, uL2, -, up2, -⟩ := u8 (hb (j + i))
            apply hP2
            refine sp_see1 hn hB hlt2 (sp_in (fun c => iz ?_) (fun c1 c2 => oi ?_))
            · refine (fin i ?_).resolve_right (by omega)
              rw [← hs2]
              exact (scn_f (isL_n (fun h9 => c (uL2.mpr h9)))).symm
            · refine sp_see1 hn hB hlt2 (fun v1 e1 v2 e2 v3 e3 => ?_)
              rw [e1, e2, e3, nI_1, nI_1]
              refine ih2 (i + 1) (by omega) ?_
              rw [← hs2]
              exact (scn_t (decide_eq_true (uL2.mp ⟨c1, c2⟩))).symm
        exact loop2 (n - j) 0 (by omega) hN.symm
  exact loop (n - r) r (by omega) rfl
end
section
/-- words: which of the spellings a row of letters is -/
def spl (B : Nat → Int32) (f e w : Nat) : Prop := e - f = sLen.getD w 0 ∧ ∀ i, i < sLen.getD w 0 → B (f + i) = (sByt.getD w []).getD i 0
theorem spl_tab : ∀ i, i < 20 → ∀ j, j < 20 → ¬ i = j → ¬ sLen.getD i 0 = sLen.getD j 0 ∨ ∃ k, k < sLen.getD i 0 ∧ ¬ (sByt.getD i []).getD k 0 = (sByt.getD j []).getD k 0 := by decide +kernel
theorem spl_un {B : Nat → Int32} {f e i j : Nat} (hi : i < 20) (hj : j < 20) (h1 : spl B f e i) (h2 : spl B f e j) : i = j := by
  by_cases h : i = j
  · exact h
  · exfalso
    rcases spl_tab i hi j hj h with a | ⟨k, hk, a⟩
    · exact a (h1.1.symm.trans h2.1)
    · exact a ((h1.2 k hk).symm.trans (h2.2 k (by rw [← h2.1, h1.1]; exact hk)))
def wlo (o : Nat) : Nat := [0, 10, 16, 18, 20].getD o 0
def wP (B : Nat → Int32) (n r o j : Nat) : Prop := wlo o ≤ j ∧ j < wlo (o + 1) ∧ tK B n r = 1 ∧ spl B (tF B n r) (tN B n r) j
noncomputable def wOf (B : Nat → Int32) (n r o : Nat) : Nat := @dite Nat (∃ j, wP B n r o j) (Classical.propDecidable _) (fun h => Classical.choose h) (fun _ => 20)
theorem wlo_lt : ∀ o, o ≤ 3 → wlo (o + 1) ≤ 20 ∧ wlo o < wlo (o + 1) := by decide
theorem wd_is {B : Nat → Int32} {n r o j : Nat} (ho : o ≤ 3) (h : wP B n r o j) : wOf B n r o = j := by
  have hex : ∃ j, wP B n r o j := ⟨j, h⟩
  have e : wOf B n r o = Classical.choose hex := by unfold wOf; exact dif_pos hex
  rw [e]
  have hc := Classical.choose_spec hex
  have := (wlo_lt o ho).1
  exact spl_un (Nat.lt_of_lt_of_le hc.2.1 this) (Nat.lt_of_lt_of_le h.2.1 this) hc.2.2.2 h.2.2.2
theorem wd_no {B : Nat → Int32} {n r o : Nat} (h : ∀ j, ¬ wP B n r o j) : wOf B n r o = 20 := by
  unfold wOf
  exact dif_neg (fun ⟨j, hj⟩ => h j hj)
theorem wd_cases {B : Nat → Int32} {n r o : Nat} (ho : o ≤ 3) : (wOf B n r o = 20 ∧ ∀ j, ¬ wP B n r o j) ∨ (wOf B n r o < 20 ∧ wP B n r o (wOf B n r o)) := by
  by_cases h : ∃ j, wP B n r o j
  · obtain ⟨j, hj⟩ := h
    rw [wd_is ho hj]
    exact Or.inr ⟨Nat.lt_of_lt_of_le hj.2.1 (wlo_lt o ho).1, hj⟩
  · exact Or.inl ⟨wd_no (fun j hj => h ⟨j, hj⟩), fun j hj => h ⟨j, hj⟩⟩
theorem sB_tab : ∀ w, w < 20 → ∀ i, i < sLen.getD w 0 → (sByt.getD w []).getD i 0 &&& 255 = (sByt.getD w []).getD i 0 := by decide +kernel
theorem sL_tab : ∀ w, w < 20 → 0 < sLen.getD w 0 ∧ sLen.getD w 0 ≤ 7 := by decide +kernel
theorem e_spelled {tp B : Nat → Int32} {n f e w : Nat} {post : Int32 → Prop} (hn : n ≤ 600) (hf : f ≤ e) (he : e ≤ n) (hB : ∀ j, j < n → tp j = B j) (hw : w < 20) (h1 : spl B f e w → post 1) (h0 : ¬ spl B f e w → post 0) : q_wr_X4_isSpelled_0 tp (nI e) (nI f) w post := by
  have hl := sL_tab w hw
  refine ⟨hw, fun hq => ?_, fun hq => h0 (fun hs => hq ?_)⟩
  · rw [pk_sub hf] at hq
    have hq2 : sLen.getD w 0 = e - f := (nI_eq (by omega) (by omega)).mp hq
    intro P hP
    have loop : ∀ m i, m + i = sLen.getD w 0 → (∀ k, k < i → B (f + k) = (sByt.getD w []).getD k 0) → P (nI i) := by
      intro m
      induction m with
      | zero =>
        intro i hi hk
        apply hP
        refine ⟨hw, pk_le (sLen.getD w 0) i (fun _ => h1 ⟨hq2.symm, fun k hk2 => hk k (by omega)⟩) (fun h9 => absurd h9 (by omega))⟩
      | succ m ih =>
        intro i hi hk
        apply hP
        refine ⟨hw, pk_le (sLen.getD w 0) i (fun h9 => absurd h9 (by omega)) (fun _ => ?_)⟩
        rw [nI_add, nI_clamp (n := f + i) (by omega), nI_clamp (n := i) (by omega), hB (f + i) (by omega), sB_tab w hw i (by omega)]
        refine ⟨vp_in_nI (by omega) (by omega), hw, vp_in_nI (by omega) (by omega), fun hq3 v ev => ?_, fun hq3 => h0 (fun hs => hq3 (hs.2 i (by omega)))⟩
        rw [ev, nI_1]
        refine ih (i + 1) (by omega) (fun k hk2 => ?_)
        by_cases hki : k = i
        · rw [hki]; exact hq3
        · exact hk k (by omega)
    exact loop (sLen.getD w 0) 0 (by omega) (fun k hk => absurd hk (by omega))
  · rw [pk_sub hf, hs.1]
theorem wlo_tb : ∀ o, o ≤ 4 → tbf_0 o = nI (wlo o) := by decide +kernel
theorem e_wordOf {tp B : Nat → Int32} {n r o : Nat} {post : Int32 → Prop} (hn : n ≤ 600) (hr : r ≤ n) (ho : o ≤ 3) (hB : ∀ j, j < n → tp j = B j) (h0 : wOf B n r o = 20 → post (-1)) (h1 : wOf B n r o < 20 → wP B n r o (wOf B n r o) → post (nI (wOf B n r o))) : q_wr_X4_wordOf_0 tp (nI (tN B n r)) (nI (tK B n r)) (nI (tF B n r)) (nI o) post := by
  have hk := tk_le (B := B) hr
  have hwl := wlo_lt o ho
  refine pk_eq (tK B n r) 1 (fun hK => ⟨vp_in_nI (by omega) (by omega), fun v ev => ?_⟩) (fun hK => h0 (wd_no (fun j hj => hK hj.2.2.1)))
  rw [nI_clamp (by omega), wlo_tb o (by omega)] at ev
  rw [ev]
  intro P hP
  have loop : ∀ m j, m + j = wlo (o + 1) → wlo o ≤ j → (∀ i, wlo o ≤ i → i < j → ¬ spl B (tF B n r) (tN B n r) i) → P (nI j) := by
    intro m
    induction m with
    | zero =>
      intro j hj hlo hi
      apply hP
      rw [nI_1, nI_clamp (n := o + 1) (by omega), wlo_tb (o + 1) (by omega)]
      refine ⟨vp_in_nI (by omega) (by omega), pk_le (wlo (o + 1)) j (fun _ => h0 (wd_no (fun k hk2 => hi k hk2.1 (by have := hk2.2.1; omega) hk2.2.2.2))) (fun h9 => absurd h9 (by omega))⟩
    | succ m ih =>
      intro j hj hlo hi
      apply hP
      rw [nI_1, nI_clamp (n := o + 1) (by omega), wlo_tb (o + 1) (by omega)]
      refine ⟨vp_in_nI (by omega) (by omega), pk_le (wlo (o + 1)) j (fun h9 => absurd h9 (by omega)) (fun _ => ⟨vp_in_nI (by omega) (by omega), ?_⟩)⟩
      rw [nI_clamp (n := j) (by omega)]
      refine e_spelled hn hk.1 hk.2.1 hB (by omega) (fun hs => oi ?_) (fun hs => iz (fun v2 e2 => ?_))
      · have hp : wP B n r o j := ⟨hlo, by omega, hK, hs⟩
        have e := wd_is ho hp
        have g := h1 (by omega) (by rw [e]; exact hp)
        rw [e] at g
        exact g
      · rw [e2, nI_1]
        refine ih (j + 1) (by omega) (by omega) (fun i hi1 hi2 => ?_)
        by_cases hij : i = j
        · rw [hij]; exact hs
        · exact hi i hi1 (by omega)
  exact loop (wlo (o + 1) - wlo o) (wlo o) (by omega) (Nat.le_refl _) (fun i h9 h8 => absurd h8 (by omega))
/-- packed words -/
def pN (d : Nat → Nat) : Nat → Nat
  | 0 => 0
  | m + 1 => 256 * pN d m + d m
def pL : List Nat → Nat
  | [] => 0
  | a :: l => 256 * pL l + a
theorem pN_inj (d : Nat → Nat) : ∀ (l : List Nat) (m : Nat), (∀ i, i < m → 0 < d i ∧ d i < 256) → (∀ a, a ∈ l → 0 < a ∧ a < 256) → pN d m = pL l → m = l.length ∧ ∀ i, i < m → d i = l.getD (m - 1 - i) 0
  | [], 0 => fun _ _ _ => ⟨rfl, fun i hi => absurd hi (by omega)⟩
  | [], m + 1 => fun h _ e => by
    have := h m (by omega)
    simp only [pN, pL] at e
    omega
  | a :: l, 0 => fun _ h e => by
    have := h a (by simp)
    simp only [pN, pL] at e
    omega
  | a :: l, m + 1 => fun h1 h2 e => by
    have a1 := h1 m (by omega)
    have a2 := h2 a (by simp)
    simp only [pN, pL] at e
    obtain ⟨e1, e2⟩ := pN_inj d l m (fun i hi => h1 i (by omega)) (fun b hb => h2 b (by simp [hb])) (by omega)
    refine ⟨by simp [e1], fun i hi => ?_⟩
    by_cases him : i = m
    · subst him
      have : i + 1 - 1 - i = 0 := by omega
      rw [this]
      simp only [List.getD_cons_zero]
      omega
    · rw [e2 i (by omega)]
      have : m + 1 - 1 - i = (m - 1 - i) + 1 := by omega
      rw [this, List.getD_cons_succ]
theorem pN_lt (d : Nat → Nat) : ∀ m, (∀ i, i < m → d i < 256) → pN d m < 256 ^ m
  | 0 => fun _ => by simp [pN]
  | m + 1 => fun h => by
    have a := h m (by omega)
    have b := pN_lt d m (fun i hi => h i (by omega))
    rw [Nat.pow_succ]
    simp only [pN]
    omega
def wC : List Nat := [6845812, 33329961647564645, 6578541, 1684366704, 495740085349, 7823737, 1701013615, 119165551928690, 126896661030258, 461414299507, 422608071022, 1936289383, 33610324346432613, 2002873451, 427020610914, 28259043934301796, 448377483876, 1836414053, 508675318629, 1937007984]
def rB (w : Nat) : List Nat := ((sByt.getD w []).map Int32.toNatClampNeg).reverse
theorem rB_tab : ∀ w, w < 20 → pL (rB w) = wC.getD w 0 ∧ (rB w).length = sLen.getD w 0 ∧ (∀ a, a ∈ rB w → 0 < a ∧ a < 256) ∧ (∀ i, i < sLen.getD w 0 → nI ((rB w).getD (sLen.getD w 0 - 1 - i) 0) = (sByt.getD w []).getD i 0) := by decide +kernel
theorem wC_lt : ∀ w, w < 20 → wC.getD w 0 < 2 ^ 63 ∧ 0 < wC.getD w 0 := by decide +kernel
theorem sh8 {a b : Nat} (ha : a < 2 ^ 55) (hb : b < 256) : (lN a <<< (Int32.toInt64 8 &&& 63)) ||| lN b = lN (256 * a + b) := by
  have e8 : (Int32.toInt64 8 &&& 63 : Int64) = 8 := by decide
  rw [e8]
  apply Int64.toBitVec_inj.mp
  apply BitVec.eq_of_toNat_eq
  have h1 : (lN a).toBitVec.toNat = a := by
    show a % 2 ^ 64 = a
    exact Nat.mod_eq_of_lt (by omega)
  have h2 : (lN b).toBitVec.toNat = b := by
    show b % 2 ^ 64 = b
    exact Nat.mod_eq_of_lt (by omega)
  have h3 : (lN (256 * a + b)).toBitVec.toNat = 256 * a + b := by
    show (256 * a + b) % 2 ^ 64 = 256 * a + b
    exact Nat.mod_eq_of_lt (by omega)
  rw [h3, Int64.toBitVec_or, Int64.toBitVec_shiftLeft, BitVec.toNat_or, h2]
  have e9 : ((8 : Int64).toBitVec.smod 64) = 8 := by decide
  rw [e9]
  have e10 : ((lN a).toBitVec <<< (8 : BitVec 64)).toNat = 256 * a := by
    rw [BitVec.shiftLeft_eq', BitVec.toNat_shiftLeft, h1]
    show (a <<< 8) % 2 ^ 64 = 256 * a
    rw [Nat.shiftLeft_eq]
    rw [Nat.mod_eq_of_lt (by omega)]
    omega
  rw [e10]
  have := Nat.shiftLeft_add_eq_or_of_lt (b := b) (i := 8) (by omega) a
  rw [Nat.shiftLeft_eq] at this
  rw [show 256 * a = a * 2 ^ 8 by omega]
  exact this.symm
def dB (B : Nat → Int32) (f i : Nat) : Nat := (B (f + i)).toNatClampNeg
theorem let_n {x : Int32} (h : 97 ≤ x ∧ x ≤ 122) : ∃ d : Nat, x = nI d ∧ 97 ≤ d ∧ d ≤ 122 := by
  have e1 : (97 : Int32).toInt = 97 := rfl
  have e2 : (122 : Int32).toInt = 122 := rfl
  obtain ⟨d, h1, h2, h3, h4⟩ := iv_nI (a := 97) (b := 122) (x := x) ⟨by have := r_le h.1; omega, by have := r_le h.2; omega⟩ (by decide)
  exact ⟨d, h1, by omega, by omega⟩
theorem pw_pN {B : Nat → Int32} {f : Nat} (hb : ∀ j, iv (-128) 127 (B j)) : ∀ m, m ≤ 8 → (∀ i, i < m → 97 ≤ B (f + i) ∧ B (f + i) ≤ 122) → pw B f m = lN (pN (dB B f) m) ∧ pN (dB B f) m < 128 * 256 ^ (m - 1)
  | 0 => fun _ _ => ⟨rfl, by simp [pN]⟩
  | m + 1 => fun hm h => by
    obtain ⟨d, hd, d1, d2⟩ := let_n (h m (by omega))
    have e : Int32.toInt64 (B (f + m) &&& 255) = lN d := by
      rw [(u8 (hb (f + m))).2.2.2.2.2.1 (let_0 (h m (by omega))), hd]
      exact nI_l (by omega)
    have hdm : dB B f m = d := by unfold dB; rw [hd]; exact nI_clamp (by omega)
    obtain ⟨e1, e2⟩ := pw_pN hb m (by omega) (fun i hi => h i (by omega))
    have hp : 256 ^ (m - 1) ≤ 256 ^ 6 := Nat.pow_le_pow_right (by omega) (by omega)
    have e6 : (256 : Nat) ^ 6 = 281474976710656 := by decide
    have hlt : pN (dB B f) m < 2 ^ 55 := by omega
    refine ⟨?_, ?_⟩
    · show (pw B f m <<< (Int32.toInt64 8 &&& 63)) ||| Int32.toInt64 (B (f + m) &&& 255) = lN (256 * pN (dB B f) m + dB B f m)
      rw [e, e1, hdm]
      exact sh8 hlt (by omega)
    · show 256 * pN (dB B f) m + dB B f m < 128 * 256 ^ (m + 1 - 1)
      rw [hdm]
      cases m with
      | zero => simp only [pN]; omega
      | succ m =>
        rw [show m + 1 + 1 - 1 = (m + 1 - 1) + 1 by omega, Nat.pow_succ]
        omega
/-- a word of the reference is a spelling -/
theorem tW_iff {B : Nat → Int32} {n r j : Nat} (hr : r ≤ n) (hb : ∀ j, iv (-128) 127 (B j)) (hj : j < 20) (hK : tK B n r = 1) : tW B n r = lN (wC.getD j 0) ↔ spl B (tF B n r) (tN B n r) j := by
  have hk := tk_le (B := B) hr
  obtain ⟨r1, r2, r3, r4⟩ := rB_tab j hj
  have hw := wC_lt j hj
  have hL := sL_tab j hj
  have hlt : tF B n r < n := by
    have := hk.2.2.1 (by omega)
    omega
  have hLf : isL B (tF B n r) = true := by
    by_cases h : isL B (tF B n r) = true
    · exact h
    · exfalso
      by_cases hD : isD B (tF B n r) = true
      · have := (tk_dig rfl hlt h hD).2
        rw [hK] at this
        by_cases h2 : scn (isD B) (n - tF B n r) (tF B n r) - tF B n r ≤ 2
        · rw [if_pos h2] at this; omega
        · rw [if_neg h2] at this; omega
      · have := (tk_sgn rfl hlt h hD).2
        rw [hK] at this
        by_cases h2 : B (tF B n r) = 59
        · rw [if_pos h2] at this; omega
        · rw [if_neg h2] at this; omega
  have hN := (tk_let rfl hlt hLf).2
  have hall : ∀ i, i < tN B n r - tF B n r → 97 ≤ B (tF B n r + i) ∧ B (tF B n r + i) ≤ 122 := by
    intro i hi
    have h9 := scn_all (isL B) (n - tF B n r) (tF B n r) (tF B n r + i) (by omega) (by rw [← hN]; omega)
    unfold isL at h9
    exact of_decide_eq_true h9
  by_cases h8 : tN B n r - tF B n r ≤ 8
  · have hp := pw_pN hb _ h8 hall
    have hd : ∀ i, i < tN B n r - tF B n r → 0 < dB B (tF B n r) i ∧ dB B (tF B n r) i < 256 := by
      intro i hi
      obtain ⟨d, hd, d1, d2⟩ := let_n (hall i hi)
      unfold dB
      rw [hd, nI_clamp (by omega)]
      omega
    have hlt63 : pN (dB B (tF B n r)) (tN B n r - tF B n r) < 2 ^ 63 := by
      have h7 : 256 ^ (tN B n r - tF B n r - 1) ≤ 256 ^ 7 := Nat.pow_le_pow_right (by omega) (by omega)
      have e7 : (256 : Nat) ^ 7 = 72057594037927936 := by decide
      omega
    have e : tW B n r = lN (pN (dB B (tF B n r)) (tN B n r - tF B n r)) := by
      unfold tW
      rw [if_pos h8]
      exact hp.1
    rw [e, pk_lEQ hlt63 hw.1, ← r1]
    constructor
    · intro h
      obtain ⟨e1, e2⟩ := pN_inj _ (rB j) _ hd r3 h
      rw [r2] at e1
      refine ⟨e1, fun i hi => ?_⟩
      have e3 := e2 i (by omega)
      rw [e1] at e3
      rw [← r4 i hi, ← e3]
      obtain ⟨d, hd2, d1, d2⟩ := let_n (hall i (by omega))
      unfold dB
      rw [hd2, nI_clamp (by omega)]
    · intro h
      have e4 : ∀ (l : List Nat) (m : Nat), m = l.length → (∀ i, i < m → dB B (tF B n r) i = l.getD (m - 1 - i) 0) → pN (dB B (tF B n r)) m = pL l := by
        intro l
        induction l with
        | nil => intro m hm _; rw [hm]; rfl
        | cons a l ih =>
          intro m hm hq
          rw [List.length_cons] at hm
          subst hm
          simp only [pN, pL]
          have ha := hq l.length (by omega)
          rw [show l.length + 1 - 1 - l.length = 0 by omega] at ha
          simp only [List.getD_cons_zero] at ha
          rw [ha, ih l.length rfl (fun i hi => ?_)]
          have hb2 := hq i (by omega)
          rw [show l.length + 1 - 1 - i = (l.length - 1 - i) + 1 by omega, List.getD_cons_succ] at hb2
          exact hb2
      refine e4 (rB j) _ (by rw [r2]; exact h.1) (fun i hi => ?_)
      unfold dB
      have h5 : i < sLen.getD j 0 := by rw [← h.1]; exact hi
      rw [h.2 i h5, ← r4 i h5, h.1]
      refine nI_clamp ?_
      have hmem : (rB j).getD (sLen.getD j 0 - 1 - i) 0 < 256 := by
        rw [List.getD_eq_getElem?_getD]
        cases e9 : (rB j)[sLen.getD j 0 - 1 - i]? with
        | none => simp
        | some x => exact (r3 x (List.mem_of_getElem? e9)).2
      omega
  · have e : tW B n r = lN 0 := by
      unfold tW
      rw [if_neg h8]
      rfl
    rw [e, pk_lEQ (by omega) hw.1]
    constructor
    · intro h; omega
    · intro h; have := h.1; omega
end
section
/-- a line: the places of its tokens -/
def ps (B : Nat → Int32) (n r : Nat) : Nat → Nat
  | 0 => r
  | k + 1 => tN B n (ps B n r k)
theorem ps_le {B : Nat → Int32} {n r : Nat} (hr : r ≤ n) : ∀ k, r ≤ ps B n r k ∧ ps B n r k ≤ n
  | 0 => ⟨Nat.le_refl _, hr⟩
  | k + 1 => by
    have h := ps_le (B := B) hr k
    have h1 := tF_le (B := B) h.2
    have h2 := tk_le (B := B) h.2
    show r ≤ tN B n (ps B n r k) ∧ tN B n (ps B n r k) ≤ n
    omega
def nW (w : Nat) : Nat := [1, 1, 1, 1, 1, 3, 2, 2, 2, 2, 2, 2, 2, 2, 1, 1, 2, 2, 2, 1].getD w 0
theorem nW_tb : ∀ w, w < 20 → tbf_1 w = nI (nW w) ∧ 1 ≤ nW w ∧ nW w ≤ 3 := by decide +kernel
def cb (lo hi but v : Int32) : Bool := decide (lo ≤ v ∧ v ≤ hi ∧ ¬ v = but)
def cW (w k : Nat) (a v : Int32) : Bool := cb (tbf_2 (w * 3 + k)) (tbf_3 (w * 3 + k)) (if k = 1 ∧ (w = 5 ∨ w = 6) then a else -1) v
def fu (w : Nat) (td : Nat → Int32) : Bool := decide ((w = 0 ∧ td 0 = 9) ∨ (w = 6 ∧ td 4 = 4) ∨ (w = 8 ∧ td 1 = 6) ∨ (10 ≤ w ∧ w < 16 ∧ td 0 = 40) ∨ (16 ≤ w ∧ w < 18 ∧ td 0 = 10) ∨ (w = 18 ∧ td 0 = 9))
def mF (c : Bool) (lf f : Int32) : Int32 := if c = true then lf else if lf = 0 then f else lf
def mP (c : Bool) (lf lp pl : Int32) : Int32 := if c = true then lp else if lf = 0 then pl else lp
def mkF (B : Nat → Int32) (n r w : Nat) (td : Nat → Int32) (fa : Int32) : Nat → Int32
  | 0 => mF (!fu w td) fa 3
  | k + 1 => mF (cW w k (tV B n (ps B n r 1)) (tV B n (ps B n r (k + 1)))) (mkF B n r w td fa k) 2
def mkP (B : Nat → Int32) (n r w : Nat) (td : Nat → Int32) (fa pl : Int32) : Nat → Int32
  | 0 => mP (!fu w td) fa pl (nI (tF B n r))
  | k + 1 => mP (cW w k (tV B n (ps B n r 1)) (tV B n (ps B n r (k + 1)))) (mkF B n r w td fa k) (mkP B n r w td fa pl k) (nI (tF B n (ps B n r (k + 1))))
def gd (B : Nat → Int32) (n r w : Nat) : Nat → Bool
  | 0 => true
  | k + 1 => gd B n r w k && cW w k (tV B n (ps B n r 1)) (tV B n (ps B n r (k + 1)))
/-- the token of a line with which no text goes on; 9: none -/
def lbr (B : Nat → Int32) (n r : Nat) : Nat → Nat → Nat
  | 0, k => if tK B n (ps B n r (k + 1)) = 3 then 9 else k + 1
  | d + 1, k => if tK B n (ps B n r (k + 1)) = 2 then lbr B n r d (k + 1) else k + 1
noncomputable def lb (B : Nat → Int32) (n r o : Nat) : Nat := if wOf B n r o = 20 then 0 else lbr B n r (nW (wOf B n r o)) 0
def gr (a b : Int32) : Int32 := if b < a then a else b
/-- what a line tells -/
def lD (w : Nat) (g : Bool) (a b c : Int32) (td : Nat → Int32) : Nat → Int32 :=
  if w = 0 then (if td 0 = 9 then td else upd (upd td 0 (td 0 + 1)) (Int32.toNatClampNeg (7 + td 0)) a)
  else if w = 1 then upd td 2 (td 2 ||| (if g = true then 1 <<< (a &&& 31) else 0))
  else if w = 2 then upd td 3 (td 3 ||| (if g = true then 1 <<< (a &&& 31) else 0))
  else if w = 3 then upd td 5 a
  else if w = 4 then upd td 6 a
  else if w = 5 then (if g = true then upd (upd td (Int32.toNatClampNeg ((51 + 9 * a) + b)) c) (Int32.toNatClampNeg ((51 + 9 * b) + a)) c else td)
  else if w = 6 then (if td 4 = 4 then td else upd (upd (upd td 4 (td 4 + 1)) (Int32.toNatClampNeg (43 + 2 * td 4)) a) (Int32.toNatClampNeg (43 + 2 * td 4 + 1)) b)
  else if w = 7 then (if g = true then upd td (Int32.toNatClampNeg (16 + a)) b else td)
  else if w = 8 then (if td 1 = 6 then td else upd (upd (upd td 1 (td 1 + 1)) (Int32.toNatClampNeg (25 + td 1)) a) (Int32.toNatClampNeg (31 + td 1)) b)
  else if w = 9 then (if g = true then upd td (Int32.toNatClampNeg (37 + a)) (td (Int32.toNatClampNeg (37 + a)) ||| 1 <<< (b &&& 31)) else td)
  else if w < 16 then (if td 0 = 40 then td else upd (upd (upd (upd td 0 (td 0 + 1)) (Int32.toNatClampNeg ((1 + 3 * td 0) + 0)) (nI (w - 10))) (Int32.toNatClampNeg ((1 + 3 * td 0) + 1)) a) (Int32.toNatClampNeg ((1 + 3 * td 0) + 2)) (if w < 14 then b else -1))
  else if w < 18 then (if td 0 = 10 then td else upd (upd (upd (upd td 0 (td 0 + 1)) (Int32.toNatClampNeg ((1 + 3 * td 0) + 0)) (if w = 16 then 1 else 0)) (Int32.toNatClampNeg ((1 + 3 * td 0) + 1)) a) (Int32.toNatClampNeg ((1 + 3 * td 0) + 2)) b)
  else if w = 18 then (if td 0 = 9 then td else upd (upd (upd td 0 (td 0 + 1)) (Int32.toNatClampNeg ((1 + 2 * td 0) + 0)) a) (Int32.toNatClampNeg ((1 + 2 * td 0) + 1)) b)
  else upd td 19 a
def lH (w : Nat) (a b fh : Int32) : Int32 := if w = 5 ∨ w = 6 then gr (gr fh a) b else if w = 1 ∨ w = 2 ∨ w = 7 ∨ w = 8 then gr fh a else fh
def lS (w : Nat) (a fs : Int32) : Int32 := if w = 9 then gr fs a else fs
/-- the end of a text -/
def fin4 (o n : Nat) (fa pl : Int32) (td : Nat → Int32) (fh fs : Int32) : Int32 × Int32 × (Nat → Int32) :=
  if fa = 0 ∧ o = 0 ∧ (td 0 ≤ fh ∨ td 1 ≤ fs) then (4, nI n, td) else (fa, pl, td)
noncomputable def go (B : Nat → Int32) (n o : Nat) : Nat → Nat → Int32 → Int32 → (Nat → Int32) → Int32 → Int32 → Int32 × Int32 × (Nat → Int32)
  | 0, _, fa, pl, td, _, _ => (fa, pl, td)
  | m + 1, r, fa, pl, td, fh, fs =>
    if tK B n r = 0 then fin4 o n fa pl td fh fs
    else if lb B n r o = 9 then go B n o m (ps B n r (nW (wOf B n r o) + 2)) (mkF B n r (wOf B n r o) td fa (nW (wOf B n r o))) (mkP B n r (wOf B n r o) td fa pl (nW (wOf B n r o))) (lD (wOf B n r o) (gd B n r (wOf B n r o) (nW (wOf B n r o))) (tV B n (ps B n r 1)) (tV B n (ps B n r 2)) (tV B n (ps B n r 3)) td) (lH (wOf B n r o) (tV B n (ps B n r 1)) (tV B n (ps B n r 2)) fh) (lS (wOf B n r o) (tV B n (ps B n r 1)) fs)
    else (1, nI (tF B n (ps B n r (lb B n r o))), td)
/-- counts are within their bounds -/
def CB (o : Nat) (td : Nat → Int32) : Prop := iv 0 (if o = 0 then 9 else if o = 1 then 40 else if o = 2 then 10 else 9) (td 0) ∧ (o = 0 → iv 0 6 (td 1) ∧ iv 0 4 (td 4))
/-- the class's drafts are as the told row -/
def LDR (huts singers villages dams echoes deep slide : Int32) (heights ladders minutes echoFrom echoTo homes talls known td : Nat → Int32) : Prop :=
  huts = td 0 ∧ singers = td 1 ∧ villages = td 2 ∧ dams = td 3 ∧ echoes = td 4 ∧ deep = td 5 ∧ slide = td 6 ∧ (∀ j, j < (td 0).toNatClampNeg → heights j = td (7 + j)) ∧ (∀ j, j < 9 → ladders j = td (16 + j)) ∧ (∀ j, j < 81 → minutes j = td (51 + j)) ∧ (∀ j, j < (td 4).toNatClampNeg → echoFrom j = td (43 + 2 * j) ∧ echoTo j = td (44 + 2 * j)) ∧ (∀ j, j < (td 1).toNatClampNeg → homes j = td (25 + j) ∧ talls j = td (31 + j)) ∧ (∀ j, j < 6 → known j = td (37 + j))
def R3 (c : Int32) (a b d td : Nat → Int32) : Prop := c = td 0 ∧ ∀ j, j < (td 0).toNatClampNeg → a j = td (1 + 3 * j) ∧ b j = td (2 + 3 * j) ∧ d j = td (3 + 3 * j)
def CDR (voices step : Int32) (parts heights td : Nat → Int32) : Prop := voices = td 0 ∧ step = td 19 ∧ ∀ j, j < (td 0).toNatClampNeg → parts j = td (1 + 2 * j) ∧ heights j = td (2 + 2 * j)
def HB (h g : Int32) : Prop := ∀ k : Nat, k ≤ 9 → (h >>> (nI k &&& 31) = 0 ↔ g < nI k)
theorem HB_0 : HB 0 (-1) := by
  intro k hk
  have : ∀ k, k ≤ 9 → ((0 : Int32) >>> (nI k &&& 31) = 0 ↔ (-1 : Int32) < nI k) := by decide +kernel
  exact this k hk
theorem sh_tab : ∀ i, i ≤ 8 → ∀ k, k ≤ 9 → (((1 : Int32) <<< (nI i &&& 31)) >>> (nI k &&& 31) = 0 ↔ nI i < nI k) := by decide +kernel
theorem or_z {x y : Int32} : x ||| y = 0 ↔ x = 0 ∧ y = 0 := by
  constructor
  · intro h
    have h1 : x.toBitVec ||| y.toBitVec = 0#32 := by
      have := congrArg Int32.toBitVec h
      rw [Int32.toBitVec_or] at this
      exact this
    have hx : x.toBitVec = 0#32 := by
      apply BitVec.eq_of_getLsbD_eq
      intro i hi
      have h2 := congrArg (fun b => b.getLsbD i) h1
      simp only [BitVec.getLsbD_or, BitVec.getLsbD_zero, Bool.or_eq_false_iff] at h2
      rw [h2.1, BitVec.getLsbD_zero]
    have hy : y.toBitVec = 0#32 := by
      apply BitVec.eq_of_getLsbD_eq
      intro i hi
      have h2 := congrArg (fun b => b.getLsbD i) h1
      simp only [BitVec.getLsbD_or, BitVec.getLsbD_zero, Bool.or_eq_false_iff] at h2
      rw [h2.2, BitVec.getLsbD_zero]
    exact ⟨Int32.toBitVec_inj.mp hx, Int32.toBitVec_inj.mp hy⟩
  · rintro ⟨rfl, rfl⟩; rfl
theorem shr_or (x y s : Int32) : (x ||| y) >>> s = (x >>> s) ||| (y >>> s) := by
  apply Int32.toBitVec_inj.mp
  simp only [Int32.toBitVec_or, Int32.toBitVec_shiftRight]
  apply BitVec.eq_of_getLsbD_eq
  intro i hi
  simp only [BitVec.sshiftRight_eq', BitVec.getLsbD_sshiftRight, BitVec.getLsbD_or, BitVec.msb_or]
  split <;> simp_all <;> exact Bool.and_or_distrib_left _ _ _
theorem gr_lt {g a k : Int32} : gr g a < k ↔ g < k ∧ a < k := by
  unfold gr
  by_cases h : a < g
  · rw [if_pos h]
    exact ⟨fun h2 => ⟨h2, Int32.lt_trans h h2⟩, fun h2 => h2.1⟩
  · rw [if_neg h]
    exact ⟨fun h2 => ⟨Int32.lt_of_le_of_lt (Int32.not_lt.mp h) h2, h2⟩, fun h2 => h2.2⟩
theorem HB_or {h g a : Int32} (hh : HB h g) (ha : iv 0 8 a) : HB (h ||| (1 <<< (a &&& 31))) (gr g a) := by
  obtain ⟨i, rfl, -, hi, -⟩ := iv_nI ha (by decide)
  intro k hk
  rw [shr_or, or_z, gr_lt, hh k hk, sh_tab i (by omega) k hk]
theorem or_assoc3 (x y z : Int32) : x ||| (y ||| z) = x ||| y ||| z := by
  apply Int32.toBitVec_inj.mp
  simp only [Int32.toBitVec_or]
  exact (BitVec.or_assoc _ _ _).symm
theorem HB_or2 {h g a b : Int32} (hh : HB h g) (ha : iv 0 8 a) (hb : iv 0 8 b) : HB (h ||| ((1 <<< (a &&& 31)) ||| (1 <<< (b &&& 31)))) (gr (gr g a) b) := by
  rw [or_assoc3]
  exact HB_or (HB_or hh ha) hb
end
section
def DR (o : Nat) (lf_huts : Int32) (lf_singers : Int32) (lf_villages : Int32) (lf_dams : Int32) (lf_echoes : Int32) (lf_deep : Int32) (lf_slide : Int32) (la_heights : Nat → Int32) (la_ladders : Nat → Int32) (la_minutes : Nat → Int32) (la_echoFrom : Nat → Int32) (la_echoTo : Nat → Int32) (la_homes : Nat → Int32) (la_talls : Nat → Int32) (la_known : Nat → Int32) (vf_deeds : Int32) (va_kinds : Nat → Int32) (va_firsts : Nat → Int32) (va_seconds : Nat → Int32) (sf_facts : Int32) (sa_heard : Nat → Int32) (sa_huts : Nat → Int32) (sa_minutes : Nat → Int32) (cf_voices : Int32) (cf_step : Int32) (ca_parts : Nat → Int32) (ca_heights : Nat → Int32) (h s : Int32) (td : Nat → Int32) (fh fs : Int32) : Prop := (o = 0 → LDR lf_huts lf_singers lf_villages lf_dams lf_echoes lf_deep lf_slide la_heights la_ladders la_minutes la_echoFrom la_echoTo la_homes la_talls la_known td ∧ HB h fh ∧ HB s fs) ∧ (o = 1 → R3 vf_deeds va_kinds va_firsts va_seconds td) ∧ (o = 2 → R3 sf_facts sa_heard sa_huts sa_minutes td) ∧ (o = 3 → CDR cf_voices cf_step ca_parts ca_heights td)
theorem DR0 {lf_huts lf_singers lf_villages lf_dams lf_echoes lf_deep lf_slide vf_deeds sf_facts cf_voices cf_step : Int32} {la_heights la_ladders la_minutes la_echoFrom la_echoTo la_homes la_talls la_known va_kinds va_firsts va_seconds sa_heard sa_huts sa_minutes ca_parts ca_heights : Nat → Int32} {h s fh fs : Int32} {td : Nat → Int32} (hl : LDR lf_huts lf_singers lf_villages lf_dams lf_echoes lf_deep lf_slide la_heights la_ladders la_minutes la_echoFrom la_echoTo la_homes la_talls la_known td) (hh : HB h fh) (hs : HB s fs) : DR 0 lf_huts lf_singers lf_villages lf_dams lf_echoes lf_deep lf_slide la_heights la_ladders la_minutes la_echoFrom la_echoTo la_homes la_talls la_known vf_deeds va_kinds va_firsts va_seconds sf_facts sa_heard sa_huts sa_minutes cf_voices cf_step ca_parts ca_heights h s td fh fs := ⟨fun _ => ⟨hl, hh, hs⟩, fun h => absurd h (by decide), fun h => absurd h (by decide), fun h => absurd h (by decide)⟩
theorem DR1 {lf_huts lf_singers lf_villages lf_dams lf_echoes lf_deep lf_slide vf_deeds sf_facts cf_voices cf_step : Int32} {la_heights la_ladders la_minutes la_echoFrom la_echoTo la_homes la_talls la_known va_kinds va_firsts va_seconds sa_heard sa_huts sa_minutes ca_parts ca_heights : Nat → Int32} {h s fh fs : Int32} {td : Nat → Int32} (hl : R3 vf_deeds va_kinds va_firsts va_seconds td) : DR 1 lf_huts lf_singers lf_villages lf_dams lf_echoes lf_deep lf_slide la_heights la_ladders la_minutes la_echoFrom la_echoTo la_homes la_talls la_known vf_deeds va_kinds va_firsts va_seconds sf_facts sa_heard sa_huts sa_minutes cf_voices cf_step ca_parts ca_heights h s td fh fs := ⟨fun h => absurd h (by decide), fun _ => hl, fun h => absurd h (by decide), fun h => absurd h (by decide)⟩
theorem DR2 {lf_huts lf_singers lf_villages lf_dams lf_echoes lf_deep lf_slide vf_deeds sf_facts cf_voices cf_step : Int32} {la_heights la_ladders la_minutes la_echoFrom la_echoTo la_homes la_talls la_known va_kinds va_firsts va_seconds sa_heard sa_huts sa_minutes ca_parts ca_heights : Nat → Int32} {h s fh fs : Int32} {td : Nat → Int32} (hl : R3 sf_facts sa_heard sa_huts sa_minutes td) : DR 2 lf_huts lf_singers lf_villages lf_dams lf_echoes lf_deep lf_slide la_heights la_ladders la_minutes la_echoFrom la_echoTo la_homes la_talls la_known vf_deeds va_kinds va_firsts va_seconds sf_facts sa_heard sa_huts sa_minutes cf_voices cf_step ca_parts ca_heights h s td fh fs := ⟨fun h => absurd h (by decide), fun h => absurd h (by decide), fun _ => hl, fun h => absurd h (by decide)⟩
theorem DR3 {lf_huts lf_singers lf_villages lf_dams lf_echoes lf_deep lf_slide vf_deeds sf_facts cf_voices cf_step : Int32} {la_heights la_ladders la_minutes la_echoFrom la_echoTo la_homes la_talls la_known va_kinds va_firsts va_seconds sa_heard sa_huts sa_minutes ca_parts ca_heights : Nat → Int32} {h s fh fs : Int32} {td : Nat → Int32} (hl : CDR cf_voices cf_step ca_parts ca_heights td) : DR 3 lf_huts lf_singers lf_villages lf_dams lf_echoes lf_deep lf_slide la_heights la_ladders la_minutes la_echoFrom la_echoTo la_homes la_talls la_known vf_deeds va_kinds va_firsts va_seconds sf_facts sa_heard sa_huts sa_minutes cf_voices cf_step ca_parts ca_heights h s td fh fs := ⟨fun h => absurd h (by decide), fun h => absurd h (by decide), fun h => absurd h (by decide), fun _ => hl⟩
theorem iv_cb {x : Int32} {h : Int} {m : Nat} (hx : iv 0 h x) (hm : h = m) : x.toNatClampNeg ≤ m := by
  have e : x.toNatClampNeg = x.toInt.toNat := rfl
  have := hx.2
  omega
theorem CB_n {td : Nat → Int32} (h : CB 0 td) : (td 0).toNatClampNeg ≤ 9 ∧ (td 1).toNatClampNeg ≤ 6 ∧ (td 4).toNatClampNeg ≤ 4 := ⟨iv_cb h.1 rfl, iv_cb (h.2 rfl).1 rfl, iv_cb (h.2 rfl).2 rfl⟩
theorem LDR_villages {huts singers villages dams echoes deep slide : Int32} {heights ladders minutes echoFrom echoTo homes talls known td : Nat → Int32} (v : Int32) (h : LDR huts singers villages dams echoes deep slide heights ladders minutes echoFrom echoTo homes talls known td) (b0 : (td 0).toNatClampNeg ≤ 9) (b1 : (td 1).toNatClampNeg ≤ 6) (b4 : (td 4).toNatClampNeg ≤ 4) : LDR huts singers (v) dams echoes deep slide heights ladders minutes echoFrom echoTo homes talls known (upd td 2 v) := by
  obtain ⟨e_huts, e_singers, e_villages, e_dams, e_echoes, e_deep, e_slide, e_heights, e_ladders, e_minutes, e_echo, e_home, e_known⟩ := h
  refine ⟨?_, ?_, ?_, ?_, ?_, ?_, ?_, ?_, ?_, ?_, ?_, ?_, ?_⟩
  · rw [up_n (by omega)]; exact e_huts
  · rw [up_n (by omega)]; exact e_singers
  · rw [up_s]
  · rw [up_n (by omega)]; exact e_dams
  · rw [up_n (by omega)]; exact e_echoes
  · rw [up_n (by omega)]; exact e_deep
  · rw [up_n (by omega)]; exact e_slide
  · intro j hj
    rw [up_n (by omega)] at hj
    rw [up_n (by omega)]
    exact e_heights j hj
  · intro j hj
    rw [up_n (by omega)]
    exact e_ladders j hj
  · intro j hj
    rw [up_n (by omega)]
    exact e_minutes j hj
  · intro j hj
    rw [up_n (by omega)] at hj
    rw [up_n (by omega), up_n (by omega)]
    exact e_echo j hj
  · intro j hj
    rw [up_n (by omega)] at hj
    rw [up_n (by omega), up_n (by omega)]
    exact e_home j hj
  · intro j hj
    rw [up_n (by omega)]
    exact e_known j hj
theorem LDR_dams {huts singers villages dams echoes deep slide : Int32} {heights ladders minutes echoFrom echoTo homes talls known td : Nat → Int32} (v : Int32) (h : LDR huts singers villages dams echoes deep slide heights ladders minutes echoFrom echoTo homes talls known td) (b0 : (td 0).toNatClampNeg ≤ 9) (b1 : (td 1).toNatClampNeg ≤ 6) (b4 : (td 4).toNatClampNeg ≤ 4) : LDR huts singers villages (v) echoes deep slide heights ladders minutes echoFrom echoTo homes talls known (upd td 3 v) := by
  obtain ⟨e_huts, e_singers, e_villages, e_dams, e_echoes, e_deep, e_slide, e_heights, e_ladders, e_minutes, e_echo, e_home, e_known⟩ := h
  refine ⟨?_, ?_, ?_, ?_, ?_, ?_, ?_, ?_, ?_, ?_, ?_, ?_, ?_⟩
  · rw [up_n (by omega)]; exact e_huts
  · rw [up_n (by omega)]; exact e_singers
  · rw [up_n (by omega)]; exact e_villages
  · rw [up_s]
  · rw [up_n (by omega)]; exact e_echoes
  · rw [up_n (by omega)]; exact e_deep
  · rw [up_n (by omega)]; exact e_slide
  · intro j hj
    rw [up_n (by omega)] at hj
    rw [up_n (by omega)]
    exact e_heights j hj
  · intro j hj
    rw [up_n (by omega)]
    exact e_ladders j hj
  · intro j hj
    rw [up_n (by omega)]
    exact e_minutes j hj
  · intro j hj
    rw [up_n (by omega)] at hj
    rw [up_n (by omega), up_n (by omega)]
    exact e_echo j hj
  · intro j hj
    rw [up_n (by omega)] at hj
    rw [up_n (by omega), up_n (by omega)]
    exact e_home j hj
  · intro j hj
    rw [up_n (by omega)]
    exact e_known j hj
theorem LDR_deep {huts singers villages dams echoes deep slide : Int32} {heights ladders minutes echoFrom echoTo homes talls known td : Nat → Int32} (v : Int32) (h : LDR huts singers villages dams echoes deep slide heights ladders minutes echoFrom echoTo homes talls known td) (b0 : (td 0).toNatClampNeg ≤ 9) (b1 : (td 1).toNatClampNeg ≤ 6) (b4 : (td 4).toNatClampNeg ≤ 4) : LDR huts singers villages dams echoes (v) slide heights ladders minutes echoFrom echoTo homes talls known (upd td 5 v) := by
  obtain ⟨e_huts, e_singers, e_villages, e_dams, e_echoes, e_deep, e_slide, e_heights, e_ladders, e_minutes, e_echo, e_home, e_known⟩ := h
  refine ⟨?_, ?_, ?_, ?_, ?_, ?_, ?_, ?_, ?_, ?_, ?_, ?_, ?_⟩
  · rw [up_n (by omega)]; exact e_huts
  · rw [up_n (by omega)]; exact e_singers
  · rw [up_n (by omega)]; exact e_villages
  · rw [up_n (by omega)]; exact e_dams
  · rw [up_n (by omega)]; exact e_echoes
  · rw [up_s]
  · rw [up_n (by omega)]; exact e_slide
  · intro j hj
    rw [up_n (by omega)] at hj
    rw [up_n (by omega)]
    exact e_heights j hj
  · intro j hj
    rw [up_n (by omega)]
    exact e_ladders j hj
  · intro j hj
    rw [up_n (by omega)]
    exact e_minutes j hj
  · intro j hj
    rw [up_n (by omega)] at hj
    rw [up_n (by omega), up_n (by omega)]
    exact e_echo j hj
  · intro j hj
    rw [up_n (by omega)] at hj
    rw [up_n (by omega), up_n (by omega)]
    exact e_home j hj
  · intro j hj
    rw [up_n (by omega)]
    exact e_known j hj
theorem LDR_slide {huts singers villages dams echoes deep slide : Int32} {heights ladders minutes echoFrom echoTo homes talls known td : Nat → Int32} (v : Int32) (h : LDR huts singers villages dams echoes deep slide heights ladders minutes echoFrom echoTo homes talls known td) (b0 : (td 0).toNatClampNeg ≤ 9) (b1 : (td 1).toNatClampNeg ≤ 6) (b4 : (td 4).toNatClampNeg ≤ 4) : LDR huts singers villages dams echoes deep (v) heights ladders minutes echoFrom echoTo homes talls known (upd td 6 v) := by
  obtain ⟨e_huts, e_singers, e_villages, e_dams, e_echoes, e_deep, e_slide, e_heights, e_ladders, e_minutes, e_echo, e_home, e_known⟩ := h
  refine ⟨?_, ?_, ?_, ?_, ?_, ?_, ?_, ?_, ?_, ?_, ?_, ?_, ?_⟩
  · rw [up_n (by omega)]; exact e_huts
  · rw [up_n (by omega)]; exact e_singers
  · rw [up_n (by omega)]; exact e_villages
  · rw [up_n (by omega)]; exact e_dams
  · rw [up_n (by omega)]; exact e_echoes
  · rw [up_n (by omega)]; exact e_deep
  · rw [up_s]
  · intro j hj
    rw [up_n (by omega)] at hj
    rw [up_n (by omega)]
    exact e_heights j hj
  · intro j hj
    rw [up_n (by omega)]
    exact e_ladders j hj
  · intro j hj
    rw [up_n (by omega)]
    exact e_minutes j hj
  · intro j hj
    rw [up_n (by omega)] at hj
    rw [up_n (by omega), up_n (by omega)]
    exact e_echo j hj
  · intro j hj
    rw [up_n (by omega)] at hj
    rw [up_n (by omega), up_n (by omega)]
    exact e_home j hj
  · intro j hj
    rw [up_n (by omega)]
    exact e_known j hj
theorem LDR_hut {huts singers villages dams echoes deep slide : Int32} {heights ladders minutes echoFrom echoTo homes talls known td : Nat → Int32} {k : Nat} (v : Int32) (hk : td 0 = nI k) (hk9 : k < 9) (h : LDR huts singers villages dams echoes deep slide heights ladders minutes echoFrom echoTo homes talls known td) (b0 : (td 0).toNatClampNeg ≤ 9) (b1 : (td 1).toNatClampNeg ≤ 6) (b4 : (td 4).toNatClampNeg ≤ 4) : LDR (nI (k + 1)) singers villages dams echoes deep slide (upd heights k v) ladders minutes echoFrom echoTo homes talls known (upd (upd td 0 (nI (k + 1))) (7 + k) v) := by
  obtain ⟨e_huts, e_singers, e_villages, e_dams, e_echoes, e_deep, e_slide, e_heights, e_ladders, e_minutes, e_echo, e_home, e_known⟩ := h
  refine ⟨?_, ?_, ?_, ?_, ?_, ?_, ?_, ?_, ?_, ?_, ?_, ?_, ?_⟩
  · rw [up_n (by omega), up_s]
  · rw [up_n (by omega), up_n (by omega)]; exact e_singers
  · rw [up_n (by omega), up_n (by omega)]; exact e_villages
  · rw [up_n (by omega), up_n (by omega)]; exact e_dams
  · rw [up_n (by omega), up_n (by omega)]; exact e_echoes
  · rw [up_n (by omega), up_n (by omega)]; exact e_deep
  · rw [up_n (by omega), up_n (by omega)]; exact e_slide
  · intro j hj
    rw [up_n (by omega), up_s, nI_clamp (by omega)] at hj
    by_cases hjk : j = k
    · subst hjk; rw [up_s, up_s]
    · rw [up_n hjk, up_n (by omega), up_n (by omega)]
      exact e_heights j (by rw [hk, nI_clamp (by omega)]; omega)
  · intro j hj
    rw [up_n (by omega), up_n (by omega)]
    exact e_ladders j hj
  · intro j hj
    rw [up_n (by omega), up_n (by omega)]
    exact e_minutes j hj
  · intro j hj
    rw [up_n (by omega), up_n (by omega)] at hj
    rw [up_n (by omega), up_n (by omega), up_n (by omega), up_n (by omega)]
    exact e_echo j hj
  · intro j hj
    rw [up_n (by omega), up_n (by omega)] at hj
    rw [up_n (by omega), up_n (by omega), up_n (by omega), up_n (by omega)]
    exact e_home j hj
  · intro j hj
    rw [up_n (by omega), up_n (by omega)]
    exact e_known j hj
theorem LDR_lad {huts singers villages dams echoes deep slide : Int32} {heights ladders minutes echoFrom echoTo homes talls known td : Nat → Int32} {i : Nat} (v : Int32) (hi : i < 9) (h : LDR huts singers villages dams echoes deep slide heights ladders minutes echoFrom echoTo homes talls known td) (b0 : (td 0).toNatClampNeg ≤ 9) (b1 : (td 1).toNatClampNeg ≤ 6) (b4 : (td 4).toNatClampNeg ≤ 4) : LDR huts singers villages dams echoes deep slide heights (upd ladders i v) minutes echoFrom echoTo homes talls known (upd td (16 + i) v) := by
  obtain ⟨e_huts, e_singers, e_villages, e_dams, e_echoes, e_deep, e_slide, e_heights, e_ladders, e_minutes, e_echo, e_home, e_known⟩ := h
  refine ⟨?_, ?_, ?_, ?_, ?_, ?_, ?_, ?_, ?_, ?_, ?_, ?_, ?_⟩
  · rw [up_n (by omega)]; exact e_huts
  · rw [up_n (by omega)]; exact e_singers
  · rw [up_n (by omega)]; exact e_villages
  · rw [up_n (by omega)]; exact e_dams
  · rw [up_n (by omega)]; exact e_echoes
  · rw [up_n (by omega)]; exact e_deep
  · rw [up_n (by omega)]; exact e_slide
  · intro j hj
    rw [up_n (by omega)] at hj
    rw [up_n (by omega)]
    exact e_heights j hj
  · intro j hj
    by_cases hji : j = i
    · subst hji; rw [up_s, up_s]
    · rw [up_n hji, up_n (by omega)]
      exact e_ladders j hj
  · intro j hj
    rw [up_n (by omega)]
    exact e_minutes j hj
  · intro j hj
    rw [up_n (by omega)] at hj
    rw [up_n (by omega), up_n (by omega)]
    exact e_echo j hj
  · intro j hj
    rw [up_n (by omega)] at hj
    rw [up_n (by omega), up_n (by omega)]
    exact e_home j hj
  · intro j hj
    rw [up_n (by omega)]
    exact e_known j hj
theorem LDR_way {huts singers villages dams echoes deep slide : Int32} {heights ladders minutes echoFrom echoTo homes talls known td : Nat → Int32} {i : Nat} (v : Int32) (hi : i < 81) (h : LDR huts singers villages dams echoes deep slide heights ladders minutes echoFrom echoTo homes talls known td) (b0 : (td 0).toNatClampNeg ≤ 9) (b1 : (td 1).toNatClampNeg ≤ 6) (b4 : (td 4).toNatClampNeg ≤ 4) : LDR huts singers villages dams echoes deep slide heights ladders (upd minutes i v) echoFrom echoTo homes talls known (upd td (51 + i) v) := by
  obtain ⟨e_huts, e_singers, e_villages, e_dams, e_echoes, e_deep, e_slide, e_heights, e_ladders, e_minutes, e_echo, e_home, e_known⟩ := h
  refine ⟨?_, ?_, ?_, ?_, ?_, ?_, ?_, ?_, ?_, ?_, ?_, ?_, ?_⟩
  · rw [up_n (by omega)]; exact e_huts
  · rw [up_n (by omega)]; exact e_singers
  · rw [up_n (by omega)]; exact e_villages
  · rw [up_n (by omega)]; exact e_dams
  · rw [up_n (by omega)]; exact e_echoes
  · rw [up_n (by omega)]; exact e_deep
  · rw [up_n (by omega)]; exact e_slide
  · intro j hj
    rw [up_n (by omega)] at hj
    rw [up_n (by omega)]
    exact e_heights j hj
  · intro j hj
    rw [up_n (by omega)]
    exact e_ladders j hj
  · intro j hj
    by_cases hji : j = i
    · subst hji; rw [up_s, up_s]
    · rw [up_n hji, up_n (by omega)]
      exact e_minutes j hj
  · intro j hj
    rw [up_n (by omega)] at hj
    rw [up_n (by omega), up_n (by omega)]
    exact e_echo j hj
  · intro j hj
    rw [up_n (by omega)] at hj
    rw [up_n (by omega), up_n (by omega)]
    exact e_home j hj
  · intro j hj
    rw [up_n (by omega)]
    exact e_known j hj
theorem LDR_kno {huts singers villages dams echoes deep slide : Int32} {heights ladders minutes echoFrom echoTo homes talls known td : Nat → Int32} {i : Nat} (v : Int32) (hi : i < 6) (h : LDR huts singers villages dams echoes deep slide heights ladders minutes echoFrom echoTo homes talls known td) (b0 : (td 0).toNatClampNeg ≤ 9) (b1 : (td 1).toNatClampNeg ≤ 6) (b4 : (td 4).toNatClampNeg ≤ 4) : LDR huts singers villages dams echoes deep slide heights ladders minutes echoFrom echoTo homes talls (upd known i v) (upd td (37 + i) v) := by
  obtain ⟨e_huts, e_singers, e_villages, e_dams, e_echoes, e_deep, e_slide, e_heights, e_ladders, e_minutes, e_echo, e_home, e_known⟩ := h
  refine ⟨?_, ?_, ?_, ?_, ?_, ?_, ?_, ?_, ?_, ?_, ?_, ?_, ?_⟩
  · rw [up_n (by omega)]; exact e_huts
  · rw [up_n (by omega)]; exact e_singers
  · rw [up_n (by omega)]; exact e_villages
  · rw [up_n (by omega)]; exact e_dams
  · rw [up_n (by omega)]; exact e_echoes
  · rw [up_n (by omega)]; exact e_deep
  · rw [up_n (by omega)]; exact e_slide
  · intro j hj
    rw [up_n (by omega)] at hj
    rw [up_n (by omega)]
    exact e_heights j hj
  · intro j hj
    rw [up_n (by omega)]
    exact e_ladders j hj
  · intro j hj
    rw [up_n (by omega)]
    exact e_minutes j hj
  · intro j hj
    rw [up_n (by omega)] at hj
    rw [up_n (by omega), up_n (by omega)]
    exact e_echo j hj
  · intro j hj
    rw [up_n (by omega)] at hj
    rw [up_n (by omega), up_n (by omega)]
    exact e_home j hj
  · intro j hj
    by_cases hji : j = i
    · subst hji; rw [up_s, up_s]
    · rw [up_n hji, up_n (by omega)]
      exact e_known j hj
theorem LDR_ech {huts singers villages dams echoes deep slide : Int32} {heights ladders minutes echoFrom echoTo homes talls known td : Nat → Int32} {k : Nat} (v w : Int32) (hk : td 4 = nI k) (hk9 : k < 4) (h : LDR huts singers villages dams echoes deep slide heights ladders minutes echoFrom echoTo homes talls known td) (b0 : (td 0).toNatClampNeg ≤ 9) (b1 : (td 1).toNatClampNeg ≤ 6) (b4 : (td 4).toNatClampNeg ≤ 4) : LDR huts singers villages dams (nI (k + 1)) deep slide heights ladders minutes (upd echoFrom k v) (upd echoTo k w) homes talls known (upd (upd (upd td 4 (nI (k + 1))) (43 + 2 * k) v) (44 + 2 * k) w) := by
  obtain ⟨e_huts, e_singers, e_villages, e_dams, e_echoes, e_deep, e_slide, e_heights, e_ladders, e_minutes, e_echo, e_home, e_known⟩ := h
  refine ⟨?_, ?_, ?_, ?_, ?_, ?_, ?_, ?_, ?_, ?_, ?_, ?_, ?_⟩
  · rw [up_n (by omega), up_n (by omega), up_n (by omega)]; exact e_huts
  · rw [up_n (by omega), up_n (by omega), up_n (by omega)]; exact e_singers
  · rw [up_n (by omega), up_n (by omega), up_n (by omega)]; exact e_villages
  · rw [up_n (by omega), up_n (by omega), up_n (by omega)]; exact e_dams
  · rw [up_n (by omega), up_n (by omega), up_s]
  · rw [up_n (by omega), up_n (by omega), up_n (by omega)]; exact e_deep
  · rw [up_n (by omega), up_n (by omega), up_n (by omega)]; exact e_slide
  · intro j hj
    rw [up_n (by omega), up_n (by omega), up_n (by omega)] at hj
    rw [up_n (by omega), up_n (by omega), up_n (by omega)]
    exact e_heights j hj
  · intro j hj
    rw [up_n (by omega), up_n (by omega), up_n (by omega)]
    exact e_ladders j hj
  · intro j hj
    rw [up_n (by omega), up_n (by omega), up_n (by omega)]
    exact e_minutes j hj
  · intro j hj
    rw [up_n (by omega), up_n (by omega), up_s, nI_clamp (by omega)] at hj
    by_cases hjk : j = k
    · subst hjk
      refine ⟨?_, ?_⟩
      · rw [up_s, up_n (by omega), up_s]
      · rw [up_s, up_s]
    · rw [up_n hjk, up_n hjk, up_n (by omega), up_n (by omega), up_n (by omega), up_n (by omega), up_n (by omega), up_n (by omega)]
      exact e_echo j (by rw [hk, nI_clamp (by omega)]; omega)
  · intro j hj
    rw [up_n (by omega), up_n (by omega), up_n (by omega)] at hj
    rw [up_n (by omega), up_n (by omega), up_n (by omega), up_n (by omega), up_n (by omega), up_n (by omega)]
    exact e_home j hj
  · intro j hj
    rw [up_n (by omega), up_n (by omega), up_n (by omega)]
    exact e_known j hj
theorem LDR_sin {huts singers villages dams echoes deep slide : Int32} {heights ladders minutes echoFrom echoTo homes talls known td : Nat → Int32} {k : Nat} (v w : Int32) (hk : td 1 = nI k) (hk9 : k < 6) (h : LDR huts singers villages dams echoes deep slide heights ladders minutes echoFrom echoTo homes talls known td) (b0 : (td 0).toNatClampNeg ≤ 9) (b1 : (td 1).toNatClampNeg ≤ 6) (b4 : (td 4).toNatClampNeg ≤ 4) : LDR huts (nI (k + 1)) villages dams echoes deep slide heights ladders minutes echoFrom echoTo (upd homes k v) (upd talls k w) known (upd (upd (upd td 1 (nI (k + 1))) (25 + k) v) (31 + k) w) := by
  obtain ⟨e_huts, e_singers, e_villages, e_dams, e_echoes, e_deep, e_slide, e_heights, e_ladders, e_minutes, e_echo, e_home, e_known⟩ := h
  refine ⟨?_, ?_, ?_, ?_, ?_, ?_, ?_, ?_, ?_, ?_, ?_, ?_, ?_⟩
  · rw [up_n (by omega), up_n (by omega), up_n (by omega)]; exact e_huts
  · rw [up_n (by omega), up_n (by omega), up_s]
  · rw [up_n (by omega), up_n (by omega), up_n (by omega)]; exact e_villages
  · rw [up_n (by omega), up_n (by omega), up_n (by omega)]; exact e_dams
  · rw [up_n (by omega), up_n (by omega), up_n (by omega)]; exact e_echoes
  · rw [up_n (by omega), up_n (by omega), up_n (by omega)]; exact e_deep
  · rw [up_n (by omega), up_n (by omega), up_n (by omega)]; exact e_slide
  · intro j hj
    rw [up_n (by omega), up_n (by omega), up_n (by omega)] at hj
    rw [up_n (by omega), up_n (by omega), up_n (by omega)]
    exact e_heights j hj
  · intro j hj
    rw [up_n (by omega), up_n (by omega), up_n (by omega)]
    exact e_ladders j hj
  · intro j hj
    rw [up_n (by omega), up_n (by omega), up_n (by omega)]
    exact e_minutes j hj
  · intro j hj
    rw [up_n (by omega), up_n (by omega), up_n (by omega)] at hj
    rw [up_n (by omega), up_n (by omega), up_n (by omega), up_n (by omega), up_n (by omega), up_n (by omega)]
    exact e_echo j hj
  · intro j hj
    rw [up_n (by omega), up_n (by omega), up_s, nI_clamp (by omega)] at hj
    by_cases hjk : j = k
    · subst hjk
      refine ⟨?_, ?_⟩
      · rw [up_s, up_n (by omega), up_s]
      · rw [up_s, up_s]
    · rw [up_n hjk, up_n hjk, up_n (by omega), up_n (by omega), up_n (by omega), up_n (by omega), up_n (by omega), up_n (by omega)]
      exact e_home j (by rw [hk, nI_clamp (by omega)]; omega)
  · intro j hj
    rw [up_n (by omega), up_n (by omega), up_n (by omega)]
    exact e_known j hj
theorem R3_add {c : Int32} {a b d td : Nat → Int32} {k : Nat} (x y z : Int32) (h : R3 c a b d td) (hk : td 0 = nI k) (hk9 : k < 41) : R3 (nI (k + 1)) (upd a k x) (upd b k y) (upd d k z) (upd (upd (upd (upd td 0 (nI (k + 1))) (1 + 3 * k) x) (2 + 3 * k) y) (3 + 3 * k) z) := by
  refine ⟨by rw [up_n (by omega), up_n (by omega), up_n (by omega), up_s], fun j hj => ?_⟩
  rw [up_n (by omega), up_n (by omega), up_n (by omega), up_s, nI_clamp (by omega)] at hj
  by_cases hjk : j = k
  · subst hjk
    refine ⟨?_, ?_, ?_⟩
    · rw [up_s, up_n (by omega), up_n (by omega), up_s]
    · rw [up_s, up_n (by omega), up_s]
    · rw [up_s, up_s]
  · rw [up_n hjk, up_n hjk, up_n hjk]
    have g := h.2 j (by rw [hk, nI_clamp (by omega)]; omega)
    refine ⟨?_, ?_, ?_⟩
    · rw [up_n (by omega), up_n (by omega), up_n (by omega), up_n (by omega)]; exact g.1
    · rw [up_n (by omega), up_n (by omega), up_n (by omega), up_n (by omega)]; exact g.2.1
    · rw [up_n (by omega), up_n (by omega), up_n (by omega), up_n (by omega)]; exact g.2.2
theorem CDR_add {c st : Int32} {a b td : Nat → Int32} {k : Nat} (x y : Int32) (h : CDR c st a b td) (hk : td 0 = nI k) (hk9 : k < 9) : CDR (nI (k + 1)) st (upd a k x) (upd b k y) (upd (upd (upd td 0 (nI (k + 1))) (1 + 2 * k) x) (2 + 2 * k) y) := by
  refine ⟨by rw [up_n (by omega), up_n (by omega), up_s], by rw [up_n (by omega), up_n (by omega), up_n (by omega)]; exact h.2.1, fun j hj => ?_⟩
  rw [up_n (by omega), up_n (by omega), up_s, nI_clamp (by omega)] at hj
  by_cases hjk : j = k
  · subst hjk
    refine ⟨?_, ?_⟩
    · rw [up_s, up_n (by omega), up_s]
    · rw [up_s, up_s]
  · rw [up_n hjk, up_n hjk]
    have g := h.2.2 j (by rw [hk, nI_clamp (by omega)]; omega)
    refine ⟨?_, ?_⟩
    · rw [up_n (by omega), up_n (by omega), up_n (by omega)]; exact g.1
    · rw [up_n (by omega), up_n (by omega), up_n (by omega)]; exact g.2
theorem CDR_step {c st : Int32} {a b td : Nat → Int32} (x : Int32) (h : CDR c st a b td) (b0 : (td 0).toNatClampNeg ≤ 9) : CDR c x a b (upd td 19 x) := by
  refine ⟨by rw [up_n (by omega)]; exact h.1, by rw [up_s], fun j hj => ?_⟩
  rw [up_n (by omega)] at hj
  rw [up_n (by omega), up_n (by omega)]
  exact h.2.2 j hj
theorem cW_iv {w k : Nat} {a v : Int32} (h : cW w k a v = true) : iv (tbf_2 (w * 3 + k)).toInt (tbf_3 (w * 3 + k)).toInt v := by
  have g := of_decide_eq_true h
  exact ⟨r_le g.1, r_le g.2.1⟩
theorem ix9 (a b : Nat) : ((51 : Int32) + 9 * nI a) + nI b = nI (51 + 9 * a + b) := by
  rw [show (51 : Int32) = nI 51 from rfl, show (9 : Int32) = nI 9 from rfl, pk_mul, nI_add, nI_add]
theorem jx9 (a b : Nat) : (nI a * 9) + nI b = nI (a * 9 + b) := by
  rw [show (9 : Int32) = nI 9 from rfl, pk_mul, nI_add]
theorem jx (c k : Nat) : nI c + nI k = nI (c + k) := nI_add c k
theorem jx2 (c m k i : Nat) : (nI c + nI m * nI k) + nI i = nI (c + m * k + i) := by
  rw [pk_mul, nI_add, nI_add]
set_option maxRecDepth 20000 in
theorem e_tell_0 {lf_huts lf_singers lf_villages lf_dams lf_echoes lf_deep lf_slide vf_deeds sf_facts cf_voices cf_step : Int32} {la_heights la_ladders la_minutes la_echoFrom la_echoTo la_homes la_talls la_known va_kinds va_firsts va_seconds sa_heard sa_huts sa_minutes ca_parts ca_heights : Nat → Int32} {nums td : Nat → Int32} {h s fh fs a b c : Int32} {post : (Int32) → (Int32) → (Int32) → (Int32) → (Int32) → (Int32) → (Int32) → (Nat → Int32) → (Nat → Int32) → (Nat → Int32) → (Nat → Int32) → (Nat → Int32) → (Nat → Int32) → (Nat → Int32) → (Nat → Int32) → (Int32) → (Nat → Int32) → (Nat → Int32) → (Nat → Int32) → (Int32) → (Nat → Int32) → (Nat → Int32) → (Nat → Int32) → (Int32) → (Int32) → (Nat → Int32) → (Nat → Int32) → Int32 → Int32 → Prop} (hC : CB 0 td) (hf : fu 0 td = false) (n0 : nums 0 = a) (c0 : cW 0 0 a a = true) (hD : DR 0 lf_huts lf_singers lf_villages lf_dams lf_echoes lf_deep lf_slide la_heights la_ladders la_minutes la_echoFrom la_echoTo la_homes la_talls la_known vf_deeds va_kinds va_firsts va_seconds sf_facts sa_heard sa_huts sa_minutes cf_voices cf_step ca_parts ca_heights h s td fh fs) (hpo : ∀ (lf_huts' : Int32) (lf_singers' : Int32) (lf_villages' : Int32) (lf_dams' : Int32) (lf_echoes' : Int32) (lf_deep' : Int32) (lf_slide' : Int32) (la_heights' : Nat → Int32) (la_ladders' : Nat → Int32) (la_minutes' : Nat → Int32) (la_echoFrom' : Nat → Int32) (la_echoTo' : Nat → Int32) (la_homes' : Nat → Int32) (la_talls' : Nat → Int32) (la_known' : Nat → Int32) (vf_deeds' : Int32) (va_kinds' : Nat → Int32) (va_firsts' : Nat → Int32) (va_seconds' : Nat → Int32) (sf_facts' : Int32) (sa_heard' : Nat → Int32) (sa_huts' : Nat → Int32) (sa_minutes' : Nat → Int32) (cf_voices' : Int32) (cf_step' : Int32) (ca_parts' : Nat → Int32) (ca_heights' : Nat → Int32) (h' s' : Int32), DR 0 lf_huts' lf_singers' lf_villages' lf_dams' lf_echoes' lf_deep' lf_slide' la_heights' la_ladders' la_minutes' la_echoFrom' la_echoTo' la_homes' la_talls' la_known' vf_deeds' va_kinds' va_firsts' va_seconds' sf_facts' sa_heard' sa_huts' sa_minutes' cf_voices' cf_step' ca_parts' ca_heights' h' s' (lD 0 true a b c td) (lH 0 a b fh) (lS 0 a fs) → post lf_huts' lf_singers' lf_villages' lf_dams' lf_echoes' lf_deep' lf_slide' la_heights' la_ladders' la_minutes' la_echoFrom' la_echoTo' la_homes' la_talls' la_known' vf_deeds' va_kinds' va_firsts' va_seconds' sf_facts' sa_heard' sa_huts' sa_minutes' cf_voices' cf_step' ca_parts' ca_heights' h' s') : q_wr_X4_tell_0 lf_huts lf_singers lf_villages lf_dams lf_echoes lf_deep lf_slide la_heights la_ladders la_minutes la_echoFrom la_echoTo la_homes la_talls la_known vf_deeds va_kinds va_firsts va_seconds sf_facts sa_heard sa_huts sa_minutes cf_voices cf_step ca_parts ca_heights nums h s (nI 0) post := by
  have ha : iv 0 99 a := iv_w (cW_iv c0) (by decide +kernel)
  obtain ⟨b0, b1, b4⟩ := CB_n hC
  obtain ⟨hL, hh, hs⟩ := hD.1 rfl
  refine ⟨fun h9 => absurd h9 (by decide +kernel), fun _ => ?_⟩
  rw [c_0, c_1, c_2, n0]
  refine ⟨fun h9 => absurd h9 (by decide +kernel), fun _ => ?_, fun h9 => absurd h9 (by decide +kernel), fun h9 => absurd h9 (by decide +kernel), fun h9 => absurd h9 (by decide +kernel), fun h9 => absurd h9 (by decide +kernel), fun h9 => absurd h9 (by decide +kernel), fun h9 => absurd h9 (by decide +kernel), fun h9 => absurd h9 (by decide +kernel), fun h9 => absurd h9 (by decide +kernel)⟩
  obtain ⟨k, hk, -, hk9, -⟩ := iv_nI hC.1 (by decide)
  have hne : ¬ td 0 = 9 := fun h9 => by
    have := of_decide_eq_false hf
    exact this (by simp [h9])
  have hk8 : k < 9 := Nat.lt_of_le_of_ne (by omega) (fun h9 => hne (by rw [hk, h9]; rfl))
  have e0 : lf_huts = nI k := hL.1.trans hk
  refine ⟨by rw [e0]; exact vp_in_nI hk8 (by omega), fun t1 e1 v e2 => ?_⟩
  rw [e0, nI_clamp (by omega)] at e1
  rw [e0, nI_1] at e2
  subst e1 e2
  refine hpo _ _ _ _ _ _ _ _ _ _ _ _ _ _ _ _ _ _ _ _ _ _ _ _ _ _ _ _ _ ?_
  have e : lD 0 true a b c td = upd (upd td 0 (nI (k + 1))) (7 + k) a := by
    show (if td 0 = 9 then td else upd (upd td 0 (td 0 + 1)) (Int32.toNatClampNeg (7 + td 0)) a) = _
    rw [if_neg hne, hk, nI_1, show (7 : Int32) = nI 7 from rfl, nI_add, nI_clamp (by omega)]
  rw [e]
  exact DR0 (LDR_hut a hk hk8 hL b0 b1 b4) hh hs
set_option maxRecDepth 20000 in
theorem e_tell_1 {lf_huts lf_singers lf_villages lf_dams lf_echoes lf_deep lf_slide vf_deeds sf_facts cf_voices cf_step : Int32} {la_heights la_ladders la_minutes la_echoFrom la_echoTo la_homes la_talls la_known va_kinds va_firsts va_seconds sa_heard sa_huts sa_minutes ca_parts ca_heights : Nat → Int32} {nums td : Nat → Int32} {h s fh fs a b c : Int32} {post : (Int32) → (Int32) → (Int32) → (Int32) → (Int32) → (Int32) → (Int32) → (Nat → Int32) → (Nat → Int32) → (Nat → Int32) → (Nat → Int32) → (Nat → Int32) → (Nat → Int32) → (Nat → Int32) → (Nat → Int32) → (Int32) → (Nat → Int32) → (Nat → Int32) → (Nat → Int32) → (Int32) → (Nat → Int32) → (Nat → Int32) → (Nat → Int32) → (Int32) → (Int32) → (Nat → Int32) → (Nat → Int32) → Int32 → Int32 → Prop} (hC : CB 0 td) (hf : fu 1 td = false) (n0 : nums 0 = a) (c0 : cW 1 0 a a = true) (hD : DR 0 lf_huts lf_singers lf_villages lf_dams lf_echoes lf_deep lf_slide la_heights la_ladders la_minutes la_echoFrom la_echoTo la_homes la_talls la_known vf_deeds va_kinds va_firsts va_seconds sf_facts sa_heard sa_huts sa_minutes cf_voices cf_step ca_parts ca_heights h s td fh fs) (hpo : ∀ (lf_huts' : Int32) (lf_singers' : Int32) (lf_villages' : Int32) (lf_dams' : Int32) (lf_echoes' : Int32) (lf_deep' : Int32) (lf_slide' : Int32) (la_heights' : Nat → Int32) (la_ladders' : Nat → Int32) (la_minutes' : Nat → Int32) (la_echoFrom' : Nat → Int32) (la_echoTo' : Nat → Int32) (la_homes' : Nat → Int32) (la_talls' : Nat → Int32) (la_known' : Nat → Int32) (vf_deeds' : Int32) (va_kinds' : Nat → Int32) (va_firsts' : Nat → Int32) (va_seconds' : Nat → Int32) (sf_facts' : Int32) (sa_heard' : Nat → Int32) (sa_huts' : Nat → Int32) (sa_minutes' : Nat → Int32) (cf_voices' : Int32) (cf_step' : Int32) (ca_parts' : Nat → Int32) (ca_heights' : Nat → Int32) (h' s' : Int32), DR 0 lf_huts' lf_singers' lf_villages' lf_dams' lf_echoes' lf_deep' lf_slide' la_heights' la_ladders' la_minutes' la_echoFrom' la_echoTo' la_homes' la_talls' la_known' vf_deeds' va_kinds' va_firsts' va_seconds' sf_facts' sa_heard' sa_huts' sa_minutes' cf_voices' cf_step' ca_parts' ca_heights' h' s' (lD 1 true a b c td) (lH 1 a b fh) (lS 1 a fs) → post lf_huts' lf_singers' lf_villages' lf_dams' lf_echoes' lf_deep' lf_slide' la_heights' la_ladders' la_minutes' la_echoFrom' la_echoTo' la_homes' la_talls' la_known' vf_deeds' va_kinds' va_firsts' va_seconds' sf_facts' sa_heard' sa_huts' sa_minutes' cf_voices' cf_step' ca_parts' ca_heights' h' s') : q_wr_X4_tell_0 lf_huts lf_singers lf_villages lf_dams lf_echoes lf_deep lf_slide la_heights la_ladders la_minutes la_echoFrom la_echoTo la_homes la_talls la_known vf_deeds va_kinds va_firsts va_seconds sf_facts sa_heard sa_huts sa_minutes cf_voices cf_step ca_parts ca_heights nums h s (nI 1) post := by
  have ha : iv 0 8 a := iv_w (cW_iv c0) (by decide +kernel)
  obtain ⟨b0, b1, b4⟩ := CB_n hC
  obtain ⟨hL, hh, hs⟩ := hD.1 rfl
  refine ⟨fun h9 => absurd h9 (by decide +kernel), fun _ => ?_⟩
  rw [c_0, c_1, c_2, n0]
  refine ⟨fun h9 => absurd h9 (by decide +kernel), fun h9 => absurd h9 (by decide +kernel), fun _ => ?_, fun h9 => absurd h9 (by decide +kernel), fun h9 => absurd h9 (by decide +kernel), fun h9 => absurd h9 (by decide +kernel), fun h9 => absurd h9 (by decide +kernel), fun h9 => absurd h9 (by decide +kernel), fun h9 => absurd h9 (by decide +kernel), fun h9 => absurd h9 (by decide +kernel)⟩
  intro v e1 v2 e2
  subst e1 e2
  refine hpo _ _ _ _ _ _ _ _ _ _ _ _ _ _ _ _ _ _ _ _ _ _ _ _ _ _ _ _ _ ?_
  rw [hL.2.2.1]
  exact DR0 (LDR_villages _ hL b0 b1 b4) (HB_or hh ha) hs
set_option maxRecDepth 20000 in
theorem e_tell_2 {lf_huts lf_singers lf_villages lf_dams lf_echoes lf_deep lf_slide vf_deeds sf_facts cf_voices cf_step : Int32} {la_heights la_ladders la_minutes la_echoFrom la_echoTo la_homes la_talls la_known va_kinds va_firsts va_seconds sa_heard sa_huts sa_minutes ca_parts ca_heights : Nat → Int32} {nums td : Nat → Int32} {h s fh fs a b c : Int32} {post : (Int32) → (Int32) → (Int32) → (Int32) → (Int32) → (Int32) → (Int32) → (Nat → Int32) → (Nat → Int32) → (Nat → Int32) → (Nat → Int32) → (Nat → Int32) → (Nat → Int32) → (Nat → Int32) → (Nat → Int32) → (Int32) → (Nat → Int32) → (Nat → Int32) → (Nat → Int32) → (Int32) → (Nat → Int32) → (Nat → Int32) → (Nat → Int32) → (Int32) → (Int32) → (Nat → Int32) → (Nat → Int32) → Int32 → Int32 → Prop} (hC : CB 0 td) (hf : fu 2 td = false) (n0 : nums 0 = a) (c0 : cW 2 0 a a = true) (hD : DR 0 lf_huts lf_singers lf_villages lf_dams lf_echoes lf_deep lf_slide la_heights la_ladders la_minutes la_echoFrom la_echoTo la_homes la_talls la_known vf_deeds va_kinds va_firsts va_seconds sf_facts sa_heard sa_huts sa_minutes cf_voices cf_step ca_parts ca_heights h s td fh fs) (hpo : ∀ (lf_huts' : Int32) (lf_singers' : Int32) (lf_villages' : Int32) (lf_dams' : Int32) (lf_echoes' : Int32) (lf_deep' : Int32) (lf_slide' : Int32) (la_heights' : Nat → Int32) (la_ladders' : Nat → Int32) (la_minutes' : Nat → Int32) (la_echoFrom' : Nat → Int32) (la_echoTo' : Nat → Int32) (la_homes' : Nat → Int32) (la_talls' : Nat → Int32) (la_known' : Nat → Int32) (vf_deeds' : Int32) (va_kinds' : Nat → Int32) (va_firsts' : Nat → Int32) (va_seconds' : Nat → Int32) (sf_facts' : Int32) (sa_heard' : Nat → Int32) (sa_huts' : Nat → Int32) (sa_minutes' : Nat → Int32) (cf_voices' : Int32) (cf_step' : Int32) (ca_parts' : Nat → Int32) (ca_heights' : Nat → Int32) (h' s' : Int32), DR 0 lf_huts' lf_singers' lf_villages' lf_dams' lf_echoes' lf_deep' lf_slide' la_heights' la_ladders' la_minutes' la_echoFrom' la_echoTo' la_homes' la_talls' la_known' vf_deeds' va_kinds' va_firsts' va_seconds' sf_facts' sa_heard' sa_huts' sa_minutes' cf_voices' cf_step' ca_parts' ca_heights' h' s' (lD 2 true a b c td) (lH 2 a b fh) (lS 2 a fs) → post lf_huts' lf_singers' lf_villages' lf_dams' lf_echoes' lf_deep' lf_slide' la_heights' la_ladders' la_minutes' la_echoFrom' la_echoTo' la_homes' la_talls' la_known' vf_deeds' va_kinds' va_firsts' va_seconds' sf_facts' sa_heard' sa_huts' sa_minutes' cf_voices' cf_step' ca_parts' ca_heights' h' s') : q_wr_X4_tell_0 lf_huts lf_singers lf_villages lf_dams lf_echoes lf_deep lf_slide la_heights la_ladders la_minutes la_echoFrom la_echoTo la_homes la_talls la_known vf_deeds va_kinds va_firsts va_seconds sf_facts sa_heard sa_huts sa_minutes cf_voices cf_step ca_parts ca_heights nums h s (nI 2) post := by
  have ha : iv 0 8 a := iv_w (cW_iv c0) (by decide +kernel)
  obtain ⟨b0, b1, b4⟩ := CB_n hC
  obtain ⟨hL, hh, hs⟩ := hD.1 rfl
  refine ⟨fun h9 => absurd h9 (by decide +kernel), fun _ => ?_⟩
  rw [c_0, c_1, c_2, n0]
  refine ⟨fun h9 => absurd h9 (by decide +kernel), fun h9 => absurd h9 (by decide +kernel), fun h9 => absurd h9 (by decide +kernel), fun _ => ?_, fun h9 => absurd h9 (by decide +kernel), fun h9 => absurd h9 (by decide +kernel), fun h9 => absurd h9 (by decide +kernel), fun h9 => absurd h9 (by decide +kernel), fun h9 => absurd h9 (by decide +kernel), fun h9 => absurd h9 (by decide +kernel)⟩
  intro v e1 v2 e2
  subst e1 e2
  refine hpo _ _ _ _ _ _ _ _ _ _ _ _ _ _ _ _ _ _ _ _ _ _ _ _ _ _ _ _ _ ?_
  rw [hL.2.2.2.1]
  exact DR0 (LDR_dams _ hL b0 b1 b4) (HB_or hh ha) hs
set_option maxRecDepth 20000 in
theorem e_tell_3 {lf_huts lf_singers lf_villages lf_dams lf_echoes lf_deep lf_slide vf_deeds sf_facts cf_voices cf_step : Int32} {la_heights la_ladders la_minutes la_echoFrom la_echoTo la_homes la_talls la_known va_kinds va_firsts va_seconds sa_heard sa_huts sa_minutes ca_parts ca_heights : Nat → Int32} {nums td : Nat → Int32} {h s fh fs a b c : Int32} {post : (Int32) → (Int32) → (Int32) → (Int32) → (Int32) → (Int32) → (Int32) → (Nat → Int32) → (Nat → Int32) → (Nat → Int32) → (Nat → Int32) → (Nat → Int32) → (Nat → Int32) → (Nat → Int32) → (Nat → Int32) → (Int32) → (Nat → Int32) → (Nat → Int32) → (Nat → Int32) → (Int32) → (Nat → Int32) → (Nat → Int32) → (Nat → Int32) → (Int32) → (Int32) → (Nat → Int32) → (Nat → Int32) → Int32 → Int32 → Prop} (hC : CB 0 td) (hf : fu 3 td = false) (n0 : nums 0 = a) (c0 : cW 3 0 a a = true) (hD : DR 0 lf_huts lf_singers lf_villages lf_dams lf_echoes lf_deep lf_slide la_heights la_ladders la_minutes la_echoFrom la_echoTo la_homes la_talls la_known vf_deeds va_kinds va_firsts va_seconds sf_facts sa_heard sa_huts sa_minutes cf_voices cf_step ca_parts ca_heights h s td fh fs) (hpo : ∀ (lf_huts' : Int32) (lf_singers' : Int32) (lf_villages' : Int32) (lf_dams' : Int32) (lf_echoes' : Int32) (lf_deep' : Int32) (lf_slide' : Int32) (la_heights' : Nat → Int32) (la_ladders' : Nat → Int32) (la_minutes' : Nat → Int32) (la_echoFrom' : Nat → Int32) (la_echoTo' : Nat → Int32) (la_homes' : Nat → Int32) (la_talls' : Nat → Int32) (la_known' : Nat → Int32) (vf_deeds' : Int32) (va_kinds' : Nat → Int32) (va_firsts' : Nat → Int32) (va_seconds' : Nat → Int32) (sf_facts' : Int32) (sa_heard' : Nat → Int32) (sa_huts' : Nat → Int32) (sa_minutes' : Nat → Int32) (cf_voices' : Int32) (cf_step' : Int32) (ca_parts' : Nat → Int32) (ca_heights' : Nat → Int32) (h' s' : Int32), DR 0 lf_huts' lf_singers' lf_villages' lf_dams' lf_echoes' lf_deep' lf_slide' la_heights' la_ladders' la_minutes' la_echoFrom' la_echoTo' la_homes' la_talls' la_known' vf_deeds' va_kinds' va_firsts' va_seconds' sf_facts' sa_heard' sa_huts' sa_minutes' cf_voices' cf_step' ca_parts' ca_heights' h' s' (lD 3 true a b c td) (lH 3 a b fh) (lS 3 a fs) → post lf_huts' lf_singers' lf_villages' lf_dams' lf_echoes' lf_deep' lf_slide' la_heights' la_ladders' la_minutes' la_echoFrom' la_echoTo' la_homes' la_talls' la_known' vf_deeds' va_kinds' va_firsts' va_seconds' sf_facts' sa_heard' sa_huts' sa_minutes' cf_voices' cf_step' ca_parts' ca_heights' h' s') : q_wr_X4_tell_0 lf_huts lf_singers lf_villages lf_dams lf_echoes lf_deep lf_slide la_heights la_ladders la_minutes la_echoFrom la_echoTo la_homes la_talls la_known vf_deeds va_kinds va_firsts va_seconds sf_facts sa_heard sa_huts sa_minutes cf_voices cf_step ca_parts ca_heights nums h s (nI 3) post := by
  have ha : iv 1 9 a := iv_w (cW_iv c0) (by decide +kernel)
  obtain ⟨b0, b1, b4⟩ := CB_n hC
  obtain ⟨hL, hh, hs⟩ := hD.1 rfl
  refine ⟨fun h9 => absurd h9 (by decide +kernel), fun _ => ?_⟩
  rw [c_0, c_1, c_2, n0]
  refine ⟨fun h9 => absurd h9 (by decide +kernel), fun h9 => absurd h9 (by decide +kernel), fun h9 => absurd h9 (by decide +kernel), fun h9 => absurd h9 (by decide +kernel), fun _ => ?_, fun h9 => absurd h9 (by decide +kernel), fun h9 => absurd h9 (by decide +kernel), fun h9 => absurd h9 (by decide +kernel), fun h9 => absurd h9 (by decide +kernel), fun h9 => absurd h9 (by decide +kernel)⟩
  refine hpo _ _ _ _ _ _ _ _ _ _ _ _ _ _ _ _ _ _ _ _ _ _ _ _ _ _ _ _ _ ?_
  exact DR0 (LDR_deep a hL b0 b1 b4) hh hs
set_option maxRecDepth 20000 in
theorem e_tell_4 {lf_huts lf_singers lf_villages lf_dams lf_echoes lf_deep lf_slide vf_deeds sf_facts cf_voices cf_step : Int32} {la_heights la_ladders la_minutes la_echoFrom la_echoTo la_homes la_talls la_known va_kinds va_firsts va_seconds sa_heard sa_huts sa_minutes ca_parts ca_heights : Nat → Int32} {nums td : Nat → Int32} {h s fh fs a b c : Int32} {post : (Int32) → (Int32) → (Int32) → (Int32) → (Int32) → (Int32) → (Int32) → (Nat → Int32) → (Nat → Int32) → (Nat → Int32) → (Nat → Int32) → (Nat → Int32) → (Nat → Int32) → (Nat → Int32) → (Nat → Int32) → (Int32) → (Nat → Int32) → (Nat → Int32) → (Nat → Int32) → (Int32) → (Nat → Int32) → (Nat → Int32) → (Nat → Int32) → (Int32) → (Int32) → (Nat → Int32) → (Nat → Int32) → Int32 → Int32 → Prop} (hC : CB 0 td) (hf : fu 4 td = false) (n0 : nums 0 = a) (c0 : cW 4 0 a a = true) (hD : DR 0 lf_huts lf_singers lf_villages lf_dams lf_echoes lf_deep lf_slide la_heights la_ladders la_minutes la_echoFrom la_echoTo la_homes la_talls la_known vf_deeds va_kinds va_firsts va_seconds sf_facts sa_heard sa_huts sa_minutes cf_voices cf_step ca_parts ca_heights h s td fh fs) (hpo : ∀ (lf_huts' : Int32) (lf_singers' : Int32) (lf_villages' : Int32) (lf_dams' : Int32) (lf_echoes' : Int32) (lf_deep' : Int32) (lf_slide' : Int32) (la_heights' : Nat → Int32) (la_ladders' : Nat → Int32) (la_minutes' : Nat → Int32) (la_echoFrom' : Nat → Int32) (la_echoTo' : Nat → Int32) (la_homes' : Nat → Int32) (la_talls' : Nat → Int32) (la_known' : Nat → Int32) (vf_deeds' : Int32) (va_kinds' : Nat → Int32) (va_firsts' : Nat → Int32) (va_seconds' : Nat → Int32) (sf_facts' : Int32) (sa_heard' : Nat → Int32) (sa_huts' : Nat → Int32) (sa_minutes' : Nat → Int32) (cf_voices' : Int32) (cf_step' : Int32) (ca_parts' : Nat → Int32) (ca_heights' : Nat → Int32) (h' s' : Int32), DR 0 lf_huts' lf_singers' lf_villages' lf_dams' lf_echoes' lf_deep' lf_slide' la_heights' la_ladders' la_minutes' la_echoFrom' la_echoTo' la_homes' la_talls' la_known' vf_deeds' va_kinds' va_firsts' va_seconds' sf_facts' sa_heard' sa_huts' sa_minutes' cf_voices' cf_step' ca_parts' ca_heights' h' s' (lD 4 true a b c td) (lH 4 a b fh) (lS 4 a fs) → post lf_huts' lf_singers' lf_villages' lf_dams' lf_echoes' lf_deep' lf_slide' la_heights' la_ladders' la_minutes' la_echoFrom' la_echoTo' la_homes' la_talls' la_known' vf_deeds' va_kinds' va_firsts' va_seconds' sf_facts' sa_heard' sa_huts' sa_minutes' cf_voices' cf_step' ca_parts' ca_heights' h' s') : q_wr_X4_tell_0 lf_huts lf_singers lf_villages lf_dams lf_echoes lf_deep lf_slide la_heights la_ladders la_minutes la_echoFrom la_echoTo la_homes la_talls la_known vf_deeds va_kinds va_firsts va_seconds sf_facts sa_heard sa_huts sa_minutes cf_voices cf_step ca_parts ca_heights nums h s (nI 4) post := by
  have ha : iv 0 10 a := iv_w (cW_iv c0) (by decide +kernel)
  obtain ⟨b0, b1, b4⟩ := CB_n hC
  obtain ⟨hL, hh, hs⟩ := hD.1 rfl
  refine ⟨fun h9 => absurd h9 (by decide +kernel), fun _ => ?_⟩
  rw [c_0, c_1, c_2, n0]
  refine ⟨fun h9 => absurd h9 (by decide +kernel), fun h9 => absurd h9 (by decide +kernel), fun h9 => absurd h9 (by decide +kernel), fun h9 => absurd h9 (by decide +kernel), fun h9 => absurd h9 (by decide +kernel), fun _ => ?_, fun h9 => absurd h9 (by decide +kernel), fun h9 => absurd h9 (by decide +kernel), fun h9 => absurd h9 (by decide +kernel), fun h9 => absurd h9 (by decide +kernel)⟩
  refine hpo _ _ _ _ _ _ _ _ _ _ _ _ _ _ _ _ _ _ _ _ _ _ _ _ _ _ _ _ _ ?_
  exact DR0 (LDR_slide a hL b0 b1 b4) hh hs
set_option maxRecDepth 20000 in
theorem e_tell_5 {lf_huts lf_singers lf_villages lf_dams lf_echoes lf_deep lf_slide vf_deeds sf_facts cf_voices cf_step : Int32} {la_heights la_ladders la_minutes la_echoFrom la_echoTo la_homes la_talls la_known va_kinds va_firsts va_seconds sa_heard sa_huts sa_minutes ca_parts ca_heights : Nat → Int32} {nums td : Nat → Int32} {h s fh fs a b c : Int32} {post : (Int32) → (Int32) → (Int32) → (Int32) → (Int32) → (Int32) → (Int32) → (Nat → Int32) → (Nat → Int32) → (Nat → Int32) → (Nat → Int32) → (Nat → Int32) → (Nat → Int32) → (Nat → Int32) → (Nat → Int32) → (Int32) → (Nat → Int32) → (Nat → Int32) → (Nat → Int32) → (Int32) → (Nat → Int32) → (Nat → Int32) → (Nat → Int32) → (Int32) → (Int32) → (Nat → Int32) → (Nat → Int32) → Int32 → Int32 → Prop} (hC : CB 0 td) (hf : fu 5 td = false) (n0 : nums 0 = a) (c0 : cW 5 0 a a = true) (n1 : nums 1 = b) (c1 : cW 5 1 a b = true) (n2 : nums 2 = c) (c2 : cW 5 2 a c = true) (hD : DR 0 lf_huts lf_singers lf_villages lf_dams lf_echoes lf_deep lf_slide la_heights la_ladders la_minutes la_echoFrom la_echoTo la_homes la_talls la_known vf_deeds va_kinds va_firsts va_seconds sf_facts sa_heard sa_huts sa_minutes cf_voices cf_step ca_parts ca_heights h s td fh fs) (hpo : ∀ (lf_huts' : Int32) (lf_singers' : Int32) (lf_villages' : Int32) (lf_dams' : Int32) (lf_echoes' : Int32) (lf_deep' : Int32) (lf_slide' : Int32) (la_heights' : Nat → Int32) (la_ladders' : Nat → Int32) (la_minutes' : Nat → Int32) (la_echoFrom' : Nat → Int32) (la_echoTo' : Nat → Int32) (la_homes' : Nat → Int32) (la_talls' : Nat → Int32) (la_known' : Nat → Int32) (vf_deeds' : Int32) (va_kinds' : Nat → Int32) (va_firsts' : Nat → Int32) (va_seconds' : Nat → Int32) (sf_facts' : Int32) (sa_heard' : Nat → Int32) (sa_huts' : Nat → Int32) (sa_minutes' : Nat → Int32) (cf_voices' : Int32) (cf_step' : Int32) (ca_parts' : Nat → Int32) (ca_heights' : Nat → Int32) (h' s' : Int32), DR 0 lf_huts' lf_singers' lf_villages' lf_dams' lf_echoes' lf_deep' lf_slide' la_heights' la_ladders' la_minutes' la_echoFrom' la_echoTo' la_homes' la_talls' la_known' vf_deeds' va_kinds' va_firsts' va_seconds' sf_facts' sa_heard' sa_huts' sa_minutes' cf_voices' cf_step' ca_parts' ca_heights' h' s' (lD 5 true a b c td) (lH 5 a b fh) (lS 5 a fs) → post lf_huts' lf_singers' lf_villages' lf_dams' lf_echoes' lf_deep' lf_slide' la_heights' la_ladders' la_minutes' la_echoFrom' la_echoTo' la_homes' la_talls' la_known' vf_deeds' va_kinds' va_firsts' va_seconds' sf_facts' sa_heard' sa_huts' sa_minutes' cf_voices' cf_step' ca_parts' ca_heights' h' s') : q_wr_X4_tell_0 lf_huts lf_singers lf_villages lf_dams lf_echoes lf_deep lf_slide la_heights la_ladders la_minutes la_echoFrom la_echoTo la_homes la_talls la_known vf_deeds va_kinds va_firsts va_seconds sf_facts sa_heard sa_huts sa_minutes cf_voices cf_step ca_parts ca_heights nums h s (nI 5) post := by
  have ha : iv 0 8 a := iv_w (cW_iv c0) (by decide +kernel)
  have hb : iv 0 8 b := iv_w (cW_iv c1) (by decide +kernel)
  have hc : iv 1 9 c := iv_w (cW_iv c2) (by decide +kernel)
  obtain ⟨b0, b1, b4⟩ := CB_n hC
  obtain ⟨hL, hh, hs⟩ := hD.1 rfl
  refine ⟨fun h9 => absurd h9 (by decide +kernel), fun _ => ?_⟩
  rw [c_0, c_1, c_2, n0, n1, n2]
  refine ⟨fun h9 => absurd h9 (by decide +kernel), fun h9 => absurd h9 (by decide +kernel), fun h9 => absurd h9 (by decide +kernel), fun h9 => absurd h9 (by decide +kernel), fun h9 => absurd h9 (by decide +kernel), fun h9 => absurd h9 (by decide +kernel), fun _ => ?_, fun h9 => absurd h9 (by decide +kernel), fun h9 => absurd h9 (by decide +kernel), fun h9 => absurd h9 (by decide +kernel)⟩
  obtain ⟨p, ep, -, hp, -⟩ := iv_nI ha (by decide)
  obtain ⟨q, eq, -, hq, -⟩ := iv_nI hb (by decide)
  have i1 : a * 9 + b = nI (p * 9 + q) := by rw [ep, eq]; exact jx9 p q
  have i2 : b * 9 + a = nI (q * 9 + p) := by rw [ep, eq]; exact jx9 q p
  rw [i1, i2, nI_clamp (n := p * 9 + q) (by omega), nI_clamp (n := q * 9 + p) (by omega)]
  refine ⟨vp_in_nI (by omega) (by omega), fun t1 e1 => ⟨vp_in_nI (by omega) (by omega), fun t2 e2 v e3 => ?_⟩⟩
  subst e1 e2 e3
  refine hpo _ _ _ _ _ _ _ _ _ _ _ _ _ _ _ _ _ _ _ _ _ _ _ _ _ _ _ _ _ ?_
  have e : lD 5 true a b c td = upd (upd td (51 + (p * 9 + q)) c) (51 + (q * 9 + p)) c := by
    show upd (upd td (Int32.toNatClampNeg ((51 + 9 * a) + b)) c) (Int32.toNatClampNeg ((51 + 9 * b) + a)) c = _
    rw [ep, eq, ix9, ix9, nI_clamp (by omega), nI_clamp (by omega), show 51 + 9 * p + q = 51 + (p * 9 + q) by omega, show 51 + 9 * q + p = 51 + (q * 9 + p) by omega]
  rw [e]
  have g1 := LDR_way c (show p * 9 + q < 81 by omega) hL b0 b1 b4
  exact DR0 (LDR_way c (show q * 9 + p < 81 by omega) g1 (by rw [up_n (by omega)]; exact b0) (by rw [up_n (by omega)]; exact b1) (by rw [up_n (by omega)]; exact b4)) (HB_or2 hh ha hb) hs
set_option maxRecDepth 20000 in
theorem e_tell_6 {lf_huts lf_singers lf_villages lf_dams lf_echoes lf_deep lf_slide vf_deeds sf_facts cf_voices cf_step : Int32} {la_heights la_ladders la_minutes la_echoFrom la_echoTo la_homes la_talls la_known va_kinds va_firsts va_seconds sa_heard sa_huts sa_minutes ca_parts ca_heights : Nat → Int32} {nums td : Nat → Int32} {h s fh fs a b c : Int32} {post : (Int32) → (Int32) → (Int32) → (Int32) → (Int32) → (Int32) → (Int32) → (Nat → Int32) → (Nat → Int32) → (Nat → Int32) → (Nat → Int32) → (Nat → Int32) → (Nat → Int32) → (Nat → Int32) → (Nat → Int32) → (Int32) → (Nat → Int32) → (Nat → Int32) → (Nat → Int32) → (Int32) → (Nat → Int32) → (Nat → Int32) → (Nat → Int32) → (Int32) → (Int32) → (Nat → Int32) → (Nat → Int32) → Int32 → Int32 → Prop} (hC : CB 0 td) (hf : fu 6 td = false) (n0 : nums 0 = a) (c0 : cW 6 0 a a = true) (n1 : nums 1 = b) (c1 : cW 6 1 a b = true) (hD : DR 0 lf_huts lf_singers lf_villages lf_dams lf_echoes lf_deep lf_slide la_heights la_ladders la_minutes la_echoFrom la_echoTo la_homes la_talls la_known vf_deeds va_kinds va_firsts va_seconds sf_facts sa_heard sa_huts sa_minutes cf_voices cf_step ca_parts ca_heights h s td fh fs) (hpo : ∀ (lf_huts' : Int32) (lf_singers' : Int32) (lf_villages' : Int32) (lf_dams' : Int32) (lf_echoes' : Int32) (lf_deep' : Int32) (lf_slide' : Int32) (la_heights' : Nat → Int32) (la_ladders' : Nat → Int32) (la_minutes' : Nat → Int32) (la_echoFrom' : Nat → Int32) (la_echoTo' : Nat → Int32) (la_homes' : Nat → Int32) (la_talls' : Nat → Int32) (la_known' : Nat → Int32) (vf_deeds' : Int32) (va_kinds' : Nat → Int32) (va_firsts' : Nat → Int32) (va_seconds' : Nat → Int32) (sf_facts' : Int32) (sa_heard' : Nat → Int32) (sa_huts' : Nat → Int32) (sa_minutes' : Nat → Int32) (cf_voices' : Int32) (cf_step' : Int32) (ca_parts' : Nat → Int32) (ca_heights' : Nat → Int32) (h' s' : Int32), DR 0 lf_huts' lf_singers' lf_villages' lf_dams' lf_echoes' lf_deep' lf_slide' la_heights' la_ladders' la_minutes' la_echoFrom' la_echoTo' la_homes' la_talls' la_known' vf_deeds' va_kinds' va_firsts' va_seconds' sf_facts' sa_heard' sa_huts' sa_minutes' cf_voices' cf_step' ca_parts' ca_heights' h' s' (lD 6 true a b c td) (lH 6 a b fh) (lS 6 a fs) → post lf_huts' lf_singers' lf_villages' lf_dams' lf_echoes' lf_deep' lf_slide' la_heights' la_ladders' la_minutes' la_echoFrom' la_echoTo' la_homes' la_talls' la_known' vf_deeds' va_kinds' va_firsts' va_seconds' sf_facts' sa_heard' sa_huts' sa_minutes' cf_voices' cf_step' ca_parts' ca_heights' h' s') : q_wr_X4_tell_0 lf_huts lf_singers lf_villages lf_dams lf_echoes lf_deep lf_slide la_heights la_ladders la_minutes la_echoFrom la_echoTo la_homes la_talls la_known vf_deeds va_kinds va_firsts va_seconds sf_facts sa_heard sa_huts sa_minutes cf_voices cf_step ca_parts ca_heights nums h s (nI 6) post := by
  have ha : iv 0 8 a := iv_w (cW_iv c0) (by decide +kernel)
  have hb : iv 0 8 b := iv_w (cW_iv c1) (by decide +kernel)
  obtain ⟨b0, b1, b4⟩ := CB_n hC
  obtain ⟨hL, hh, hs⟩ := hD.1 rfl
  refine ⟨fun h9 => absurd h9 (by decide +kernel), fun _ => ?_⟩
  rw [c_0, c_1, c_2, n0, n1]
  refine ⟨fun h9 => absurd h9 (by decide +kernel), fun h9 => absurd h9 (by decide +kernel), fun h9 => absurd h9 (by decide +kernel), fun h9 => absurd h9 (by decide +kernel), fun h9 => absurd h9 (by decide +kernel), fun h9 => absurd h9 (by decide +kernel), fun h9 => absurd h9 (by decide +kernel), fun _ => ?_, fun h9 => absurd h9 (by decide +kernel), fun h9 => absurd h9 (by decide +kernel)⟩
  obtain ⟨k, hk, -, hk9, -⟩ := iv_nI (hC.2 rfl).2 (by decide)
  have hne : ¬ td 4 = 4 := fun h9 => by
    have := of_decide_eq_false hf
    exact this (by simp [h9])
  have hk8 : k < 4 := Nat.lt_of_le_of_ne (by omega) (fun h9 => hne (by rw [hk, h9]; rfl))
  have e0 : lf_echoes = nI k := hL.2.2.2.2.1.trans hk
  have hin : vp_in lf_echoes 4 := by rw [e0]; exact vp_in_nI hk8 (by omega)
  refine ⟨hin, fun t1 e1 => ⟨hin, fun t2 e2 v e3 v2 e4 => ?_⟩⟩
  rw [e0, nI_clamp (by omega)] at e1 e2
  rw [e0, nI_1] at e3
  subst e1 e2 e3 e4
  refine hpo _ _ _ _ _ _ _ _ _ _ _ _ _ _ _ _ _ _ _ _ _ _ _ _ _ _ _ _ _ ?_
  have e : lD 6 true a b c td = upd (upd (upd td 4 (nI (k + 1))) (43 + 2 * k) a) (44 + 2 * k) b := by
    show (if td 4 = 4 then td else upd (upd (upd td 4 (td 4 + 1)) (Int32.toNatClampNeg (43 + 2 * td 4)) a) (Int32.toNatClampNeg (43 + 2 * td 4 + 1)) b) = _
    rw [if_neg hne, hk, nI_1, show (43 : Int32) = nI 43 from rfl, show (2 : Int32) = nI 2 from rfl, pk_mul, nI_add, nI_1, nI_clamp (by omega), nI_clamp (by omega), show 43 + 2 * k + 1 = 44 + 2 * k by omega]
  rw [e]
  exact DR0 (LDR_ech a b hk hk8 hL b0 b1 b4) (HB_or2 hh ha hb) hs
set_option maxRecDepth 20000 in
theorem e_tell_7 {lf_huts lf_singers lf_villages lf_dams lf_echoes lf_deep lf_slide vf_deeds sf_facts cf_voices cf_step : Int32} {la_heights la_ladders la_minutes la_echoFrom la_echoTo la_homes la_talls la_known va_kinds va_firsts va_seconds sa_heard sa_huts sa_minutes ca_parts ca_heights : Nat → Int32} {nums td : Nat → Int32} {h s fh fs a b c : Int32} {post : (Int32) → (Int32) → (Int32) → (Int32) → (Int32) → (Int32) → (Int32) → (Nat → Int32) → (Nat → Int32) → (Nat → Int32) → (Nat → Int32) → (Nat → Int32) → (Nat → Int32) → (Nat → Int32) → (Nat → Int32) → (Int32) → (Nat → Int32) → (Nat → Int32) → (Nat → Int32) → (Int32) → (Nat → Int32) → (Nat → Int32) → (Nat → Int32) → (Int32) → (Int32) → (Nat → Int32) → (Nat → Int32) → Int32 → Int32 → Prop} (hC : CB 0 td) (hf : fu 7 td = false) (n0 : nums 0 = a) (c0 : cW 7 0 a a = true) (n1 : nums 1 = b) (c1 : cW 7 1 a b = true) (hD : DR 0 lf_huts lf_singers lf_villages lf_dams lf_echoes lf_deep lf_slide la_heights la_ladders la_minutes la_echoFrom la_echoTo la_homes la_talls la_known vf_deeds va_kinds va_firsts va_seconds sf_facts sa_heard sa_huts sa_minutes cf_voices cf_step ca_parts ca_heights h s td fh fs) (hpo : ∀ (lf_huts' : Int32) (lf_singers' : Int32) (lf_villages' : Int32) (lf_dams' : Int32) (lf_echoes' : Int32) (lf_deep' : Int32) (lf_slide' : Int32) (la_heights' : Nat → Int32) (la_ladders' : Nat → Int32) (la_minutes' : Nat → Int32) (la_echoFrom' : Nat → Int32) (la_echoTo' : Nat → Int32) (la_homes' : Nat → Int32) (la_talls' : Nat → Int32) (la_known' : Nat → Int32) (vf_deeds' : Int32) (va_kinds' : Nat → Int32) (va_firsts' : Nat → Int32) (va_seconds' : Nat → Int32) (sf_facts' : Int32) (sa_heard' : Nat → Int32) (sa_huts' : Nat → Int32) (sa_minutes' : Nat → Int32) (cf_voices' : Int32) (cf_step' : Int32) (ca_parts' : Nat → Int32) (ca_heights' : Nat → Int32) (h' s' : Int32), DR 0 lf_huts' lf_singers' lf_villages' lf_dams' lf_echoes' lf_deep' lf_slide' la_heights' la_ladders' la_minutes' la_echoFrom' la_echoTo' la_homes' la_talls' la_known' vf_deeds' va_kinds' va_firsts' va_seconds' sf_facts' sa_heard' sa_huts' sa_minutes' cf_voices' cf_step' ca_parts' ca_heights' h' s' (lD 7 true a b c td) (lH 7 a b fh) (lS 7 a fs) → post lf_huts' lf_singers' lf_villages' lf_dams' lf_echoes' lf_deep' lf_slide' la_heights' la_ladders' la_minutes' la_echoFrom' la_echoTo' la_homes' la_talls' la_known' vf_deeds' va_kinds' va_firsts' va_seconds' sf_facts' sa_heard' sa_huts' sa_minutes' cf_voices' cf_step' ca_parts' ca_heights' h' s') : q_wr_X4_tell_0 lf_huts lf_singers lf_villages lf_dams lf_echoes lf_deep lf_slide la_heights la_ladders la_minutes la_echoFrom la_echoTo la_homes la_talls la_known vf_deeds va_kinds va_firsts va_seconds sf_facts sa_heard sa_huts sa_minutes cf_voices cf_step ca_parts ca_heights nums h s (nI 7) post := by
  have ha : iv 0 8 a := iv_w (cW_iv c0) (by decide +kernel)
  have hb : iv 0 9 b := iv_w (cW_iv c1) (by decide +kernel)
  obtain ⟨b0, b1, b4⟩ := CB_n hC
  obtain ⟨hL, hh, hs⟩ := hD.1 rfl
  refine ⟨fun h9 => absurd h9 (by decide +kernel), fun _ => ?_⟩
  rw [c_0, c_1, c_2, n0, n1]
  refine ⟨fun h9 => absurd h9 (by decide +kernel), fun h9 => absurd h9 (by decide +kernel), fun h9 => absurd h9 (by decide +kernel), fun h9 => absurd h9 (by decide +kernel), fun h9 => absurd h9 (by decide +kernel), fun h9 => absurd h9 (by decide +kernel), fun h9 => absurd h9 (by decide +kernel), fun h9 => absurd h9 (by decide +kernel), fun _ => ?_, fun h9 => absurd h9 (by decide +kernel)⟩
  obtain ⟨p, ep, -, hp, -⟩ := iv_nI ha (by decide)
  refine ⟨by rw [ep]; exact vp_in_nI (by omega) (by omega), fun t1 e1 v e2 => ?_⟩
  rw [ep, nI_clamp (by omega)] at e1
  subst e1 e2
  refine hpo _ _ _ _ _ _ _ _ _ _ _ _ _ _ _ _ _ _ _ _ _ _ _ _ _ _ _ _ _ ?_
  have e : lD 7 true a b c td = upd td (16 + p) b := by
    show upd td (Int32.toNatClampNeg (16 + a)) b = _
    rw [ep, show (16 : Int32) = nI 16 from rfl, nI_add, nI_clamp (by omega)]
  rw [e]
  exact DR0 (LDR_lad b (show p < 9 by omega) hL b0 b1 b4) (HB_or hh ha) hs
set_option maxRecDepth 20000 in
theorem e_tell_8 {lf_huts lf_singers lf_villages lf_dams lf_echoes lf_deep lf_slide vf_deeds sf_facts cf_voices cf_step : Int32} {la_heights la_ladders la_minutes la_echoFrom la_echoTo la_homes la_talls la_known va_kinds va_firsts va_seconds sa_heard sa_huts sa_minutes ca_parts ca_heights : Nat → Int32} {nums td : Nat → Int32} {h s fh fs a b c : Int32} {post : (Int32) → (Int32) → (Int32) → (Int32) → (Int32) → (Int32) → (Int32) → (Nat → Int32) → (Nat → Int32) → (Nat → Int32) → (Nat → Int32) → (Nat → Int32) → (Nat → Int32) → (Nat → Int32) → (Nat → Int32) → (Int32) → (Nat → Int32) → (Nat → Int32) → (Nat → Int32) → (Int32) → (Nat → Int32) → (Nat → Int32) → (Nat → Int32) → (Int32) → (Int32) → (Nat → Int32) → (Nat → Int32) → Int32 → Int32 → Prop} (hC : CB 0 td) (hf : fu 8 td = false) (n0 : nums 0 = a) (c0 : cW 8 0 a a = true) (n1 : nums 1 = b) (c1 : cW 8 1 a b = true) (hD : DR 0 lf_huts lf_singers lf_villages lf_dams lf_echoes lf_deep lf_slide la_heights la_ladders la_minutes la_echoFrom la_echoTo la_homes la_talls la_known vf_deeds va_kinds va_firsts va_seconds sf_facts sa_heard sa_huts sa_minutes cf_voices cf_step ca_parts ca_heights h s td fh fs) (hpo : ∀ (lf_huts' : Int32) (lf_singers' : Int32) (lf_villages' : Int32) (lf_dams' : Int32) (lf_echoes' : Int32) (lf_deep' : Int32) (lf_slide' : Int32) (la_heights' : Nat → Int32) (la_ladders' : Nat → Int32) (la_minutes' : Nat → Int32) (la_echoFrom' : Nat → Int32) (la_echoTo' : Nat → Int32) (la_homes' : Nat → Int32) (la_talls' : Nat → Int32) (la_known' : Nat → Int32) (vf_deeds' : Int32) (va_kinds' : Nat → Int32) (va_firsts' : Nat → Int32) (va_seconds' : Nat → Int32) (sf_facts' : Int32) (sa_heard' : Nat → Int32) (sa_huts' : Nat → Int32) (sa_minutes' : Nat → Int32) (cf_voices' : Int32) (cf_step' : Int32) (ca_parts' : Nat → Int32) (ca_heights' : Nat → Int32) (h' s' : Int32), DR 0 lf_huts' lf_singers' lf_villages' lf_dams' lf_echoes' lf_deep' lf_slide' la_heights' la_ladders' la_minutes' la_echoFrom' la_echoTo' la_homes' la_talls' la_known' vf_deeds' va_kinds' va_firsts' va_seconds' sf_facts' sa_heard' sa_huts' sa_minutes' cf_voices' cf_step' ca_parts' ca_heights' h' s' (lD 8 true a b c td) (lH 8 a b fh) (lS 8 a fs) → post lf_huts' lf_singers' lf_villages' lf_dams' lf_echoes' lf_deep' lf_slide' la_heights' la_ladders' la_minutes' la_echoFrom' la_echoTo' la_homes' la_talls' la_known' vf_deeds' va_kinds' va_firsts' va_seconds' sf_facts' sa_heard' sa_huts' sa_minutes' cf_voices' cf_step' ca_parts' ca_heights' h' s') : q_wr_X4_tell_0 lf_huts lf_singers lf_villages lf_dams lf_echoes lf_deep lf_slide la_heights la_ladders la_minutes la_echoFrom la_echoTo la_homes la_talls la_known vf_deeds va_kinds va_firsts va_seconds sf_facts sa_heard sa_huts sa_minutes cf_voices cf_step ca_parts ca_heights nums h s (nI 8) post := by
  have ha : iv 0 8 a := iv_w (cW_iv c0) (by decide +kernel)
  have hb : iv 0 9 b := iv_w (cW_iv c1) (by decide +kernel)
  obtain ⟨b0, b1, b4⟩ := CB_n hC
  obtain ⟨hL, hh, hs⟩ := hD.1 rfl
  refine ⟨fun h9 => absurd h9 (by decide +kernel), fun _ => ?_⟩
  rw [c_0, c_1, c_2, n0, n1]
  refine ⟨fun h9 => absurd h9 (by decide +kernel), fun h9 => absurd h9 (by decide +kernel), fun h9 => absurd h9 (by decide +kernel), fun h9 => absurd h9 (by decide +kernel), fun h9 => absurd h9 (by decide +kernel), fun h9 => absurd h9 (by decide +kernel), fun h9 => absurd h9 (by decide +kernel), fun h9 => absurd h9 (by decide +kernel), fun h9 => absurd h9 (by decide +kernel), fun _ => ?_⟩
  obtain ⟨k, hk, -, hk9, -⟩ := iv_nI (hC.2 rfl).1 (by decide)
  have hne : ¬ td 1 = 6 := fun h9 => by
    have := of_decide_eq_false hf
    exact this (by simp [h9])
  have hk8 : k < 6 := Nat.lt_of_le_of_ne (by omega) (fun h9 => hne (by rw [hk, h9]; rfl))
  have e0 : lf_singers = nI k := hL.2.1.trans hk
  have hin : vp_in lf_singers 6 := by rw [e0]; exact vp_in_nI hk8 (by omega)
  refine ⟨hin, fun t1 e1 => ⟨hin, fun t2 e2 v e3 v2 e4 => ?_⟩⟩
  rw [e0, nI_clamp (by omega)] at e1 e2
  rw [e0, nI_1] at e3
  subst e1 e2 e3 e4
  refine hpo _ _ _ _ _ _ _ _ _ _ _ _ _ _ _ _ _ _ _ _ _ _ _ _ _ _ _ _ _ ?_
  have e : lD 8 true a b c td = upd (upd (upd td 1 (nI (k + 1))) (25 + k) a) (31 + k) b := by
    show (if td 1 = 6 then td else upd (upd (upd td 1 (td 1 + 1)) (Int32.toNatClampNeg (25 + td 1)) a) (Int32.toNatClampNeg (31 + td 1)) b) = _
    rw [if_neg hne, hk, nI_1, show (25 : Int32) = nI 25 from rfl, show (31 : Int32) = nI 31 from rfl, nI_add, nI_add, nI_clamp (by omega), nI_clamp (by omega)]
  rw [e]
  exact DR0 (LDR_sin a b hk hk8 hL b0 b1 b4) (HB_or hh ha) hs
set_option maxRecDepth 20000 in
theorem e_tell_9 {lf_huts lf_singers lf_villages lf_dams lf_echoes lf_deep lf_slide vf_deeds sf_facts cf_voices cf_step : Int32} {la_heights la_ladders la_minutes la_echoFrom la_echoTo la_homes la_talls la_known va_kinds va_firsts va_seconds sa_heard sa_huts sa_minutes ca_parts ca_heights : Nat → Int32} {nums td : Nat → Int32} {h s fh fs a b c : Int32} {post : (Int32) → (Int32) → (Int32) → (Int32) → (Int32) → (Int32) → (Int32) → (Nat → Int32) → (Nat → Int32) → (Nat → Int32) → (Nat → Int32) → (Nat → Int32) → (Nat → Int32) → (Nat → Int32) → (Nat → Int32) → (Int32) → (Nat → Int32) → (Nat → Int32) → (Nat → Int32) → (Int32) → (Nat → Int32) → (Nat → Int32) → (Nat → Int32) → (Int32) → (Int32) → (Nat → Int32) → (Nat → Int32) → Int32 → Int32 → Prop} (hC : CB 0 td) (hf : fu 9 td = false) (n0 : nums 0 = a) (c0 : cW 9 0 a a = true) (n1 : nums 1 = b) (c1 : cW 9 1 a b = true) (hD : DR 0 lf_huts lf_singers lf_villages lf_dams lf_echoes lf_deep lf_slide la_heights la_ladders la_minutes la_echoFrom la_echoTo la_homes la_talls la_known vf_deeds va_kinds va_firsts va_seconds sf_facts sa_heard sa_huts sa_minutes cf_voices cf_step ca_parts ca_heights h s td fh fs) (hpo : ∀ (lf_huts' : Int32) (lf_singers' : Int32) (lf_villages' : Int32) (lf_dams' : Int32) (lf_echoes' : Int32) (lf_deep' : Int32) (lf_slide' : Int32) (la_heights' : Nat → Int32) (la_ladders' : Nat → Int32) (la_minutes' : Nat → Int32) (la_echoFrom' : Nat → Int32) (la_echoTo' : Nat → Int32) (la_homes' : Nat → Int32) (la_talls' : Nat → Int32) (la_known' : Nat → Int32) (vf_deeds' : Int32) (va_kinds' : Nat → Int32) (va_firsts' : Nat → Int32) (va_seconds' : Nat → Int32) (sf_facts' : Int32) (sa_heard' : Nat → Int32) (sa_huts' : Nat → Int32) (sa_minutes' : Nat → Int32) (cf_voices' : Int32) (cf_step' : Int32) (ca_parts' : Nat → Int32) (ca_heights' : Nat → Int32) (h' s' : Int32), DR 0 lf_huts' lf_singers' lf_villages' lf_dams' lf_echoes' lf_deep' lf_slide' la_heights' la_ladders' la_minutes' la_echoFrom' la_echoTo' la_homes' la_talls' la_known' vf_deeds' va_kinds' va_firsts' va_seconds' sf_facts' sa_heard' sa_huts' sa_minutes' cf_voices' cf_step' ca_parts' ca_heights' h' s' (lD 9 true a b c td) (lH 9 a b fh) (lS 9 a fs) → post lf_huts' lf_singers' lf_villages' lf_dams' lf_echoes' lf_deep' lf_slide' la_heights' la_ladders' la_minutes' la_echoFrom' la_echoTo' la_homes' la_talls' la_known' vf_deeds' va_kinds' va_firsts' va_seconds' sf_facts' sa_heard' sa_huts' sa_minutes' cf_voices' cf_step' ca_parts' ca_heights' h' s') : q_wr_X4_tell_0 lf_huts lf_singers lf_villages lf_dams lf_echoes lf_deep lf_slide la_heights la_ladders la_minutes la_echoFrom la_echoTo la_homes la_talls la_known vf_deeds va_kinds va_firsts va_seconds sf_facts sa_heard sa_huts sa_minutes cf_voices cf_step ca_parts ca_heights nums h s (nI 9) post := by
  have ha : iv 0 5 a := iv_w (cW_iv c0) (by decide +kernel)
  have hb : iv 0 4 b := iv_w (cW_iv c1) (by decide +kernel)
  obtain ⟨b0, b1, b4⟩ := CB_n hC
  obtain ⟨hL, hh, hs⟩ := hD.1 rfl
  refine ⟨fun h9 => absurd h9 (by decide +kernel), fun _ => ?_⟩
  rw [c_0, c_1, c_2, n0, n1]
  refine ⟨fun _ => ?_, fun h9 => absurd h9 (by decide +kernel), fun h9 => absurd h9 (by decide +kernel), fun h9 => absurd h9 (by decide +kernel), fun h9 => absurd h9 (by decide +kernel), fun h9 => absurd h9 (by decide +kernel), fun h9 => absurd h9 (by decide +kernel), fun h9 => absurd h9 (by decide +kernel), fun h9 => absurd h9 (by decide +kernel), fun h9 => absurd h9 (by decide +kernel)⟩
  obtain ⟨p, ep, -, hp, -⟩ := iv_nI ha (by decide)
  have hin : vp_in a 6 := by rw [ep]; exact vp_in_nI (by omega) (by omega)
  refine ⟨hin, fun v e0 => ⟨hin, fun t1 e1 v2 e2 => ?_⟩⟩
  rw [ep, nI_clamp (by omega)] at e0 e1
  subst e1 e2
  refine hpo _ _ _ _ _ _ _ _ _ _ _ _ _ _ _ _ _ _ _ _ _ _ _ _ _ _ _ _ _ ?_
  have e : lD 9 true a b c td = upd td (37 + p) v := by
    show upd td (Int32.toNatClampNeg (37 + a)) (td (Int32.toNatClampNeg (37 + a)) ||| 1 <<< (b &&& 31)) = _
    rw [ep, show (37 : Int32) = nI 37 from rfl, nI_add, nI_clamp (by omega), e0, hL.2.2.2.2.2.2.2.2.2.2.2.2 p (by omega)]
  rw [e]
  exact DR0 (LDR_kno v (show p < 6 by omega) hL b0 b1 b4) hh (HB_or hs (iv_w ha (by decide)))
set_option maxRecDepth 20000 in
theorem e_tell_10 {lf_huts lf_singers lf_villages lf_dams lf_echoes lf_deep lf_slide vf_deeds sf_facts cf_voices cf_step : Int32} {la_heights la_ladders la_minutes la_echoFrom la_echoTo la_homes la_talls la_known va_kinds va_firsts va_seconds sa_heard sa_huts sa_minutes ca_parts ca_heights : Nat → Int32} {nums td : Nat → Int32} {h s fh fs a b c : Int32} {post : (Int32) → (Int32) → (Int32) → (Int32) → (Int32) → (Int32) → (Int32) → (Nat → Int32) → (Nat → Int32) → (Nat → Int32) → (Nat → Int32) → (Nat → Int32) → (Nat → Int32) → (Nat → Int32) → (Nat → Int32) → (Int32) → (Nat → Int32) → (Nat → Int32) → (Nat → Int32) → (Int32) → (Nat → Int32) → (Nat → Int32) → (Nat → Int32) → (Int32) → (Int32) → (Nat → Int32) → (Nat → Int32) → Int32 → Int32 → Prop} (hC : CB 1 td) (hf : fu 10 td = false) (n0 : nums 0 = a) (c0 : cW 10 0 a a = true) (n1 : nums 1 = b) (c1 : cW 10 1 a b = true) (hD : DR 1 lf_huts lf_singers lf_villages lf_dams lf_echoes lf_deep lf_slide la_heights la_ladders la_minutes la_echoFrom la_echoTo la_homes la_talls la_known vf_deeds va_kinds va_firsts va_seconds sf_facts sa_heard sa_huts sa_minutes cf_voices cf_step ca_parts ca_heights h s td fh fs) (hpo : ∀ (lf_huts' : Int32) (lf_singers' : Int32) (lf_villages' : Int32) (lf_dams' : Int32) (lf_echoes' : Int32) (lf_deep' : Int32) (lf_slide' : Int32) (la_heights' : Nat → Int32) (la_ladders' : Nat → Int32) (la_minutes' : Nat → Int32) (la_echoFrom' : Nat → Int32) (la_echoTo' : Nat → Int32) (la_homes' : Nat → Int32) (la_talls' : Nat → Int32) (la_known' : Nat → Int32) (vf_deeds' : Int32) (va_kinds' : Nat → Int32) (va_firsts' : Nat → Int32) (va_seconds' : Nat → Int32) (sf_facts' : Int32) (sa_heard' : Nat → Int32) (sa_huts' : Nat → Int32) (sa_minutes' : Nat → Int32) (cf_voices' : Int32) (cf_step' : Int32) (ca_parts' : Nat → Int32) (ca_heights' : Nat → Int32) (h' s' : Int32), DR 1 lf_huts' lf_singers' lf_villages' lf_dams' lf_echoes' lf_deep' lf_slide' la_heights' la_ladders' la_minutes' la_echoFrom' la_echoTo' la_homes' la_talls' la_known' vf_deeds' va_kinds' va_firsts' va_seconds' sf_facts' sa_heard' sa_huts' sa_minutes' cf_voices' cf_step' ca_parts' ca_heights' h' s' (lD 10 true a b c td) (lH 10 a b fh) (lS 10 a fs) → post lf_huts' lf_singers' lf_villages' lf_dams' lf_echoes' lf_deep' lf_slide' la_heights' la_ladders' la_minutes' la_echoFrom' la_echoTo' la_homes' la_talls' la_known' vf_deeds' va_kinds' va_firsts' va_seconds' sf_facts' sa_heard' sa_huts' sa_minutes' cf_voices' cf_step' ca_parts' ca_heights' h' s') : q_wr_X4_tell_0 lf_huts lf_singers lf_villages lf_dams lf_echoes lf_deep lf_slide la_heights la_ladders la_minutes la_echoFrom la_echoTo la_homes la_talls la_known vf_deeds va_kinds va_firsts va_seconds sf_facts sa_heard sa_huts sa_minutes cf_voices cf_step ca_parts ca_heights nums h s (nI 10) post := by
  have hL := hD.2.1 rfl
  obtain ⟨k, hk, -, hk9, -⟩ := iv_nI hC.1 (by decide)
  have hne : ¬ td 0 = 40 := fun h9 => by
    have := of_decide_eq_false hf
    exact this (by simp [h9])
  have hk8 : k < 40 := Nat.lt_of_le_of_ne (by omega) (fun h9 => hne (by rw [hk, h9]; rfl))
  have e0 : vf_deeds = nI k := hL.1.trans hk
  have hin : vp_in vf_deeds 40 := by rw [e0]; exact vp_in_nI hk8 (by omega)
  refine ⟨fun _ => ⟨fun h9 => absurd h9 (by decide +kernel), fun _ => ⟨vp_in_nI (by decide) (by decide), ?_⟩⟩, fun h9 => absurd h9 (by decide +kernel)⟩
  rw [c_0, c_1, n0, n1]
  refine ⟨fun h9 => absurd h9 (by decide +kernel), fun _ => ?_⟩
  refine ⟨fun h9 => absurd h9 (by rw [e0]; exact nI_ge (b := 40) hk8 (by omega)), fun _ => ⟨hin, fun t1 e1 => ⟨hin, fun t2 e2 => ⟨hin, fun t3 e3 v e4 => ?_⟩⟩⟩⟩
  rw [e0, nI_clamp (by omega)] at e1 e2 e3
  rw [e0, nI_1] at e4
  subst e1 e2 e3 e4
  refine hpo _ _ _ _ _ _ _ _ _ _ _ _ _ _ _ _ _ _ _ _ _ _ _ _ _ _ _ _ _ ?_
  have e : lD 10 true a b c td = upd (upd (upd (upd td 0 (nI (k + 1))) (1 + 3 * k) (nI 10 - 10)) (2 + 3 * k) a) (3 + 3 * k) b := by
    show (if td 0 = 40 then td else upd (upd (upd (upd td 0 (td 0 + 1)) (Int32.toNatClampNeg ((1 + 3 * td 0) + 0)) (nI (10 - 10))) (Int32.toNatClampNeg ((1 + 3 * td 0) + 1)) a) (Int32.toNatClampNeg ((1 + 3 * td 0) + 2)) b) = _
    have q0 : Int32.toNatClampNeg ((1 + 3 * td 0) + 0) = 1 + 3 * k := by rw [hk, show (1 : Int32) = nI 1 from rfl, show (3 : Int32) = nI 3 from rfl, show (0 : Int32) = nI 0 from rfl, jx2, nI_clamp (by omega)]; omega
    have q1 : Int32.toNatClampNeg ((1 + 3 * td 0) + 1) = 2 + 3 * k := by rw [hk, show (1 : Int32) = nI 1 from rfl, show (3 : Int32) = nI 3 from rfl, jx2, nI_clamp (by omega)]; omega
    have q2 : Int32.toNatClampNeg ((1 + 3 * td 0) + 2) = 3 + 3 * k := by rw [hk, show (1 : Int32) = nI 1 from rfl, show (3 : Int32) = nI 3 from rfl, show (2 : Int32) = nI 2 from rfl, jx2, nI_clamp (by omega)]; omega
    rw [if_neg hne, q0, q1, q2, hk, nI_1]
    rfl
  rw [e]
  exact DR1 (R3_add _ _ _ hL hk (by omega))
set_option maxRecDepth 20000 in
theorem e_tell_11 {lf_huts lf_singers lf_villages lf_dams lf_echoes lf_deep lf_slide vf_deeds sf_facts cf_voices cf_step : Int32} {la_heights la_ladders la_minutes la_echoFrom la_echoTo la_homes la_talls la_known va_kinds va_firsts va_seconds sa_heard sa_huts sa_minutes ca_parts ca_heights : Nat → Int32} {nums td : Nat → Int32} {h s fh fs a b c : Int32} {post : (Int32) → (Int32) → (Int32) → (Int32) → (Int32) → (Int32) → (Int32) → (Nat → Int32) → (Nat → Int32) → (Nat → Int32) → (Nat → Int32) → (Nat → Int32) → (Nat → Int32) → (Nat → Int32) → (Nat → Int32) → (Int32) → (Nat → Int32) → (Nat → Int32) → (Nat → Int32) → (Int32) → (Nat → Int32) → (Nat → Int32) → (Nat → Int32) → (Int32) → (Int32) → (Nat → Int32) → (Nat → Int32) → Int32 → Int32 → Prop} (hC : CB 1 td) (hf : fu 11 td = false) (n0 : nums 0 = a) (c0 : cW 11 0 a a = true) (n1 : nums 1 = b) (c1 : cW 11 1 a b = true) (hD : DR 1 lf_huts lf_singers lf_villages lf_dams lf_echoes lf_deep lf_slide la_heights la_ladders la_minutes la_echoFrom la_echoTo la_homes la_talls la_known vf_deeds va_kinds va_firsts va_seconds sf_facts sa_heard sa_huts sa_minutes cf_voices cf_step ca_parts ca_heights h s td fh fs) (hpo : ∀ (lf_huts' : Int32) (lf_singers' : Int32) (lf_villages' : Int32) (lf_dams' : Int32) (lf_echoes' : Int32) (lf_deep' : Int32) (lf_slide' : Int32) (la_heights' : Nat → Int32) (la_ladders' : Nat → Int32) (la_minutes' : Nat → Int32) (la_echoFrom' : Nat → Int32) (la_echoTo' : Nat → Int32) (la_homes' : Nat → Int32) (la_talls' : Nat → Int32) (la_known' : Nat → Int32) (vf_deeds' : Int32) (va_kinds' : Nat → Int32) (va_firsts' : Nat → Int32) (va_seconds' : Nat → Int32) (sf_facts' : Int32) (sa_heard' : Nat → Int32) (sa_huts' : Nat → Int32) (sa_minutes' : Nat → Int32) (cf_voices' : Int32) (cf_step' : Int32) (ca_parts' : Nat → Int32) (ca_heights' : Nat → Int32) (h' s' : Int32), DR 1 lf_huts' lf_singers' lf_villages' lf_dams' lf_echoes' lf_deep' lf_slide' la_heights' la_ladders' la_minutes' la_echoFrom' la_echoTo' la_homes' la_talls' la_known' vf_deeds' va_kinds' va_firsts' va_seconds' sf_facts' sa_heard' sa_huts' sa_minutes' cf_voices' cf_step' ca_parts' ca_heights' h' s' (lD 11 true a b c td) (lH 11 a b fh) (lS 11 a fs) → post lf_huts' lf_singers' lf_villages' lf_dams' lf_echoes' lf_deep' lf_slide' la_heights' la_ladders' la_minutes' la_echoFrom' la_echoTo' la_homes' la_talls' la_known' vf_deeds' va_kinds' va_firsts' va_seconds' sf_facts' sa_heard' sa_huts' sa_minutes' cf_voices' cf_step' ca_parts' ca_heights' h' s') : q_wr_X4_tell_0 lf_huts lf_singers lf_villages lf_dams lf_echoes lf_deep lf_slide la_heights la_ladders la_minutes la_echoFrom la_echoTo la_homes la_talls la_known vf_deeds va_kinds va_firsts va_seconds sf_facts sa_heard sa_huts sa_minutes cf_voices cf_step ca_parts ca_heights nums h s (nI 11) post := by
  have hL := hD.2.1 rfl
  obtain ⟨k, hk, -, hk9, -⟩ := iv_nI hC.1 (by decide)
  have hne : ¬ td 0 = 40 := fun h9 => by
    have := of_decide_eq_false hf
    exact this (by simp [h9])
  have hk8 : k < 40 := Nat.lt_of_le_of_ne (by omega) (fun h9 => hne (by rw [hk, h9]; rfl))
  have e0 : vf_deeds = nI k := hL.1.trans hk
  have hin : vp_in vf_deeds 40 := by rw [e0]; exact vp_in_nI hk8 (by omega)
  refine ⟨fun _ => ⟨fun h9 => absurd h9 (by decide +kernel), fun _ => ⟨vp_in_nI (by decide) (by decide), ?_⟩⟩, fun h9 => absurd h9 (by decide +kernel)⟩
  rw [c_0, c_1, n0, n1]
  refine ⟨fun h9 => absurd h9 (by decide +kernel), fun _ => ?_⟩
  refine ⟨fun h9 => absurd h9 (by rw [e0]; exact nI_ge (b := 40) hk8 (by omega)), fun _ => ⟨hin, fun t1 e1 => ⟨hin, fun t2 e2 => ⟨hin, fun t3 e3 v e4 => ?_⟩⟩⟩⟩
  rw [e0, nI_clamp (by omega)] at e1 e2 e3
  rw [e0, nI_1] at e4
  subst e1 e2 e3 e4
  refine hpo _ _ _ _ _ _ _ _ _ _ _ _ _ _ _ _ _ _ _ _ _ _ _ _ _ _ _ _ _ ?_
  have e : lD 11 true a b c td = upd (upd (upd (upd td 0 (nI (k + 1))) (1 + 3 * k) (nI 11 - 10)) (2 + 3 * k) a) (3 + 3 * k) b := by
    show (if td 0 = 40 then td else upd (upd (upd (upd td 0 (td 0 + 1)) (Int32.toNatClampNeg ((1 + 3 * td 0) + 0)) (nI (11 - 10))) (Int32.toNatClampNeg ((1 + 3 * td 0) + 1)) a) (Int32.toNatClampNeg ((1 + 3 * td 0) + 2)) b) = _
    have q0 : Int32.toNatClampNeg ((1 + 3 * td 0) + 0) = 1 + 3 * k := by rw [hk, show (1 : Int32) = nI 1 from rfl, show (3 : Int32) = nI 3 from rfl, show (0 : Int32) = nI 0 from rfl, jx2, nI_clamp (by omega)]; omega
    have q1 : Int32.toNatClampNeg ((1 + 3 * td 0) + 1) = 2 + 3 * k := by rw [hk, show (1 : Int32) = nI 1 from rfl, show (3 : Int32) = nI 3 from rfl, jx2, nI_clamp (by omega)]; omega
    have q2 : Int32.toNatClampNeg ((1 + 3 * td 0) + 2) = 3 + 3 * k := by rw [hk, show (1 : Int32) = nI 1 from rfl, show (3 : Int32) = nI 3 from rfl, show (2 : Int32) = nI 2 from rfl, jx2, nI_clamp (by omega)]; omega
    rw [if_neg hne, q0, q1, q2, hk, nI_1]
    rfl
  rw [e]
  exact DR1 (R3_add _ _ _ hL hk (by omega))
set_option maxRecDepth 20000 in
theorem e_tell_12 {lf_huts lf_singers lf_villages lf_dams lf_echoes lf_deep lf_slide vf_deeds sf_facts cf_voices cf_step : Int32} {la_heights la_ladders la_minutes la_echoFrom la_echoTo la_homes la_talls la_known va_kinds va_firsts va_seconds sa_heard sa_huts sa_minutes ca_parts ca_heights : Nat → Int32} {nums td : Nat → Int32} {h s fh fs a b c : Int32} {post : (Int32) → (Int32) → (Int32) → (Int32) → (Int32) → (Int32) → (Int32) → (Nat → Int32) → (Nat → Int32) → (Nat → Int32) → (Nat → Int32) → (Nat → Int32) → (Nat → Int32) → (Nat → Int32) → (Nat → Int32) → (Int32) → (Nat → Int32) → (Nat → Int32) → (Nat → Int32) → (Int32) → (Nat → Int32) → (Nat → Int32) → (Nat → Int32) → (Int32) → (Int32) → (Nat → Int32) → (Nat → Int32) → Int32 → Int32 → Prop} (hC : CB 1 td) (hf : fu 12 td = false) (n0 : nums 0 = a) (c0 : cW 12 0 a a = true) (n1 : nums 1 = b) (c1 : cW 12 1 a b = true) (hD : DR 1 lf_huts lf_singers lf_villages lf_dams lf_echoes lf_deep lf_slide la_heights la_ladders la_minutes la_echoFrom la_echoTo la_homes la_talls la_known vf_deeds va_kinds va_firsts va_seconds sf_facts sa_heard sa_huts sa_minutes cf_voices cf_step ca_parts ca_heights h s td fh fs) (hpo : ∀ (lf_huts' : Int32) (lf_singers' : Int32) (lf_villages' : Int32) (lf_dams' : Int32) (lf_echoes' : Int32) (lf_deep' : Int32) (lf_slide' : Int32) (la_heights' : Nat → Int32) (la_ladders' : Nat → Int32) (la_minutes' : Nat → Int32) (la_echoFrom' : Nat → Int32) (la_echoTo' : Nat → Int32) (la_homes' : Nat → Int32) (la_talls' : Nat → Int32) (la_known' : Nat → Int32) (vf_deeds' : Int32) (va_kinds' : Nat → Int32) (va_firsts' : Nat → Int32) (va_seconds' : Nat → Int32) (sf_facts' : Int32) (sa_heard' : Nat → Int32) (sa_huts' : Nat → Int32) (sa_minutes' : Nat → Int32) (cf_voices' : Int32) (cf_step' : Int32) (ca_parts' : Nat → Int32) (ca_heights' : Nat → Int32) (h' s' : Int32), DR 1 lf_huts' lf_singers' lf_villages' lf_dams' lf_echoes' lf_deep' lf_slide' la_heights' la_ladders' la_minutes' la_echoFrom' la_echoTo' la_homes' la_talls' la_known' vf_deeds' va_kinds' va_firsts' va_seconds' sf_facts' sa_heard' sa_huts' sa_minutes' cf_voices' cf_step' ca_parts' ca_heights' h' s' (lD 12 true a b c td) (lH 12 a b fh) (lS 12 a fs) → post lf_huts' lf_singers' lf_villages' lf_dams' lf_echoes' lf_deep' lf_slide' la_heights' la_ladders' la_minutes' la_echoFrom' la_echoTo' la_homes' la_talls' la_known' vf_deeds' va_kinds' va_firsts' va_seconds' sf_facts' sa_heard' sa_huts' sa_minutes' cf_voices' cf_step' ca_parts' ca_heights' h' s') : q_wr_X4_tell_0 lf_huts lf_singers lf_villages lf_dams lf_echoes lf_deep lf_slide la_heights la_ladders la_minutes la_echoFrom la_echoTo la_homes la_talls la_known vf_deeds va_kinds va_firsts va_seconds sf_facts sa_heard sa_huts sa_minutes cf_voices cf_step ca_parts ca_heights nums h s (nI 12) post := by
  have hL := hD.2.1 rfl
  obtain ⟨k, hk, -, hk9, -⟩ := iv_nI hC.1 (by decide)
  have hne : ¬ td 0 = 40 := fun h9 => by
    have := of_decide_eq_false hf
    exact this (by simp [h9])
  have hk8 : k < 40 := Nat.lt_of_le_of_ne (by omega) (fun h9 => hne (by rw [hk, h9]; rfl))
  have e0 : vf_deeds = nI k := hL.1.trans hk
  have hin : vp_in vf_deeds 40 := by rw [e0]; exact vp_in_nI hk8 (by omega)
  refine ⟨fun _ => ⟨fun h9 => absurd h9 (by decide +kernel), fun _ => ⟨vp_in_nI (by decide) (by decide), ?_⟩⟩, fun h9 => absurd h9 (by decide +kernel)⟩
  rw [c_0, c_1, n0, n1]
  refine ⟨fun h9 => absurd h9 (by decide +kernel), fun _ => ?_⟩
  refine ⟨fun h9 => absurd h9 (by rw [e0]; exact nI_ge (b := 40) hk8 (by omega)), fun _ => ⟨hin, fun t1 e1 => ⟨hin, fun t2 e2 => ⟨hin, fun t3 e3 v e4 => ?_⟩⟩⟩⟩
  rw [e0, nI_clamp (by omega)] at e1 e2 e3
  rw [e0, nI_1] at e4
  subst e1 e2 e3 e4
  refine hpo _ _ _ _ _ _ _ _ _ _ _ _ _ _ _ _ _ _ _ _ _ _ _ _ _ _ _ _ _ ?_
  have e : lD 12 true a b c td = upd (upd (upd (upd td 0 (nI (k + 1))) (1 + 3 * k) (nI 12 - 10)) (2 + 3 * k) a) (3 + 3 * k) b := by
    show (if td 0 = 40 then td else upd (upd (upd (upd td 0 (td 0 + 1)) (Int32.toNatClampNeg ((1 + 3 * td 0) + 0)) (nI (12 - 10))) (Int32.toNatClampNeg ((1 + 3 * td 0) + 1)) a) (Int32.toNatClampNeg ((1 + 3 * td 0) + 2)) b) = _
    have q0 : Int32.toNatClampNeg ((1 + 3 * td 0) + 0) = 1 + 3 * k := by rw [hk, show (1 : Int32) = nI 1 from rfl, show (3 : Int32) = nI 3 from rfl, show (0 : Int32) = nI 0 from rfl, jx2, nI_clamp (by omega)]; omega
    have q1 : Int32.toNatClampNeg ((1 + 3 * td 0) + 1) = 2 + 3 * k := by rw [hk, show (1 : Int32) = nI 1 from rfl, show (3 : Int32) = nI 3 from rfl, jx2, nI_clamp (by omega)]; omega
    have q2 : Int32.toNatClampNeg ((1 + 3 * td 0) + 2) = 3 + 3 * k := by rw [hk, show (1 : Int32) = nI 1 from rfl, show (3 : Int32) = nI 3 from rfl, show (2 : Int32) = nI 2 from rfl, jx2, nI_clamp (by omega)]; omega
    rw [if_neg hne, q0, q1, q2, hk, nI_1]
    rfl
  rw [e]
  exact DR1 (R3_add _ _ _ hL hk (by omega))
set_option maxRecDepth 20000 in
theorem e_tell_13 {lf_huts lf_singers lf_villages lf_dams lf_echoes lf_deep lf_slide vf_deeds sf_facts cf_voices cf_step : Int32} {la_heights la_ladders la_minutes la_echoFrom la_echoTo la_homes la_talls la_known va_kinds va_firsts va_seconds sa_heard sa_huts sa_minutes ca_parts ca_heights : Nat → Int32} {nums td : Nat → Int32} {h s fh fs a b c : Int32} {post : (Int32) → (Int32) → (Int32) → (Int32) → (Int32) → (Int32) → (Int32) → (Nat → Int32) → (Nat → Int32) → (Nat → Int32) → (Nat → Int32) → (Nat → Int32) → (Nat → Int32) → (Nat → Int32) → (Nat → Int32) → (Int32) → (Nat → Int32) → (Nat → Int32) → (Nat → Int32) → (Int32) → (Nat → Int32) → (Nat → Int32) → (Nat → Int32) → (Int32) → (Int32) → (Nat → Int32) → (Nat → Int32) → Int32 → Int32 → Prop} (hC : CB 1 td) (hf : fu 13 td = false) (n0 : nums 0 = a) (c0 : cW 13 0 a a = true) (n1 : nums 1 = b) (c1 : cW 13 1 a b = true) (hD : DR 1 lf_huts lf_singers lf_villages lf_dams lf_echoes lf_deep lf_slide la_heights la_ladders la_minutes la_echoFrom la_echoTo la_homes la_talls la_known vf_deeds va_kinds va_firsts va_seconds sf_facts sa_heard sa_huts sa_minutes cf_voices cf_step ca_parts ca_heights h s td fh fs) (hpo : ∀ (lf_huts' : Int32) (lf_singers' : Int32) (lf_villages' : Int32) (lf_dams' : Int32) (lf_echoes' : Int32) (lf_deep' : Int32) (lf_slide' : Int32) (la_heights' : Nat → Int32) (la_ladders' : Nat → Int32) (la_minutes' : Nat → Int32) (la_echoFrom' : Nat → Int32) (la_echoTo' : Nat → Int32) (la_homes' : Nat → Int32) (la_talls' : Nat → Int32) (la_known' : Nat → Int32) (vf_deeds' : Int32) (va_kinds' : Nat → Int32) (va_firsts' : Nat → Int32) (va_seconds' : Nat → Int32) (sf_facts' : Int32) (sa_heard' : Nat → Int32) (sa_huts' : Nat → Int32) (sa_minutes' : Nat → Int32) (cf_voices' : Int32) (cf_step' : Int32) (ca_parts' : Nat → Int32) (ca_heights' : Nat → Int32) (h' s' : Int32), DR 1 lf_huts' lf_singers' lf_villages' lf_dams' lf_echoes' lf_deep' lf_slide' la_heights' la_ladders' la_minutes' la_echoFrom' la_echoTo' la_homes' la_talls' la_known' vf_deeds' va_kinds' va_firsts' va_seconds' sf_facts' sa_heard' sa_huts' sa_minutes' cf_voices' cf_step' ca_parts' ca_heights' h' s' (lD 13 true a b c td) (lH 13 a b fh) (lS 13 a fs) → post lf_huts' lf_singers' lf_villages' lf_dams' lf_echoes' lf_deep' lf_slide' la_heights' la_ladders' la_minutes' la_echoFrom' la_echoTo' la_homes' la_talls' la_known' vf_deeds' va_kinds' va_firsts' va_seconds' sf_facts' sa_heard' sa_huts' sa_minutes' cf_voices' cf_step' ca_parts' ca_heights' h' s') : q_wr_X4_tell_0 lf_huts lf_singers lf_villages lf_dams lf_echoes lf_deep lf_slide la_heights la_ladders la_minutes la_echoFrom la_echoTo la_homes la_talls la_known vf_deeds va_kinds va_firsts va_seconds sf_facts sa_heard sa_huts sa_minutes cf_voices cf_step ca_parts ca_heights nums h s (nI 13) post := by
  have hL := hD.2.1 rfl
  obtain ⟨k, hk, -, hk9, -⟩ := iv_nI hC.1 (by decide)
  have hne : ¬ td 0 = 40 := fun h9 => by
    have := of_decide_eq_false hf
    exact this (by simp [h9])
  have hk8 : k < 40 := Nat.lt_of_le_of_ne (by omega) (fun h9 => hne (by rw [hk, h9]; rfl))
  have e0 : vf_deeds = nI k := hL.1.trans hk
  have hin : vp_in vf_deeds 40 := by rw [e0]; exact vp_in_nI hk8 (by omega)
  refine ⟨fun _ => ⟨fun h9 => absurd h9 (by decide +kernel), fun _ => ⟨vp_in_nI (by decide) (by decide), ?_⟩⟩, fun h9 => absurd h9 (by decide +kernel)⟩
  rw [c_0, c_1, n0, n1]
  refine ⟨fun h9 => absurd h9 (by decide +kernel), fun _ => ?_⟩
  refine ⟨fun h9 => absurd h9 (by rw [e0]; exact nI_ge (b := 40) hk8 (by omega)), fun _ => ⟨hin, fun t1 e1 => ⟨hin, fun t2 e2 => ⟨hin, fun t3 e3 v e4 => ?_⟩⟩⟩⟩
  rw [e0, nI_clamp (by omega)] at e1 e2 e3
  rw [e0, nI_1] at e4
  subst e1 e2 e3 e4
  refine hpo _ _ _ _ _ _ _ _ _ _ _ _ _ _ _ _ _ _ _ _ _ _ _ _ _ _ _ _ _ ?_
  have e : lD 13 true a b c td = upd (upd (upd (upd td 0 (nI (k + 1))) (1 + 3 * k) (nI 13 - 10)) (2 + 3 * k) a) (3 + 3 * k) b := by
    show (if td 0 = 40 then td else upd (upd (upd (upd td 0 (td 0 + 1)) (Int32.toNatClampNeg ((1 + 3 * td 0) + 0)) (nI (13 - 10))) (Int32.toNatClampNeg ((1 + 3 * td 0) + 1)) a) (Int32.toNatClampNeg ((1 + 3 * td 0) + 2)) b) = _
    have q0 : Int32.toNatClampNeg ((1 + 3 * td 0) + 0) = 1 + 3 * k := by rw [hk, show (1 : Int32) = nI 1 from rfl, show (3 : Int32) = nI 3 from rfl, show (0 : Int32) = nI 0 from rfl, jx2, nI_clamp (by omega)]; omega
    have q1 : Int32.toNatClampNeg ((1 + 3 * td 0) + 1) = 2 + 3 * k := by rw [hk, show (1 : Int32) = nI 1 from rfl, show (3 : Int32) = nI 3 from rfl, jx2, nI_clamp (by omega)]; omega
    have q2 : Int32.toNatClampNeg ((1 + 3 * td 0) + 2) = 3 + 3 * k := by rw [hk, show (1 : Int32) = nI 1 from rfl, show (3 : Int32) = nI 3 from rfl, show (2 : Int32) = nI 2 from rfl, jx2, nI_clamp (by omega)]; omega
    rw [if_neg hne, q0, q1, q2, hk, nI_1]
    rfl
  rw [e]
  exact DR1 (R3_add _ _ _ hL hk (by omega))
set_option maxRecDepth 20000 in
theorem e_tell_14 {lf_huts lf_singers lf_villages lf_dams lf_echoes lf_deep lf_slide vf_deeds sf_facts cf_voices cf_step : Int32} {la_heights la_ladders la_minutes la_echoFrom la_echoTo la_homes la_talls la_known va_kinds va_firsts va_seconds sa_heard sa_huts sa_minutes ca_parts ca_heights : Nat → Int32} {nums td : Nat → Int32} {h s fh fs a b c : Int32} {post : (Int32) → (Int32) → (Int32) → (Int32) → (Int32) → (Int32) → (Int32) → (Nat → Int32) → (Nat → Int32) → (Nat → Int32) → (Nat → Int32) → (Nat → Int32) → (Nat → Int32) → (Nat → Int32) → (Nat → Int32) → (Int32) → (Nat → Int32) → (Nat → Int32) → (Nat → Int32) → (Int32) → (Nat → Int32) → (Nat → Int32) → (Nat → Int32) → (Int32) → (Int32) → (Nat → Int32) → (Nat → Int32) → Int32 → Int32 → Prop} (hC : CB 1 td) (hf : fu 14 td = false) (n0 : nums 0 = a) (c0 : cW 14 0 a a = true) (hD : DR 1 lf_huts lf_singers lf_villages lf_dams lf_echoes lf_deep lf_slide la_heights la_ladders la_minutes la_echoFrom la_echoTo la_homes la_talls la_known vf_deeds va_kinds va_firsts va_seconds sf_facts sa_heard sa_huts sa_minutes cf_voices cf_step ca_parts ca_heights h s td fh fs) (hpo : ∀ (lf_huts' : Int32) (lf_singers' : Int32) (lf_villages' : Int32) (lf_dams' : Int32) (lf_echoes' : Int32) (lf_deep' : Int32) (lf_slide' : Int32) (la_heights' : Nat → Int32) (la_ladders' : Nat → Int32) (la_minutes' : Nat → Int32) (la_echoFrom' : Nat → Int32) (la_echoTo' : Nat → Int32) (la_homes' : Nat → Int32) (la_talls' : Nat → Int32) (la_known' : Nat → Int32) (vf_deeds' : Int32) (va_kinds' : Nat → Int32) (va_firsts' : Nat → Int32) (va_seconds' : Nat → Int32) (sf_facts' : Int32) (sa_heard' : Nat → Int32) (sa_huts' : Nat → Int32) (sa_minutes' : Nat → Int32) (cf_voices' : Int32) (cf_step' : Int32) (ca_parts' : Nat → Int32) (ca_heights' : Nat → Int32) (h' s' : Int32), DR 1 lf_huts' lf_singers' lf_villages' lf_dams' lf_echoes' lf_deep' lf_slide' la_heights' la_ladders' la_minutes' la_echoFrom' la_echoTo' la_homes' la_talls' la_known' vf_deeds' va_kinds' va_firsts' va_seconds' sf_facts' sa_heard' sa_huts' sa_minutes' cf_voices' cf_step' ca_parts' ca_heights' h' s' (lD 14 true a b c td) (lH 14 a b fh) (lS 14 a fs) → post lf_huts' lf_singers' lf_villages' lf_dams' lf_echoes' lf_deep' lf_slide' la_heights' la_ladders' la_minutes' la_echoFrom' la_echoTo' la_homes' la_talls' la_known' vf_deeds' va_kinds' va_firsts' va_seconds' sf_facts' sa_heard' sa_huts' sa_minutes' cf_voices' cf_step' ca_parts' ca_heights' h' s') : q_wr_X4_tell_0 lf_huts lf_singers lf_villages lf_dams lf_echoes lf_deep lf_slide la_heights la_ladders la_minutes la_echoFrom la_echoTo la_homes la_talls la_known vf_deeds va_kinds va_firsts va_seconds sf_facts sa_heard sa_huts sa_minutes cf_voices cf_step ca_parts ca_heights nums h s (nI 14) post := by
  have hL := hD.2.1 rfl
  obtain ⟨k, hk, -, hk9, -⟩ := iv_nI hC.1 (by decide)
  have hne : ¬ td 0 = 40 := fun h9 => by
    have := of_decide_eq_false hf
    exact this (by simp [h9])
  have hk8 : k < 40 := Nat.lt_of_le_of_ne (by omega) (fun h9 => hne (by rw [hk, h9]; rfl))
  have e0 : vf_deeds = nI k := hL.1.trans hk
  have hin : vp_in vf_deeds 40 := by rw [e0]; exact vp_in_nI hk8 (by omega)
  refine ⟨fun _ => ⟨fun h9 => absurd h9 (by decide +kernel), fun _ => ⟨vp_in_nI (by decide) (by decide), ?_⟩⟩, fun h9 => absurd h9 (by decide +kernel)⟩
  rw [c_0, n0]
  refine ⟨fun _ => ?_, fun h9 => absurd h9 (by decide +kernel)⟩
  refine ⟨fun h9 => absurd h9 (by rw [e0]; exact nI_ge (b := 40) hk8 (by omega)), fun _ => ⟨hin, fun t1 e1 => ⟨hin, fun t2 e2 => ⟨hin, fun t3 e3 v e4 => ?_⟩⟩⟩⟩
  rw [e0, nI_clamp (by omega)] at e1 e2 e3
  rw [e0, nI_1] at e4
  subst e1 e2 e3 e4
  refine hpo _ _ _ _ _ _ _ _ _ _ _ _ _ _ _ _ _ _ _ _ _ _ _ _ _ _ _ _ _ ?_
  have e : lD 14 true a b c td = upd (upd (upd (upd td 0 (nI (k + 1))) (1 + 3 * k) (nI 14 - 10)) (2 + 3 * k) a) (3 + 3 * k) (-1) := by
    show (if td 0 = 40 then td else upd (upd (upd (upd td 0 (td 0 + 1)) (Int32.toNatClampNeg ((1 + 3 * td 0) + 0)) (nI (14 - 10))) (Int32.toNatClampNeg ((1 + 3 * td 0) + 1)) a) (Int32.toNatClampNeg ((1 + 3 * td 0) + 2)) (-1)) = _
    have q0 : Int32.toNatClampNeg ((1 + 3 * td 0) + 0) = 1 + 3 * k := by rw [hk, show (1 : Int32) = nI 1 from rfl, show (3 : Int32) = nI 3 from rfl, show (0 : Int32) = nI 0 from rfl, jx2, nI_clamp (by omega)]; omega
    have q1 : Int32.toNatClampNeg ((1 + 3 * td 0) + 1) = 2 + 3 * k := by rw [hk, show (1 : Int32) = nI 1 from rfl, show (3 : Int32) = nI 3 from rfl, jx2, nI_clamp (by omega)]; omega
    have q2 : Int32.toNatClampNeg ((1 + 3 * td 0) + 2) = 3 + 3 * k := by rw [hk, show (1 : Int32) = nI 1 from rfl, show (3 : Int32) = nI 3 from rfl, show (2 : Int32) = nI 2 from rfl, jx2, nI_clamp (by omega)]; omega
    rw [if_neg hne, q0, q1, q2, hk, nI_1]
    rfl
  rw [e]
  exact DR1 (R3_add _ _ _ hL hk (by omega))
set_option maxRecDepth 20000 in
theorem e_tell_15 {lf_huts lf_singers lf_villages lf_dams lf_echoes lf_deep lf_slide vf_deeds sf_facts cf_voices cf_step : Int32} {la_heights la_ladders la_minutes la_echoFrom la_echoTo la_homes la_talls la_known va_kinds va_firsts va_seconds sa_heard sa_huts sa_minutes ca_parts ca_heights : Nat → Int32} {nums td : Nat → Int32} {h s fh fs a b c : Int32} {post : (Int32) → (Int32) → (Int32) → (Int32) → (Int32) → (Int32) → (Int32) → (Nat → Int32) → (Nat → Int32) → (Nat → Int32) → (Nat → Int32) → (Nat → Int32) → (Nat → Int32) → (Nat → Int32) → (Nat → Int32) → (Int32) → (Nat → Int32) → (Nat → Int32) → (Nat → Int32) → (Int32) → (Nat → Int32) → (Nat → Int32) → (Nat → Int32) → (Int32) → (Int32) → (Nat → Int32) → (Nat → Int32) → Int32 → Int32 → Prop} (hC : CB 1 td) (hf : fu 15 td = false) (n0 : nums 0 = a) (c0 : cW 15 0 a a = true) (hD : DR 1 lf_huts lf_singers lf_villages lf_dams lf_echoes lf_deep lf_slide la_heights la_ladders la_minutes la_echoFrom la_echoTo la_homes la_talls la_known vf_deeds va_kinds va_firsts va_seconds sf_facts sa_heard sa_huts sa_minutes cf_voices cf_step ca_parts ca_heights h s td fh fs) (hpo : ∀ (lf_huts' : Int32) (lf_singers' : Int32) (lf_villages' : Int32) (lf_dams' : Int32) (lf_echoes' : Int32) (lf_deep' : Int32) (lf_slide' : Int32) (la_heights' : Nat → Int32) (la_ladders' : Nat → Int32) (la_minutes' : Nat → Int32) (la_echoFrom' : Nat → Int32) (la_echoTo' : Nat → Int32) (la_homes' : Nat → Int32) (la_talls' : Nat → Int32) (la_known' : Nat → Int32) (vf_deeds' : Int32) (va_kinds' : Nat → Int32) (va_firsts' : Nat → Int32) (va_seconds' : Nat → Int32) (sf_facts' : Int32) (sa_heard' : Nat → Int32) (sa_huts' : Nat → Int32) (sa_minutes' : Nat → Int32) (cf_voices' : Int32) (cf_step' : Int32) (ca_parts' : Nat → Int32) (ca_heights' : Nat → Int32) (h' s' : Int32), DR 1 lf_huts' lf_singers' lf_villages' lf_dams' lf_echoes' lf_deep' lf_slide' la_heights' la_ladders' la_minutes' la_echoFrom' la_echoTo' la_homes' la_talls' la_known' vf_deeds' va_kinds' va_firsts' va_seconds' sf_facts' sa_heard' sa_huts' sa_minutes' cf_voices' cf_step' ca_parts' ca_heights' h' s' (lD 15 true a b c td) (lH 15 a b fh) (lS 15 a fs) → post lf_huts' lf_singers' lf_villages' lf_dams' lf_echoes' lf_deep' lf_slide' la_heights' la_ladders' la_minutes' la_echoFrom' la_echoTo' la_homes' la_talls' la_known' vf_deeds' va_kinds' va_firsts' va_seconds' sf_facts' sa_heard' sa_huts' sa_minutes' cf_voices' cf_step' ca_parts' ca_heights' h' s') : q_wr_X4_tell_0 lf_huts lf_singers lf_villages lf_dams lf_echoes lf_deep lf_slide la_heights la_ladders la_minutes la_echoFrom la_echoTo la_homes la_talls la_known vf_deeds va_kinds va_firsts va_seconds sf_facts sa_heard sa_huts sa_minutes cf_voices cf_step ca_parts ca_heights nums h s (nI 15) post := by
  have hL := hD.2.1 rfl
  obtain ⟨k, hk, -, hk9, -⟩ := iv_nI hC.1 (by decide)
  have hne : ¬ td 0 = 40 := fun h9 => by
    have := of_decide_eq_false hf
    exact this (by simp [h9])
  have hk8 : k < 40 := Nat.lt_of_le_of_ne (by omega) (fun h9 => hne (by rw [hk, h9]; rfl))
  have e0 : vf_deeds = nI k := hL.1.trans hk
  have hin : vp_in vf_deeds 40 := by rw [e0]; exact vp_in_nI hk8 (by omega)
  refine ⟨fun _ => ⟨fun h9 => absurd h9 (by decide +kernel), fun _ => ⟨vp_in_nI (by decide) (by decide), ?_⟩⟩, fun h9 => absurd h9 (by decide +kernel)⟩
  rw [c_0, n0]
  refine ⟨fun _ => ?_, fun h9 => absurd h9 (by decide +kernel)⟩
  refine ⟨fun h9 => absurd h9 (by rw [e0]; exact nI_ge (b := 40) hk8 (by omega)), fun _ => ⟨hin, fun t1 e1 => ⟨hin, fun t2 e2 => ⟨hin, fun t3 e3 v e4 => ?_⟩⟩⟩⟩
  rw [e0, nI_clamp (by omega)] at e1 e2 e3
  rw [e0, nI_1] at e4
  subst e1 e2 e3 e4
  refine hpo _ _ _ _ _ _ _ _ _ _ _ _ _ _ _ _ _ _ _ _ _ _ _ _ _ _ _ _ _ ?_
  have e : lD 15 true a b c td = upd (upd (upd (upd td 0 (nI (k + 1))) (1 + 3 * k) (nI 15 - 10)) (2 + 3 * k) a) (3 + 3 * k) (-1) := by
    show (if td 0 = 40 then td else upd (upd (upd (upd td 0 (td 0 + 1)) (Int32.toNatClampNeg ((1 + 3 * td 0) + 0)) (nI (15 - 10))) (Int32.toNatClampNeg ((1 + 3 * td 0) + 1)) a) (Int32.toNatClampNeg ((1 + 3 * td 0) + 2)) (-1)) = _
    have q0 : Int32.toNatClampNeg ((1 + 3 * td 0) + 0) = 1 + 3 * k := by rw [hk, show (1 : Int32) = nI 1 from rfl, show (3 : Int32) = nI 3 from rfl, show (0 : Int32) = nI 0 from rfl, jx2, nI_clamp (by omega)]; omega
    have q1 : Int32.toNatClampNeg ((1 + 3 * td 0) + 1) = 2 + 3 * k := by rw [hk, show (1 : Int32) = nI 1 from rfl, show (3 : Int32) = nI 3 from rfl, jx2, nI_clamp (by omega)]; omega
    have q2 : Int32.toNatClampNeg ((1 + 3 * td 0) + 2) = 3 + 3 * k := by rw [hk, show (1 : Int32) = nI 1 from rfl, show (3 : Int32) = nI 3 from rfl, show (2 : Int32) = nI 2 from rfl, jx2, nI_clamp (by omega)]; omega
    rw [if_neg hne, q0, q1, q2, hk, nI_1]
    rfl
  rw [e]
  exact DR1 (R3_add _ _ _ hL hk (by omega))
set_option maxRecDepth 20000 in
theorem e_tell_16 {lf_huts lf_singers lf_villages lf_dams lf_echoes lf_deep lf_slide vf_deeds sf_facts cf_voices cf_step : Int32} {la_heights la_ladders la_minutes la_echoFrom la_echoTo la_homes la_talls la_known va_kinds va_firsts va_seconds sa_heard sa_huts sa_minutes ca_parts ca_heights : Nat → Int32} {nums td : Nat → Int32} {h s fh fs a b c : Int32} {post : (Int32) → (Int32) → (Int32) → (Int32) → (Int32) → (Int32) → (Int32) → (Nat → Int32) → (Nat → Int32) → (Nat → Int32) → (Nat → Int32) → (Nat → Int32) → (Nat → Int32) → (Nat → Int32) → (Nat → Int32) → (Int32) → (Nat → Int32) → (Nat → Int32) → (Nat → Int32) → (Int32) → (Nat → Int32) → (Nat → Int32) → (Nat → Int32) → (Int32) → (Int32) → (Nat → Int32) → (Nat → Int32) → Int32 → Int32 → Prop} (hC : CB 2 td) (hf : fu 16 td = false) (n0 : nums 0 = a) (c0 : cW 16 0 a a = true) (n1 : nums 1 = b) (c1 : cW 16 1 a b = true) (hD : DR 2 lf_huts lf_singers lf_villages lf_dams lf_echoes lf_deep lf_slide la_heights la_ladders la_minutes la_echoFrom la_echoTo la_homes la_talls la_known vf_deeds va_kinds va_firsts va_seconds sf_facts sa_heard sa_huts sa_minutes cf_voices cf_step ca_parts ca_heights h s td fh fs) (hpo : ∀ (lf_huts' : Int32) (lf_singers' : Int32) (lf_villages' : Int32) (lf_dams' : Int32) (lf_echoes' : Int32) (lf_deep' : Int32) (lf_slide' : Int32) (la_heights' : Nat → Int32) (la_ladders' : Nat → Int32) (la_minutes' : Nat → Int32) (la_echoFrom' : Nat → Int32) (la_echoTo' : Nat → Int32) (la_homes' : Nat → Int32) (la_talls' : Nat → Int32) (la_known' : Nat → Int32) (vf_deeds' : Int32) (va_kinds' : Nat → Int32) (va_firsts' : Nat → Int32) (va_seconds' : Nat → Int32) (sf_facts' : Int32) (sa_heard' : Nat → Int32) (sa_huts' : Nat → Int32) (sa_minutes' : Nat → Int32) (cf_voices' : Int32) (cf_step' : Int32) (ca_parts' : Nat → Int32) (ca_heights' : Nat → Int32) (h' s' : Int32), DR 2 lf_huts' lf_singers' lf_villages' lf_dams' lf_echoes' lf_deep' lf_slide' la_heights' la_ladders' la_minutes' la_echoFrom' la_echoTo' la_homes' la_talls' la_known' vf_deeds' va_kinds' va_firsts' va_seconds' sf_facts' sa_heard' sa_huts' sa_minutes' cf_voices' cf_step' ca_parts' ca_heights' h' s' (lD 16 true a b c td) (lH 16 a b fh) (lS 16 a fs) → post lf_huts' lf_singers' lf_villages' lf_dams' lf_echoes' lf_deep' lf_slide' la_heights' la_ladders' la_minutes' la_echoFrom' la_echoTo' la_homes' la_talls' la_known' vf_deeds' va_kinds' va_firsts' va_seconds' sf_facts' sa_heard' sa_huts' sa_minutes' cf_voices' cf_step' ca_parts' ca_heights' h' s') : q_wr_X4_tell_0 lf_huts lf_singers lf_villages lf_dams lf_echoes lf_deep lf_slide la_heights la_ladders la_minutes la_echoFrom la_echoTo la_homes la_talls la_known vf_deeds va_kinds va_firsts va_seconds sf_facts sa_heard sa_huts sa_minutes cf_voices cf_step ca_parts ca_heights nums h s (nI 16) post := by
  have hL := hD.2.2.1 rfl
  obtain ⟨k, hk, -, hk9, -⟩ := iv_nI hC.1 (by decide)
  have hne : ¬ td 0 = 10 := fun h9 => by
    have := of_decide_eq_false hf
    exact this (by simp [h9])
  have hk8 : k < 10 := Nat.lt_of_le_of_ne (by omega) (fun h9 => hne (by rw [hk, h9]; rfl))
  have e0 : sf_facts = nI k := hL.1.trans hk
  have hin : vp_in sf_facts 10 := by rw [e0]; exact vp_in_nI hk8 (by omega)
  refine ⟨fun _ => ⟨fun _ => ⟨fun h9 => absurd h9 (by decide +kernel), fun _ => ⟨fun h9 => absurd h9 (by decide +kernel), fun _ => ?_⟩⟩, fun h9 => absurd h9 (by decide +kernel)⟩, fun h9 => absurd h9 (by decide +kernel)⟩
  unfold q_wr_X4_tell_98
  rw [c_0, c_1, n0, n1]
  refine ⟨fun h9 => absurd h9 (by rw [e0]; exact nI_ge (b := 10) hk8 (by omega)), fun _ => ⟨hin, fun t1 e1 => ⟨hin, fun t2 e2 => ⟨hin, fun t3 e3 v e4 => ?_⟩⟩⟩⟩
  rw [e0, nI_clamp (by omega)] at e1 e2 e3
  rw [e0, nI_1] at e4
  subst e1 e2 e3 e4
  refine hpo _ _ _ _ _ _ _ _ _ _ _ _ _ _ _ _ _ _ _ _ _ _ _ _ _ _ _ _ _ ?_
  have e : lD 16 true a b c td = upd (upd (upd (upd td 0 (nI (k + 1))) (1 + 3 * k) 1) (2 + 3 * k) a) (3 + 3 * k) b := by
    show (if td 0 = 10 then td else upd (upd (upd (upd td 0 (td 0 + 1)) (Int32.toNatClampNeg ((1 + 3 * td 0) + 0)) 1) (Int32.toNatClampNeg ((1 + 3 * td 0) + 1)) a) (Int32.toNatClampNeg ((1 + 3 * td 0) + 2)) b) = _
    have q0 : Int32.toNatClampNeg ((1 + 3 * td 0) + 0) = 1 + 3 * k := by rw [hk, show (1 : Int32) = nI 1 from rfl, show (3 : Int32) = nI 3 from rfl, show (0 : Int32) = nI 0 from rfl, jx2, nI_clamp (by omega)]; omega
    have q1 : Int32.toNatClampNeg ((1 + 3 * td 0) + 1) = 2 + 3 * k := by rw [hk, show (1 : Int32) = nI 1 from rfl, show (3 : Int32) = nI 3 from rfl, jx2, nI_clamp (by omega)]; omega
    have q2 : Int32.toNatClampNeg ((1 + 3 * td 0) + 2) = 3 + 3 * k := by rw [hk, show (1 : Int32) = nI 1 from rfl, show (3 : Int32) = nI 3 from rfl, show (2 : Int32) = nI 2 from rfl, jx2, nI_clamp (by omega)]; omega
    rw [if_neg hne, q0, q1, q2, hk, nI_1]
  rw [e]
  exact DR2 (R3_add _ _ _ hL hk (by omega))
set_option maxRecDepth 20000 in
theorem e_tell_17 {lf_huts lf_singers lf_villages lf_dams lf_echoes lf_deep lf_slide vf_deeds sf_facts cf_voices cf_step : Int32} {la_heights la_ladders la_minutes la_echoFrom la_echoTo la_homes la_talls la_known va_kinds va_firsts va_seconds sa_heard sa_huts sa_minutes ca_parts ca_heights : Nat → Int32} {nums td : Nat → Int32} {h s fh fs a b c : Int32} {post : (Int32) → (Int32) → (Int32) → (Int32) → (Int32) → (Int32) → (Int32) → (Nat → Int32) → (Nat → Int32) → (Nat → Int32) → (Nat → Int32) → (Nat → Int32) → (Nat → Int32) → (Nat → Int32) → (Nat → Int32) → (Int32) → (Nat → Int32) → (Nat → Int32) → (Nat → Int32) → (Int32) → (Nat → Int32) → (Nat → Int32) → (Nat → Int32) → (Int32) → (Int32) → (Nat → Int32) → (Nat → Int32) → Int32 → Int32 → Prop} (hC : CB 2 td) (hf : fu 17 td = false) (n0 : nums 0 = a) (c0 : cW 17 0 a a = true) (n1 : nums 1 = b) (c1 : cW 17 1 a b = true) (hD : DR 2 lf_huts lf_singers lf_villages lf_dams lf_echoes lf_deep lf_slide la_heights la_ladders la_minutes la_echoFrom la_echoTo la_homes la_talls la_known vf_deeds va_kinds va_firsts va_seconds sf_facts sa_heard sa_huts sa_minutes cf_voices cf_step ca_parts ca_heights h s td fh fs) (hpo : ∀ (lf_huts' : Int32) (lf_singers' : Int32) (lf_villages' : Int32) (lf_dams' : Int32) (lf_echoes' : Int32) (lf_deep' : Int32) (lf_slide' : Int32) (la_heights' : Nat → Int32) (la_ladders' : Nat → Int32) (la_minutes' : Nat → Int32) (la_echoFrom' : Nat → Int32) (la_echoTo' : Nat → Int32) (la_homes' : Nat → Int32) (la_talls' : Nat → Int32) (la_known' : Nat → Int32) (vf_deeds' : Int32) (va_kinds' : Nat → Int32) (va_firsts' : Nat → Int32) (va_seconds' : Nat → Int32) (sf_facts' : Int32) (sa_heard' : Nat → Int32) (sa_huts' : Nat → Int32) (sa_minutes' : Nat → Int32) (cf_voices' : Int32) (cf_step' : Int32) (ca_parts' : Nat → Int32) (ca_heights' : Nat → Int32) (h' s' : Int32), DR 2 lf_huts' lf_singers' lf_villages' lf_dams' lf_echoes' lf_deep' lf_slide' la_heights' la_ladders' la_minutes' la_echoFrom' la_echoTo' la_homes' la_talls' la_known' vf_deeds' va_kinds' va_firsts' va_seconds' sf_facts' sa_heard' sa_huts' sa_minutes' cf_voices' cf_step' ca_parts' ca_heights' h' s' (lD 17 true a b c td) (lH 17 a b fh) (lS 17 a fs) → post lf_huts' lf_singers' lf_villages' lf_dams' lf_echoes' lf_deep' lf_slide' la_heights' la_ladders' la_minutes' la_echoFrom' la_echoTo' la_homes' la_talls' la_known' vf_deeds' va_kinds' va_firsts' va_seconds' sf_facts' sa_heard' sa_huts' sa_minutes' cf_voices' cf_step' ca_parts' ca_heights' h' s') : q_wr_X4_tell_0 lf_huts lf_singers lf_villages lf_dams lf_echoes lf_deep lf_slide la_heights la_ladders la_minutes la_echoFrom la_echoTo la_homes la_talls la_known vf_deeds va_kinds va_firsts va_seconds sf_facts sa_heard sa_huts sa_minutes cf_voices cf_step ca_parts ca_heights nums h s (nI 17) post := by
  have hL := hD.2.2.1 rfl
  obtain ⟨k, hk, -, hk9, -⟩ := iv_nI hC.1 (by decide)
  have hne : ¬ td 0 = 10 := fun h9 => by
    have := of_decide_eq_false hf
    exact this (by simp [h9])
  have hk8 : k < 10 := Nat.lt_of_le_of_ne (by omega) (fun h9 => hne (by rw [hk, h9]; rfl))
  have e0 : sf_facts = nI k := hL.1.trans hk
  have hin : vp_in sf_facts 10 := by rw [e0]; exact vp_in_nI hk8 (by omega)
  refine ⟨fun _ => ⟨fun _ => ⟨fun h9 => absurd h9 (by decide +kernel), fun _ => ⟨fun _ => ?_, fun h9 => absurd h9 (by decide +kernel)⟩⟩, fun h9 => absurd h9 (by decide +kernel)⟩, fun h9 => absurd h9 (by decide +kernel)⟩
  unfold q_wr_X4_tell_98
  rw [c_0, c_1, n0, n1]
  refine ⟨fun h9 => absurd h9 (by rw [e0]; exact nI_ge (b := 10) hk8 (by omega)), fun _ => ⟨hin, fun t1 e1 => ⟨hin, fun t2 e2 => ⟨hin, fun t3 e3 v e4 => ?_⟩⟩⟩⟩
  rw [e0, nI_clamp (by omega)] at e1 e2 e3
  rw [e0, nI_1] at e4
  subst e1 e2 e3 e4
  refine hpo _ _ _ _ _ _ _ _ _ _ _ _ _ _ _ _ _ _ _ _ _ _ _ _ _ _ _ _ _ ?_
  have e : lD 17 true a b c td = upd (upd (upd (upd td 0 (nI (k + 1))) (1 + 3 * k) 0) (2 + 3 * k) a) (3 + 3 * k) b := by
    show (if td 0 = 10 then td else upd (upd (upd (upd td 0 (td 0 + 1)) (Int32.toNatClampNeg ((1 + 3 * td 0) + 0)) 0) (Int32.toNatClampNeg ((1 + 3 * td 0) + 1)) a) (Int32.toNatClampNeg ((1 + 3 * td 0) + 2)) b) = _
    have q0 : Int32.toNatClampNeg ((1 + 3 * td 0) + 0) = 1 + 3 * k := by rw [hk, show (1 : Int32) = nI 1 from rfl, show (3 : Int32) = nI 3 from rfl, show (0 : Int32) = nI 0 from rfl, jx2, nI_clamp (by omega)]; omega
    have q1 : Int32.toNatClampNeg ((1 + 3 * td 0) + 1) = 2 + 3 * k := by rw [hk, show (1 : Int32) = nI 1 from rfl, show (3 : Int32) = nI 3 from rfl, jx2, nI_clamp (by omega)]; omega
    have q2 : Int32.toNatClampNeg ((1 + 3 * td 0) + 2) = 3 + 3 * k := by rw [hk, show (1 : Int32) = nI 1 from rfl, show (3 : Int32) = nI 3 from rfl, show (2 : Int32) = nI 2 from rfl, jx2, nI_clamp (by omega)]; omega
    rw [if_neg hne, q0, q1, q2, hk, nI_1]
  rw [e]
  exact DR2 (R3_add _ _ _ hL hk (by omega))
set_option maxRecDepth 20000 in
theorem e_tell_18 {lf_huts lf_singers lf_villages lf_dams lf_echoes lf_deep lf_slide vf_deeds sf_facts cf_voices cf_step : Int32} {la_heights la_ladders la_minutes la_echoFrom la_echoTo la_homes la_talls la_known va_kinds va_firsts va_seconds sa_heard sa_huts sa_minutes ca_parts ca_heights : Nat → Int32} {nums td : Nat → Int32} {h s fh fs a b c : Int32} {post : (Int32) → (Int32) → (Int32) → (Int32) → (Int32) → (Int32) → (Int32) → (Nat → Int32) → (Nat → Int32) → (Nat → Int32) → (Nat → Int32) → (Nat → Int32) → (Nat → Int32) → (Nat → Int32) → (Nat → Int32) → (Int32) → (Nat → Int32) → (Nat → Int32) → (Nat → Int32) → (Int32) → (Nat → Int32) → (Nat → Int32) → (Nat → Int32) → (Int32) → (Int32) → (Nat → Int32) → (Nat → Int32) → Int32 → Int32 → Prop} (hC : CB 3 td) (hf : fu 18 td = false) (n0 : nums 0 = a) (c0 : cW 18 0 a a = true) (n1 : nums 1 = b) (c1 : cW 18 1 a b = true) (hD : DR 3 lf_huts lf_singers lf_villages lf_dams lf_echoes lf_deep lf_slide la_heights la_ladders la_minutes la_echoFrom la_echoTo la_homes la_talls la_known vf_deeds va_kinds va_firsts va_seconds sf_facts sa_heard sa_huts sa_minutes cf_voices cf_step ca_parts ca_heights h s td fh fs) (hpo : ∀ (lf_huts' : Int32) (lf_singers' : Int32) (lf_villages' : Int32) (lf_dams' : Int32) (lf_echoes' : Int32) (lf_deep' : Int32) (lf_slide' : Int32) (la_heights' : Nat → Int32) (la_ladders' : Nat → Int32) (la_minutes' : Nat → Int32) (la_echoFrom' : Nat → Int32) (la_echoTo' : Nat → Int32) (la_homes' : Nat → Int32) (la_talls' : Nat → Int32) (la_known' : Nat → Int32) (vf_deeds' : Int32) (va_kinds' : Nat → Int32) (va_firsts' : Nat → Int32) (va_seconds' : Nat → Int32) (sf_facts' : Int32) (sa_heard' : Nat → Int32) (sa_huts' : Nat → Int32) (sa_minutes' : Nat → Int32) (cf_voices' : Int32) (cf_step' : Int32) (ca_parts' : Nat → Int32) (ca_heights' : Nat → Int32) (h' s' : Int32), DR 3 lf_huts' lf_singers' lf_villages' lf_dams' lf_echoes' lf_deep' lf_slide' la_heights' la_ladders' la_minutes' la_echoFrom' la_echoTo' la_homes' la_talls' la_known' vf_deeds' va_kinds' va_firsts' va_seconds' sf_facts' sa_heard' sa_huts' sa_minutes' cf_voices' cf_step' ca_parts' ca_heights' h' s' (lD 18 true a b c td) (lH 18 a b fh) (lS 18 a fs) → post lf_huts' lf_singers' lf_villages' lf_dams' lf_echoes' lf_deep' lf_slide' la_heights' la_ladders' la_minutes' la_echoFrom' la_echoTo' la_homes' la_talls' la_known' vf_deeds' va_kinds' va_firsts' va_seconds' sf_facts' sa_heard' sa_huts' sa_minutes' cf_voices' cf_step' ca_parts' ca_heights' h' s') : q_wr_X4_tell_0 lf_huts lf_singers lf_villages lf_dams lf_echoes lf_deep lf_slide la_heights la_ladders la_minutes la_echoFrom la_echoTo la_homes la_talls la_known vf_deeds va_kinds va_firsts va_seconds sf_facts sa_heard sa_huts sa_minutes cf_voices cf_step ca_parts ca_heights nums h s (nI 18) post := by
  have hL := hD.2.2.2 rfl
  obtain ⟨k, hk, -, hk9, -⟩ := iv_nI hC.1 (by decide)
  have hne : ¬ td 0 = 9 := fun h9 => by
    have := of_decide_eq_false hf
    exact this (by simp [h9])
  have hk8 : k < 9 := Nat.lt_of_le_of_ne (by omega) (fun h9 => hne (by rw [hk, h9]; rfl))
  have e0 : cf_voices = nI k := hL.1.trans hk
  have hin : vp_in cf_voices 9 := by rw [e0]; exact vp_in_nI hk8 (by omega)
  refine ⟨fun _ => ⟨fun _ => ⟨fun _ => ⟨fun h9 => absurd h9 (by decide +kernel), fun _ => ?_⟩, fun h9 => absurd h9 (by decide +kernel)⟩, fun h9 => absurd h9 (by decide +kernel)⟩, fun h9 => absurd h9 (by decide +kernel)⟩
  rw [c_0, c_1, n0, n1]
  refine ⟨fun h9 => absurd h9 (by rw [e0]; exact nI_ge (b := 9) hk8 (by omega)), fun _ => ⟨hin, fun t1 e1 => ⟨hin, fun t2 e2 v e4 => ?_⟩⟩⟩
  rw [e0, nI_clamp (by omega)] at e1 e2
  rw [e0, nI_1] at e4
  subst e1 e2 e4
  refine hpo _ _ _ _ _ _ _ _ _ _ _ _ _ _ _ _ _ _ _ _ _ _ _ _ _ _ _ _ _ ?_
  have e : lD 18 true a b c td = upd (upd (upd td 0 (nI (k + 1))) (1 + 2 * k) a) (2 + 2 * k) b := by
    show (if td 0 = 9 then td else upd (upd (upd td 0 (td 0 + 1)) (Int32.toNatClampNeg ((1 + 2 * td 0) + 0)) a) (Int32.toNatClampNeg ((1 + 2 * td 0) + 1)) b) = _
    have q0 : Int32.toNatClampNeg ((1 + 2 * td 0) + 0) = 1 + 2 * k := by rw [hk, show (1 : Int32) = nI 1 from rfl, show (2 : Int32) = nI 2 from rfl, show (0 : Int32) = nI 0 from rfl, jx2, nI_clamp (by omega)]; omega
    have q1 : Int32.toNatClampNeg ((1 + 2 * td 0) + 1) = 2 + 2 * k := by rw [hk, show (1 : Int32) = nI 1 from rfl, show (2 : Int32) = nI 2 from rfl, jx2, nI_clamp (by omega)]; omega
    rw [if_neg hne, q0, q1, hk, nI_1]
  rw [e]
  exact DR3 (CDR_add _ _ hL hk hk8)
set_option maxRecDepth 20000 in
theorem e_tell_19 {lf_huts lf_singers lf_villages lf_dams lf_echoes lf_deep lf_slide vf_deeds sf_facts cf_voices cf_step : Int32} {la_heights la_ladders la_minutes la_echoFrom la_echoTo la_homes la_talls la_known va_kinds va_firsts va_seconds sa_heard sa_huts sa_minutes ca_parts ca_heights : Nat → Int32} {nums td : Nat → Int32} {h s fh fs a b c : Int32} {post : (Int32) → (Int32) → (Int32) → (Int32) → (Int32) → (Int32) → (Int32) → (Nat → Int32) → (Nat → Int32) → (Nat → Int32) → (Nat → Int32) → (Nat → Int32) → (Nat → Int32) → (Nat → Int32) → (Nat → Int32) → (Int32) → (Nat → Int32) → (Nat → Int32) → (Nat → Int32) → (Int32) → (Nat → Int32) → (Nat → Int32) → (Nat → Int32) → (Int32) → (Int32) → (Nat → Int32) → (Nat → Int32) → Int32 → Int32 → Prop} (hC : CB 3 td) (hf : fu 19 td = false) (n0 : nums 0 = a) (c0 : cW 19 0 a a = true) (hD : DR 3 lf_huts lf_singers lf_villages lf_dams lf_echoes lf_deep lf_slide la_heights la_ladders la_minutes la_echoFrom la_echoTo la_homes la_talls la_known vf_deeds va_kinds va_firsts va_seconds sf_facts sa_heard sa_huts sa_minutes cf_voices cf_step ca_parts ca_heights h s td fh fs) (hpo : ∀ (lf_huts' : Int32) (lf_singers' : Int32) (lf_villages' : Int32) (lf_dams' : Int32) (lf_echoes' : Int32) (lf_deep' : Int32) (lf_slide' : Int32) (la_heights' : Nat → Int32) (la_ladders' : Nat → Int32) (la_minutes' : Nat → Int32) (la_echoFrom' : Nat → Int32) (la_echoTo' : Nat → Int32) (la_homes' : Nat → Int32) (la_talls' : Nat → Int32) (la_known' : Nat → Int32) (vf_deeds' : Int32) (va_kinds' : Nat → Int32) (va_firsts' : Nat → Int32) (va_seconds' : Nat → Int32) (sf_facts' : Int32) (sa_heard' : Nat → Int32) (sa_huts' : Nat → Int32) (sa_minutes' : Nat → Int32) (cf_voices' : Int32) (cf_step' : Int32) (ca_parts' : Nat → Int32) (ca_heights' : Nat → Int32) (h' s' : Int32), DR 3 lf_huts' lf_singers' lf_villages' lf_dams' lf_echoes' lf_deep' lf_slide' la_heights' la_ladders' la_minutes' la_echoFrom' la_echoTo' la_homes' la_talls' la_known' vf_deeds' va_kinds' va_firsts' va_seconds' sf_facts' sa_heard' sa_huts' sa_minutes' cf_voices' cf_step' ca_parts' ca_heights' h' s' (lD 19 true a b c td) (lH 19 a b fh) (lS 19 a fs) → post lf_huts' lf_singers' lf_villages' lf_dams' lf_echoes' lf_deep' lf_slide' la_heights' la_ladders' la_minutes' la_echoFrom' la_echoTo' la_homes' la_talls' la_known' vf_deeds' va_kinds' va_firsts' va_seconds' sf_facts' sa_heard' sa_huts' sa_minutes' cf_voices' cf_step' ca_parts' ca_heights' h' s') : q_wr_X4_tell_0 lf_huts lf_singers lf_villages lf_dams lf_echoes lf_deep lf_slide la_heights la_ladders la_minutes la_echoFrom la_echoTo la_homes la_talls la_known vf_deeds va_kinds va_firsts va_seconds sf_facts sa_heard sa_huts sa_minutes cf_voices cf_step ca_parts ca_heights nums h s (nI 19) post := by
  have hL := hD.2.2.2 rfl
  refine ⟨fun _ => ⟨fun _ => ⟨fun _ => ⟨fun _ v e => ?_, fun h9 => absurd h9 (by decide +kernel)⟩, fun h9 => absurd h9 (by decide +kernel)⟩, fun h9 => absurd h9 (by decide +kernel)⟩, fun h9 => absurd h9 (by decide +kernel)⟩
  rw [c_0, n0] at e
  subst e
  refine hpo _ _ _ _ _ _ _ _ _ _ _ _ _ _ _ _ _ _ _ _ _ _ _ _ _ _ _ _ _ ?_
  exact DR3 (CDR_step _ hL (iv_cb hC.1 rfl))
end
