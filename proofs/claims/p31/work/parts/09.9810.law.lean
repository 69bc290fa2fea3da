section
set_option maxRecDepth 1000000 in
theorem bw09_9810_law_0_e : pickC [166, 0, 0, 407, 0, 0, 0, 4, 0, 0, 0, 0, 0, 0, 0, 194, 0, 0, 0, 0, 0, 0, 0, 28, 0, 0, 0, 0, 0, 0, 0, 8, 0, 0, 0, 59, 0, 0, 0, 49, 0, 0, 0, 22, 0, 0, 0, 26, 0, 0, 0, 5, 0, 0, 0, 18, 0, 0, 0, 18, 0, 0, 0, 9, 0, 0, 0, 8, 0, 0, 0, 24, 0, 0, 0, 37, 0, 0, 0, 12, 0, 0, 0, 8, 0, 0, 0, 10, 0, 0, 0, 6, 0, 0, 0, 9, 0, 0, 0, 10] lw_tbl = [Cond.classLink RL 7 RX10, Cond.instantiable RX10 7, Cond.methodLink RL 9 yX10_init, Cond.methodLink RL 13 yX10_feed, Cond.instanceMethod yX10_feed, Cond.selects RX10 yX10_feed yX10_feed, Cond.code yX10_feed cX10_feed 6 (some .int), Cond.methodLink RL 18 yX10_end, Cond.instanceMethod yX10_end, Cond.selects RX10 yX10_end yX10_end, Cond.code yX10_end cX10_end 2 (some .int), Cond.methodLink RL 23 yX10_text, Cond.instanceMethod yX10_text, Cond.selects RX10 yX10_text yX10_text, Cond.code yX10_text cX10_text 5 (some .int), Cond.methodLink RL 28 yX10_fault, Cond.instanceMethod yX10_fault, Cond.selects RX10 yX10_fault yX10_fault, Cond.code yX10_fault cX10_fault 2 (some .int), Cond.methodLink RL 32 yX10_land, Cond.instanceMethod yX10_land, Cond.selects RX10 yX10_land yX10_land, Cond.code yX10_land cX10_land 4 (some .int), Cond.methodLink RL 36 yX10_echo, Cond.instanceMethod yX10_echo, Cond.selects RX10 yX10_echo yX10_echo, Cond.code yX10_echo cX10_echo 5 (some .int), Cond.methodLink RL 41 yX10_deed, Cond.instanceMethod yX10_deed, Cond.selects RX10 yX10_deed yX10_deed, Cond.code yX10_deed cX10_deed 5 (some .int), Cond.methodLink RL 45 yX10_stop, Cond.instanceMethod yX10_stop, Cond.selects RX10 yX10_stop yX10_stop, Cond.code yX10_stop cX10_stop 5 (some .int), Cond.methodLink RL 49 yX10_state, Cond.instanceMethod yX10_state, Cond.selects RX10 yX10_state yX10_state, Cond.code yX10_state cX10_state 5 (some .int), Cond.methodLink RL 54 yX10_comes, Cond.instanceMethod yX10_comes, Cond.selects RX10 yX10_comes yX10_comes, Cond.code yX10_comes cX10_comes 5 (some .int), Cond.methodLink RL 58 yX10_villages, Cond.instanceMethod yX10_villages, Cond.selects RX10 yX10_villages yX10_villages, Cond.code yX10_villages cX10_villages 5 (some .int), Cond.methodLink RL 62 yX10_best, Cond.instanceMethod yX10_best, Cond.selects RX10 yX10_best yX10_best, Cond.code yX10_best cX10_best 5 (some .int), Cond.methodLink RL 67 yX10_routes, Cond.instanceMethod yX10_routes, Cond.selects RX10 yX10_routes yX10_routes, Cond.code yX10_routes cX10_routes 6 (some .int), Cond.methodLink RL 71 yX10_mutes, Cond.instanceMethod yX10_mutes, Cond.selects RX10 yX10_mutes yX10_mutes, Cond.code yX10_mutes cX10_mutes 5 (some .int), Cond.methodLink RL 75 yX10_masses, Cond.instanceMethod yX10_masses, Cond.selects RX10 yX10_masses yX10_masses, Cond.code yX10_masses cX10_masses 6 (some .int), Cond.methodLink RL 80 yX10_fact, Cond.instanceMethod yX10_fact, Cond.selects RX10 yX10_fact yX10_fact, Cond.code yX10_fact cX10_fact 5 (some .int), Cond.methodLink RL 84 yX10_fits, Cond.instanceMethod yX10_fits, Cond.selects RX10 yX10_fits yX10_fits, Cond.code yX10_fits cX10_fits 7 (some .int), Cond.methodLink RL 88 yX10_choir, Cond.instanceMethod yX10_choir, Cond.selects RX10 yX10_choir yX10_choir, Cond.code yX10_choir cX10_choir 4 (some .int), Cond.methodLink RL 92 yX10_orders, Cond.instanceMethod yX10_orders, Cond.selects RX10 yX10_orders yX10_orders, Cond.code yX10_orders cX10_orders 3 (some .long), Cond.methodLink RL 97 yX10_order, Cond.instanceMethod yX10_order, Cond.selects RX10 yX10_order yX10_order, Cond.code yX10_order cX10_order 4 (some .int), Cond.methodLink RL 101 yX10_trade, Cond.instanceMethod yX10_trade, Cond.selects RX10 yX10_trade yX10_trade, Cond.code yX10_trade cX10_trade 6 (some .int), Cond.methodLink RL 106 yX10_odds, Cond.instanceMethod yX10_odds, Cond.selects RX10 yX10_odds yX10_odds, Cond.code yX10_odds cX10_odds 7 (some .long), Cond.methodLink RL 111 yX10_drawn, Cond.instanceMethod yX10_drawn, Cond.selects RX10 yX10_drawn yX10_drawn, Cond.code yX10_drawn cX10_drawn 6 (some .int), Cond.methodLink RL 115 yX10_psalm, Cond.instanceMethod yX10_psalm, Cond.selects RX10 yX10_psalm yX10_psalm, Cond.code yX10_psalm cX10_psalm 7 (some .int), Cond.methodLink RL 119 yX10_meet] := rfl
theorem bw09_9810_law_0 : ∀ (i : Nat) (w : Cond), ([Cond.classLink RL 7 RX10, Cond.instantiable RX10 7, Cond.methodLink RL 9 yX10_init, Cond.methodLink RL 13 yX10_feed, Cond.instanceMethod yX10_feed, Cond.selects RX10 yX10_feed yX10_feed, Cond.code yX10_feed cX10_feed 6 (some .int), Cond.methodLink RL 18 yX10_end, Cond.instanceMethod yX10_end, Cond.selects RX10 yX10_end yX10_end, Cond.code yX10_end cX10_end 2 (some .int), Cond.methodLink RL 23 yX10_text, Cond.instanceMethod yX10_text, Cond.selects RX10 yX10_text yX10_text, Cond.code yX10_text cX10_text 5 (some .int), Cond.methodLink RL 28 yX10_fault, Cond.instanceMethod yX10_fault, Cond.selects RX10 yX10_fault yX10_fault, Cond.code yX10_fault cX10_fault 2 (some .int), Cond.methodLink RL 32 yX10_land, Cond.instanceMethod yX10_land, Cond.selects RX10 yX10_land yX10_land, Cond.code yX10_land cX10_land 4 (some .int), Cond.methodLink RL 36 yX10_echo, Cond.instanceMethod yX10_echo, Cond.selects RX10 yX10_echo yX10_echo, Cond.code yX10_echo cX10_echo 5 (some .int), Cond.methodLink RL 41 yX10_deed, Cond.instanceMethod yX10_deed, Cond.selects RX10 yX10_deed yX10_deed, Cond.code yX10_deed cX10_deed 5 (some .int), Cond.methodLink RL 45 yX10_stop, Cond.instanceMethod yX10_stop, Cond.selects RX10 yX10_stop yX10_stop, Cond.code yX10_stop cX10_stop 5 (some .int), Cond.methodLink RL 49 yX10_state, Cond.instanceMethod yX10_state, Cond.selects RX10 yX10_state yX10_state, Cond.code yX10_state cX10_state 5 (some .int), Cond.methodLink RL 54 yX10_comes, Cond.instanceMethod yX10_comes, Cond.selects RX10 yX10_comes yX10_comes, Cond.code yX10_comes cX10_comes 5 (some .int), Cond.methodLink RL 58 yX10_villages, Cond.instanceMethod yX10_villages, Cond.selects RX10 yX10_villages yX10_villages, Cond.code yX10_villages cX10_villages 5 (some .int), Cond.methodLink RL 62 yX10_best, Cond.instanceMethod yX10_best, Cond.selects RX10 yX10_best yX10_best, Cond.code yX10_best cX10_best 5 (some .int), Cond.methodLink RL 67 yX10_routes, Cond.instanceMethod yX10_routes, Cond.selects RX10 yX10_routes yX10_routes, Cond.code yX10_routes cX10_routes 6 (some .int), Cond.methodLink RL 71 yX10_mutes, Cond.instanceMethod yX10_mutes, Cond.selects RX10 yX10_mutes yX10_mutes, Cond.code yX10_mutes cX10_mutes 5 (some .int), Cond.methodLink RL 75 yX10_masses, Cond.instanceMethod yX10_masses, Cond.selects RX10 yX10_masses yX10_masses, Cond.code yX10_masses cX10_masses 6 (some .int), Cond.methodLink RL 80 yX10_fact, Cond.instanceMethod yX10_fact, Cond.selects RX10 yX10_fact yX10_fact, Cond.code yX10_fact cX10_fact 5 (some .int), Cond.methodLink RL 84 yX10_fits, Cond.instanceMethod yX10_fits, Cond.selects RX10 yX10_fits yX10_fits, Cond.code yX10_fits cX10_fits 7 (some .int), Cond.methodLink RL 88 yX10_choir, Cond.instanceMethod yX10_choir, Cond.selects RX10 yX10_choir yX10_choir, Cond.code yX10_choir cX10_choir 4 (some .int), Cond.methodLink RL 92 yX10_orders, Cond.instanceMethod yX10_orders, Cond.selects RX10 yX10_orders yX10_orders, Cond.code yX10_orders cX10_orders 3 (some .long), Cond.methodLink RL 97 yX10_order, Cond.instanceMethod yX10_order, Cond.selects RX10 yX10_order yX10_order, Cond.code yX10_order cX10_order 4 (some .int), Cond.methodLink RL 101 yX10_trade, Cond.instanceMethod yX10_trade, Cond.selects RX10 yX10_trade yX10_trade, Cond.code yX10_trade cX10_trade 6 (some .int), Cond.methodLink RL 106 yX10_odds, Cond.instanceMethod yX10_odds, Cond.selects RX10 yX10_odds yX10_odds, Cond.code yX10_odds cX10_odds 7 (some .long), Cond.methodLink RL 111 yX10_drawn, Cond.instanceMethod yX10_drawn, Cond.selects RX10 yX10_drawn yX10_drawn, Cond.code yX10_drawn cX10_drawn 6 (some .int), Cond.methodLink RL 115 yX10_psalm, Cond.instanceMethod yX10_psalm, Cond.selects RX10 yX10_psalm yX10_psalm, Cond.code yX10_psalm cX10_psalm 7 (some .int), Cond.methodLink RL 119 yX10_meet] : List Cond)[i]? = some w → w ∈ zb := fun i w e => pick_zb bw09_9810_law_0_e (by decide +kernel) w (List.mem_of_getElem? e)
theorem kclL_7 : Cond.classLink RL 7 RX10 ∈ zb := bw09_9810_law_0 0 _ rfl
theorem kins_10 : Cond.instantiable RX10 7 ∈ zb := bw09_9810_law_0 1 _ rfl
theorem kmL_9 : Cond.methodLink RL 9 yX10_init ∈ zb := bw09_9810_law_0 2 _ rfl
theorem kmL_13 : Cond.methodLink RL 13 yX10_feed ∈ zb := bw09_9810_law_0 3 _ rfl
theorem kin_X10_feed : Cond.instanceMethod yX10_feed ∈ zb := bw09_9810_law_0 4 _ rfl
theorem kse_X10_feed : Cond.selects RX10 yX10_feed yX10_feed ∈ zb := bw09_9810_law_0 5 _ rfl
theorem kcode_X10_feed : Cond.code yX10_feed cX10_feed 6 (some .int) ∈ zb := bw09_9810_law_0 6 _ rfl
theorem kmL_18 : Cond.methodLink RL 18 yX10_end ∈ zb := bw09_9810_law_0 7 _ rfl
theorem kin_X10_end : Cond.instanceMethod yX10_end ∈ zb := bw09_9810_law_0 8 _ rfl
theorem kse_X10_end : Cond.selects RX10 yX10_end yX10_end ∈ zb := bw09_9810_law_0 9 _ rfl
theorem kcode_X10_end : Cond.code yX10_end cX10_end 2 (some .int) ∈ zb := bw09_9810_law_0 10 _ rfl
theorem kmL_23 : Cond.methodLink RL 23 yX10_text ∈ zb := bw09_9810_law_0 11 _ rfl
theorem kin_X10_text : Cond.instanceMethod yX10_text ∈ zb := bw09_9810_law_0 12 _ rfl
theorem kse_X10_text : Cond.selects RX10 yX10_text yX10_text ∈ zb := bw09_9810_law_0 13 _ rfl
theorem kcode_X10_text : Cond.code yX10_text cX10_text 5 (some .int) ∈ zb := bw09_9810_law_0 14 _ rfl
theorem kmL_28 : Cond.methodLink RL 28 yX10_fault ∈ zb := bw09_9810_law_0 15 _ rfl
theorem kin_X10_fault : Cond.instanceMethod yX10_fault ∈ zb := bw09_9810_law_0 16 _ rfl
theorem kse_X10_fault : Cond.selects RX10 yX10_fault yX10_fault ∈ zb := bw09_9810_law_0 17 _ rfl
theorem kcode_X10_fault : Cond.code yX10_fault cX10_fault 2 (some .int) ∈ zb := bw09_9810_law_0 18 _ rfl
theorem kmL_32 : Cond.methodLink RL 32 yX10_land ∈ zb := bw09_9810_law_0 19 _ rfl
theorem kin_X10_land : Cond.instanceMethod yX10_land ∈ zb := bw09_9810_law_0 20 _ rfl
theorem kse_X10_land : Cond.selects RX10 yX10_land yX10_land ∈ zb := bw09_9810_law_0 21 _ rfl
theorem kcode_X10_land : Cond.code yX10_land cX10_land 4 (some .int) ∈ zb := bw09_9810_law_0 22 _ rfl
theorem kmL_36 : Cond.methodLink RL 36 yX10_echo ∈ zb := bw09_9810_law_0 23 _ rfl
theorem kin_X10_echo : Cond.instanceMethod yX10_echo ∈ zb := bw09_9810_law_0 24 _ rfl
theorem kse_X10_echo : Cond.selects RX10 yX10_echo yX10_echo ∈ zb := bw09_9810_law_0 25 _ rfl
theorem kcode_X10_echo : Cond.code yX10_echo cX10_echo 5 (some .int) ∈ zb := bw09_9810_law_0 26 _ rfl
theorem kmL_41 : Cond.methodLink RL 41 yX10_deed ∈ zb := bw09_9810_law_0 27 _ rfl
theorem kin_X10_deed : Cond.instanceMethod yX10_deed ∈ zb := bw09_9810_law_0 28 _ rfl
theorem kse_X10_deed : Cond.selects RX10 yX10_deed yX10_deed ∈ zb := bw09_9810_law_0 29 _ rfl
theorem kcode_X10_deed : Cond.code yX10_deed cX10_deed 5 (some .int) ∈ zb := bw09_9810_law_0 30 _ rfl
theorem kmL_45 : Cond.methodLink RL 45 yX10_stop ∈ zb := bw09_9810_law_0 31 _ rfl
theorem kin_X10_stop : Cond.instanceMethod yX10_stop ∈ zb := bw09_9810_law_0 32 _ rfl
theorem kse_X10_stop : Cond.selects RX10 yX10_stop yX10_stop ∈ zb := bw09_9810_law_0 33 _ rfl
theorem kcode_X10_stop : Cond.code yX10_stop cX10_stop 5 (some .int) ∈ zb := bw09_9810_law_0 34 _ rfl
theorem kmL_49 : Cond.methodLink RL 49 yX10_state ∈ zb := bw09_9810_law_0 35 _ rfl
theorem kin_X10_state : Cond.instanceMethod yX10_state ∈ zb := bw09_9810_law_0 36 _ rfl
theorem kse_X10_state : Cond.selects RX10 yX10_state yX10_state ∈ zb := bw09_9810_law_0 37 _ rfl
theorem kcode_X10_state : Cond.code yX10_state cX10_state 5 (some .int) ∈ zb := bw09_9810_law_0 38 _ rfl
theorem kmL_54 : Cond.methodLink RL 54 yX10_comes ∈ zb := bw09_9810_law_0 39 _ rfl
theorem kin_X10_comes : Cond.instanceMethod yX10_comes ∈ zb := bw09_9810_law_0 40 _ rfl
theorem kse_X10_comes : Cond.selects RX10 yX10_comes yX10_comes ∈ zb := bw09_9810_law_0 41 _ rfl
theorem kcode_X10_comes : Cond.code yX10_comes cX10_comes 5 (some .int) ∈ zb := bw09_9810_law_0 42 _ rfl
theorem kmL_58 : Cond.methodLink RL 58 yX10_villages ∈ zb := bw09_9810_law_0 43 _ rfl
theorem kin_X10_villages : Cond.instanceMethod yX10_villages ∈ zb := bw09_9810_law_0 44 _ rfl
theorem kse_X10_villages : Cond.selects RX10 yX10_villages yX10_villages ∈ zb := bw09_9810_law_0 45 _ rfl
theorem kcode_X10_villages : Cond.code yX10_villages cX10_villages 5 (some .int) ∈ zb := bw09_9810_law_0 46 _ rfl
theorem kmL_62 : Cond.methodLink RL 62 yX10_best ∈ zb := bw09_9810_law_0 47 _ rfl
theorem kin_X10_best : Cond.instanceMethod yX10_best ∈ zb := bw09_9810_law_0 48 _ rfl
theorem kse_X10_best : Cond.selects RX10 yX10_best yX10_best ∈ zb := bw09_9810_law_0 49 _ rfl
theorem kcode_X10_best : Cond.code yX10_best cX10_best 5 (some .int) ∈ zb := bw09_9810_law_0 50 _ rfl
theorem kmL_67 : Cond.methodLink RL 67 yX10_routes ∈ zb := bw09_9810_law_0 51 _ rfl
theorem kin_X10_routes : Cond.instanceMethod yX10_routes ∈ zb := bw09_9810_law_0 52 _ rfl
theorem kse_X10_routes : Cond.selects RX10 yX10_routes yX10_routes ∈ zb := bw09_9810_law_0 53 _ rfl
theorem kcode_X10_routes : Cond.code yX10_routes cX10_routes 6 (some .int) ∈ zb := bw09_9810_law_0 54 _ rfl
theorem kmL_71 : Cond.methodLink RL 71 yX10_mutes ∈ zb := bw09_9810_law_0 55 _ rfl
theorem kin_X10_mutes : Cond.instanceMethod yX10_mutes ∈ zb := bw09_9810_law_0 56 _ rfl
theorem kse_X10_mutes : Cond.selects RX10 yX10_mutes yX10_mutes ∈ zb := bw09_9810_law_0 57 _ rfl
theorem kcode_X10_mutes : Cond.code yX10_mutes cX10_mutes 5 (some .int) ∈ zb := bw09_9810_law_0 58 _ rfl
theorem kmL_75 : Cond.methodLink RL 75 yX10_masses ∈ zb := bw09_9810_law_0 59 _ rfl
theorem kin_X10_masses : Cond.instanceMethod yX10_masses ∈ zb := bw09_9810_law_0 60 _ rfl
theorem kse_X10_masses : Cond.selects RX10 yX10_masses yX10_masses ∈ zb := bw09_9810_law_0 61 _ rfl
theorem kcode_X10_masses : Cond.code yX10_masses cX10_masses 6 (some .int) ∈ zb := bw09_9810_law_0 62 _ rfl
theorem kmL_80 : Cond.methodLink RL 80 yX10_fact ∈ zb := bw09_9810_law_0 63 _ rfl
theorem kin_X10_fact : Cond.instanceMethod yX10_fact ∈ zb := bw09_9810_law_0 64 _ rfl
theorem kse_X10_fact : Cond.selects RX10 yX10_fact yX10_fact ∈ zb := bw09_9810_law_0 65 _ rfl
theorem kcode_X10_fact : Cond.code yX10_fact cX10_fact 5 (some .int) ∈ zb := bw09_9810_law_0 66 _ rfl
theorem kmL_84 : Cond.methodLink RL 84 yX10_fits ∈ zb := bw09_9810_law_0 67 _ rfl
theorem kin_X10_fits : Cond.instanceMethod yX10_fits ∈ zb := bw09_9810_law_0 68 _ rfl
theorem kse_X10_fits : Cond.selects RX10 yX10_fits yX10_fits ∈ zb := bw09_9810_law_0 69 _ rfl
theorem kcode_X10_fits : Cond.code yX10_fits cX10_fits 7 (some .int) ∈ zb := bw09_9810_law_0 70 _ rfl
theorem kmL_88 : Cond.methodLink RL 88 yX10_choir ∈ zb := bw09_9810_law_0 71 _ rfl
theorem kin_X10_choir : Cond.instanceMethod yX10_choir ∈ zb := bw09_9810_law_0 72 _ rfl
theorem kse_X10_choir : Cond.selects RX10 yX10_choir yX10_choir ∈ zb := bw09_9810_law_0 73 _ rfl
theorem kcode_X10_choir : Cond.code yX10_choir cX10_choir 4 (some .int) ∈ zb := bw09_9810_law_0 74 _ rfl
theorem kmL_92 : Cond.methodLink RL 92 yX10_orders ∈ zb := bw09_9810_law_0 75 _ rfl
theorem kin_X10_orders : Cond.instanceMethod yX10_orders ∈ zb := bw09_9810_law_0 76 _ rfl
theorem kse_X10_orders : Cond.selects RX10 yX10_orders yX10_orders ∈ zb := bw09_9810_law_0 77 _ rfl
theorem kcode_X10_orders : Cond.code yX10_orders cX10_orders 3 (some .long) ∈ zb := bw09_9810_law_0 78 _ rfl
theorem kmL_97 : Cond.methodLink RL 97 yX10_order ∈ zb := bw09_9810_law_0 79 _ rfl
theorem kin_X10_order : Cond.instanceMethod yX10_order ∈ zb := bw09_9810_law_0 80 _ rfl
theorem kse_X10_order : Cond.selects RX10 yX10_order yX10_order ∈ zb := bw09_9810_law_0 81 _ rfl
theorem kcode_X10_order : Cond.code yX10_order cX10_order 4 (some .int) ∈ zb := bw09_9810_law_0 82 _ rfl
theorem kmL_101 : Cond.methodLink RL 101 yX10_trade ∈ zb := bw09_9810_law_0 83 _ rfl
theorem kin_X10_trade : Cond.instanceMethod yX10_trade ∈ zb := bw09_9810_law_0 84 _ rfl
theorem kse_X10_trade : Cond.selects RX10 yX10_trade yX10_trade ∈ zb := bw09_9810_law_0 85 _ rfl
theorem kcode_X10_trade : Cond.code yX10_trade cX10_trade 6 (some .int) ∈ zb := bw09_9810_law_0 86 _ rfl
theorem kmL_106 : Cond.methodLink RL 106 yX10_odds ∈ zb := bw09_9810_law_0 87 _ rfl
theorem kin_X10_odds : Cond.instanceMethod yX10_odds ∈ zb := bw09_9810_law_0 88 _ rfl
theorem kse_X10_odds : Cond.selects RX10 yX10_odds yX10_odds ∈ zb := bw09_9810_law_0 89 _ rfl
theorem kcode_X10_odds : Cond.code yX10_odds cX10_odds 7 (some .long) ∈ zb := bw09_9810_law_0 90 _ rfl
theorem kmL_111 : Cond.methodLink RL 111 yX10_drawn ∈ zb := bw09_9810_law_0 91 _ rfl
theorem kin_X10_drawn : Cond.instanceMethod yX10_drawn ∈ zb := bw09_9810_law_0 92 _ rfl
theorem kse_X10_drawn : Cond.selects RX10 yX10_drawn yX10_drawn ∈ zb := bw09_9810_law_0 93 _ rfl
theorem kcode_X10_drawn : Cond.code yX10_drawn cX10_drawn 6 (some .int) ∈ zb := bw09_9810_law_0 94 _ rfl
theorem kmL_115 : Cond.methodLink RL 115 yX10_psalm ∈ zb := bw09_9810_law_0 95 _ rfl
theorem kin_X10_psalm : Cond.instanceMethod yX10_psalm ∈ zb := bw09_9810_law_0 96 _ rfl
theorem kse_X10_psalm : Cond.selects RX10 yX10_psalm yX10_psalm ∈ zb := bw09_9810_law_0 97 _ rfl
theorem kcode_X10_psalm : Cond.code yX10_psalm cX10_psalm 7 (some .int) ∈ zb := bw09_9810_law_0 98 _ rfl
theorem kmL_119 : Cond.methodLink RL 119 yX10_meet ∈ zb := bw09_9810_law_0 99 _ rfl
set_option maxRecDepth 1000000 in
theorem bw09_9810_law_1_e : pickC [1237, 0, 0, 6, 0, 0, 0, 4, 0, 0, 0, 0, 0, 0, 0, 21, 0, 0, 0, 4, 0, 0, 0, 12, 0, 0, 0, 0, 12, 3, 0, 0, 162, 0, 0, 0, 4, 0, 0, 0, 3, 0, 0, 0, 142, 0, 0, 0, 0, 0, 0, 0, 24, 0, 0, 0, 0, 0, 0, 0, 12, 0, 0, 0, 55, 0, 0, 0, 28, 0, 0, 0, 11, 0, 0, 0, 27, 0, 0, 0, 0, 0, 0, 0, 12, 0, 0, 0, 5, 0, 0, 0, 4, 0, 0, 0, 12, 0, 0, 0] lw_tbl = [Cond.instanceMethod yX10_meet, Cond.selects RX10 yX10_meet yX10_meet, Cond.code yX10_meet cX10_meet 6 (some .int), Cond.methodLink RL 123 yX10_carry, Cond.instanceMethod yX10_carry, Cond.selects RX10 yX10_carry yX10_carry, Cond.code yX10_carry cX10_carry 5 (some .int), Cond.methodLink RL 127 yX10_join, Cond.instanceMethod yX10_join, Cond.selects RX10 yX10_join yX10_join, Cond.code yX10_join cX10_join 6 (some .int), Cond.methodLink RL 131 yX10_slopes, Cond.instanceMethod yX10_slopes, Cond.selects RX10 yX10_slopes yX10_slopes, Cond.code yX10_slopes cX10_slopes 4 (some .int), Cond.methodLink RL 135 yX10_flood, Cond.instanceMethod yX10_flood, Cond.selects RX10 yX10_flood yX10_flood, Cond.code yX10_flood cX10_flood 7 (some .int), Cond.methodLink RL 139 yX10_teach, Cond.instanceMethod yX10_teach, Cond.selects RX10 yX10_teach yX10_teach, Cond.code yX10_teach cX10_teach 5 (some .int), Cond.methodLink RL 143 yX10_count, Cond.instanceMethod yX10_count, Cond.selects RX10 yX10_count yX10_count, Cond.code yX10_count cX10_count 2 (some .int), Cond.methodLink RL 147 yX10_image, Cond.methodLink RL 152 yX10_again, Cond.classLink RL 10 RX11, Cond.instantiable RX11 52, Cond.methodLink RL 12 yX11_init, Cond.methodLink RL 17 yX11_feed, Cond.instanceMethod yX11_feed, Cond.selects RX11 yX11_feed yX11_feed, Cond.code yX11_feed cX11_feed 6 (some .int), Cond.methodLink RL 22 yX11_end, Cond.instanceMethod yX11_end, Cond.selects RX11 yX11_end yX11_end, Cond.code yX11_end cX11_end 2 (some .int), Cond.methodLink RL 27 yX11_text, Cond.instanceMethod yX11_text, Cond.selects RX11 yX11_text yX11_text, Cond.code yX11_text cX11_text 4 (some .int), Cond.methodLink RL 31 yX11_fault, Cond.instanceMethod yX11_fault, Cond.selects RX11 yX11_fault yX11_fault, Cond.code yX11_fault cX11_fault 2 (some .int), Cond.methodLink RL 35 yX11_land, Cond.instanceMethod yX11_land, Cond.selects RX11 yX11_land yX11_land, Cond.code yX11_land cX11_land 5 (some .int), Cond.methodLink RL 40 yX11_echo, Cond.instanceMethod yX11_echo, Cond.selects RX11 yX11_echo yX11_echo, Cond.code yX11_echo cX11_echo 4 (some .int), Cond.methodLink RL 44 yX11_deed, Cond.instanceMethod yX11_deed, Cond.selects RX11 yX11_deed yX11_deed, Cond.code yX11_deed cX11_deed 4 (some .int), Cond.methodLink RL 48 yX11_stop, Cond.instanceMethod yX11_stop, Cond.selects RX11 yX11_stop yX11_stop, Cond.code yX11_stop cX11_stop 3 (some .int), Cond.methodLink RL 53 yX11_state, Cond.instanceMethod yX11_state, Cond.selects RX11 yX11_state yX11_state, Cond.code yX11_state cX11_state 5 (some .int), Cond.methodLink RL 57 yX11_comes, Cond.instanceMethod yX11_comes, Cond.selects RX11 yX11_comes yX11_comes, Cond.code yX11_comes cX11_comes 4 (some .int), Cond.methodLink RL 61 yX11_villages, Cond.instanceMethod yX11_villages, Cond.selects RX11 yX11_villages yX11_villages, Cond.code yX11_villages cX11_villages 5 (some .int), Cond.methodLink RL 66 yX11_best, Cond.instanceMethod yX11_best, Cond.selects RX11 yX11_best yX11_best, Cond.code yX11_best cX11_best 7 (some .int), Cond.methodLink RL 70 yX11_routes, Cond.instanceMethod yX11_routes, Cond.selects RX11 yX11_routes yX11_routes, Cond.code yX11_routes cX11_routes 5 (some .int), Cond.methodLink RL 74 yX11_mutes, Cond.instanceMethod yX11_mutes, Cond.selects RX11 yX11_mutes yX11_mutes, Cond.code yX11_mutes cX11_mutes 8 (some .int), Cond.methodLink RL 79 yX11_masses, Cond.instanceMethod yX11_masses, Cond.selects RX11 yX11_masses yX11_masses, Cond.code yX11_masses cX11_masses 6 (some .int), Cond.methodLink RL 83 yX11_fact, Cond.instanceMethod yX11_fact, Cond.selects RX11 yX11_fact yX11_fact, Cond.code yX11_fact cX11_fact 4 (some .int), Cond.methodLink RL 87 yX11_fits, Cond.instanceMethod yX11_fits, Cond.selects RX11 yX11_fits yX11_fits, Cond.code yX11_fits cX11_fits 6 (some .int)] := rfl
theorem bw09_9810_law_1 : ∀ (i : Nat) (w : Cond), ([Cond.instanceMethod yX10_meet, Cond.selects RX10 yX10_meet yX10_meet, Cond.code yX10_meet cX10_meet 6 (some .int), Cond.methodLink RL 123 yX10_carry, Cond.instanceMethod yX10_carry, Cond.selects RX10 yX10_carry yX10_carry, Cond.code yX10_carry cX10_carry 5 (some .int), Cond.methodLink RL 127 yX10_join, Cond.instanceMethod yX10_join, Cond.selects RX10 yX10_join yX10_join, Cond.code yX10_join cX10_join 6 (some .int), Cond.methodLink RL 131 yX10_slopes, Cond.instanceMethod yX10_slopes, Cond.selects RX10 yX10_slopes yX10_slopes, Cond.code yX10_slopes cX10_slopes 4 (some .int), Cond.methodLink RL 135 yX10_flood, Cond.instanceMethod yX10_flood, Cond.selects RX10 yX10_flood yX10_flood, Cond.code yX10_flood cX10_flood 7 (some .int), Cond.methodLink RL 139 yX10_teach, Cond.instanceMethod yX10_teach, Cond.selects RX10 yX10_teach yX10_teach, Cond.code yX10_teach cX10_teach 5 (some .int), Cond.methodLink RL 143 yX10_count, Cond.instanceMethod yX10_count, Cond.selects RX10 yX10_count yX10_count, Cond.code yX10_count cX10_count 2 (some .int), Cond.methodLink RL 147 yX10_image, Cond.methodLink RL 152 yX10_again, Cond.classLink RL 10 RX11, Cond.instantiable RX11 52, Cond.methodLink RL 12 yX11_init, Cond.methodLink RL 17 yX11_feed, Cond.instanceMethod yX11_feed, Cond.selects RX11 yX11_feed yX11_feed, Cond.code yX11_feed cX11_feed 6 (some .int), Cond.methodLink RL 22 yX11_end, Cond.instanceMethod yX11_end, Cond.selects RX11 yX11_end yX11_end, Cond.code yX11_end cX11_end 2 (some .int), Cond.methodLink RL 27 yX11_text, Cond.instanceMethod yX11_text, Cond.selects RX11 yX11_text yX11_text, Cond.code yX11_text cX11_text 4 (some .int), Cond.methodLink RL 31 yX11_fault, Cond.instanceMethod yX11_fault, Cond.selects RX11 yX11_fault yX11_fault, Cond.code yX11_fault cX11_fault 2 (some .int), Cond.methodLink RL 35 yX11_land, Cond.instanceMethod yX11_land, Cond.selects RX11 yX11_land yX11_land, Cond.code yX11_land cX11_land 5 (some .int), Cond.methodLink RL 40 yX11_echo, Cond.instanceMethod yX11_echo, Cond.selects RX11 yX11_echo yX11_echo, Cond.code yX11_echo cX11_echo 4 (some .int), Cond.methodLink RL 44 yX11_deed, Cond.instanceMethod yX11_deed, Cond.selects RX11 yX11_deed yX11_deed, Cond.code yX11_deed cX11_deed 4 (some .int), Cond.methodLink RL 48 yX11_stop, Cond.instanceMethod yX11_stop, Cond.selects RX11 yX11_stop yX11_stop, Cond.code yX11_stop cX11_stop 3 (some .int), Cond.methodLink RL 53 yX11_state, Cond.instanceMethod yX11_state, Cond.selects RX11 yX11_state yX11_state, Cond.code yX11_state cX11_state 5 (some .int), Cond.methodLink RL 57 yX11_comes, Cond.instanceMethod yX11_comes, Cond.selects RX11 yX11_comes yX11_comes, Cond.code yX11_comes cX11_comes 4 (some .int), Cond.methodLink RL 61 yX11_villages, Cond.instanceMethod yX11_villages, Cond.selects RX11 yX11_villages yX11_villages, Cond.code yX11_villages cX11_villages 5 (some .int), Cond.methodLink RL 66 yX11_best, Cond.instanceMethod yX11_best, Cond.selects RX11 yX11_best yX11_best, Cond.code yX11_best cX11_best 7 (some .int), Cond.methodLink RL 70 yX11_routes, Cond.instanceMethod yX11_routes, Cond.selects RX11 yX11_routes yX11_routes, Cond.code yX11_routes cX11_routes 5 (some .int), Cond.methodLink RL 74 yX11_mutes, Cond.instanceMethod yX11_mutes, Cond.selects RX11 yX11_mutes yX11_mutes, Cond.code yX11_mutes cX11_mutes 8 (some .int), Cond.methodLink RL 79 yX11_masses, Cond.instanceMethod yX11_masses, Cond.selects RX11 yX11_masses yX11_masses, Cond.code yX11_masses cX11_masses 6 (some .int), Cond.methodLink RL 83 yX11_fact, Cond.instanceMethod yX11_fact, Cond.selects RX11 yX11_fact yX11_fact, Cond.code yX11_fact cX11_fact 4 (some .int), Cond.methodLink RL 87 yX11_fits, Cond.instanceMethod yX11_fits, Cond.selects RX11 yX11_fits yX11_fits, Cond.code yX11_fits cX11_fits 6 (some .int)] : List Cond)[i]? = some w → w ∈ zb := fun i w e => pick_zb bw09_9810_law_1_e (by decide +kernel) w (List.mem_of_getElem? e)
theorem kin_X10_meet : Cond.instanceMethod yX10_meet ∈ zb := bw09_9810_law_1 0 _ rfl
theorem kse_X10_meet : Cond.selects RX10 yX10_meet yX10_meet ∈ zb := bw09_9810_law_1 1 _ rfl
theorem kcode_X10_meet : Cond.code yX10_meet cX10_meet 6 (some .int) ∈ zb := bw09_9810_law_1 2 _ rfl
theorem kmL_123 : Cond.methodLink RL 123 yX10_carry ∈ zb := bw09_9810_law_1 3 _ rfl
theorem kin_X10_carry : Cond.instanceMethod yX10_carry ∈ zb := bw09_9810_law_1 4 _ rfl
theorem kse_X10_carry : Cond.selects RX10 yX10_carry yX10_carry ∈ zb := bw09_9810_law_1 5 _ rfl
theorem kcode_X10_carry : Cond.code yX10_carry cX10_carry 5 (some .int) ∈ zb := bw09_9810_law_1 6 _ rfl
theorem kmL_127 : Cond.methodLink RL 127 yX10_join ∈ zb := bw09_9810_law_1 7 _ rfl
theorem kin_X10_join : Cond.instanceMethod yX10_join ∈ zb := bw09_9810_law_1 8 _ rfl
theorem kse_X10_join : Cond.selects RX10 yX10_join yX10_join ∈ zb := bw09_9810_law_1 9 _ rfl
theorem kcode_X10_join : Cond.code yX10_join cX10_join 6 (some .int) ∈ zb := bw09_9810_law_1 10 _ rfl
theorem kmL_131 : Cond.methodLink RL 131 yX10_slopes ∈ zb := bw09_9810_law_1 11 _ rfl
theorem kin_X10_slopes : Cond.instanceMethod yX10_slopes ∈ zb := bw09_9810_law_1 12 _ rfl
theorem kse_X10_slopes : Cond.selects RX10 yX10_slopes yX10_slopes ∈ zb := bw09_9810_law_1 13 _ rfl
theorem kcode_X10_slopes : Cond.code yX10_slopes cX10_slopes 4 (some .int) ∈ zb := bw09_9810_law_1 14 _ rfl
theorem kmL_135 : Cond.methodLink RL 135 yX10_flood ∈ zb := bw09_9810_law_1 15 _ rfl
theorem kin_X10_flood : Cond.instanceMethod yX10_flood ∈ zb := bw09_9810_law_1 16 _ rfl
theorem kse_X10_flood : Cond.selects RX10 yX10_flood yX10_flood ∈ zb := bw09_9810_law_1 17 _ rfl
theorem kcode_X10_flood : Cond.code yX10_flood cX10_flood 7 (some .int) ∈ zb := bw09_9810_law_1 18 _ rfl
theorem kmL_139 : Cond.methodLink RL 139 yX10_teach ∈ zb := bw09_9810_law_1 19 _ rfl
theorem kin_X10_teach : Cond.instanceMethod yX10_teach ∈ zb := bw09_9810_law_1 20 _ rfl
theorem kse_X10_teach : Cond.selects RX10 yX10_teach yX10_teach ∈ zb := bw09_9810_law_1 21 _ rfl
theorem kcode_X10_teach : Cond.code yX10_teach cX10_teach 5 (some .int) ∈ zb := bw09_9810_law_1 22 _ rfl
theorem kmL_143 : Cond.methodLink RL 143 yX10_count ∈ zb := bw09_9810_law_1 23 _ rfl
theorem kin_X10_count : Cond.instanceMethod yX10_count ∈ zb := bw09_9810_law_1 24 _ rfl
theorem kse_X10_count : Cond.selects RX10 yX10_count yX10_count ∈ zb := bw09_9810_law_1 25 _ rfl
theorem kcode_X10_count : Cond.code yX10_count cX10_count 2 (some .int) ∈ zb := bw09_9810_law_1 26 _ rfl
theorem kmL_147 : Cond.methodLink RL 147 yX10_image ∈ zb := bw09_9810_law_1 27 _ rfl
theorem kmL_152 : Cond.methodLink RL 152 yX10_again ∈ zb := bw09_9810_law_1 28 _ rfl
theorem kclL_10 : Cond.classLink RL 10 RX11 ∈ zb := bw09_9810_law_1 29 _ rfl
theorem kins_11 : Cond.instantiable RX11 52 ∈ zb := bw09_9810_law_1 30 _ rfl
theorem kmL_12 : Cond.methodLink RL 12 yX11_init ∈ zb := bw09_9810_law_1 31 _ rfl
theorem kmL_17 : Cond.methodLink RL 17 yX11_feed ∈ zb := bw09_9810_law_1 32 _ rfl
theorem kin_X11_feed : Cond.instanceMethod yX11_feed ∈ zb := bw09_9810_law_1 33 _ rfl
theorem kse_X11_feed : Cond.selects RX11 yX11_feed yX11_feed ∈ zb := bw09_9810_law_1 34 _ rfl
theorem kcode_X11_feed : Cond.code yX11_feed cX11_feed 6 (some .int) ∈ zb := bw09_9810_law_1 35 _ rfl
theorem kmL_22 : Cond.methodLink RL 22 yX11_end ∈ zb := bw09_9810_law_1 36 _ rfl
theorem kin_X11_end : Cond.instanceMethod yX11_end ∈ zb := bw09_9810_law_1 37 _ rfl
theorem kse_X11_end : Cond.selects RX11 yX11_end yX11_end ∈ zb := bw09_9810_law_1 38 _ rfl
theorem kcode_X11_end : Cond.code yX11_end cX11_end 2 (some .int) ∈ zb := bw09_9810_law_1 39 _ rfl
theorem kmL_27 : Cond.methodLink RL 27 yX11_text ∈ zb := bw09_9810_law_1 40 _ rfl
theorem kin_X11_text : Cond.instanceMethod yX11_text ∈ zb := bw09_9810_law_1 41 _ rfl
theorem kse_X11_text : Cond.selects RX11 yX11_text yX11_text ∈ zb := bw09_9810_law_1 42 _ rfl
theorem kcode_X11_text : Cond.code yX11_text cX11_text 4 (some .int) ∈ zb := bw09_9810_law_1 43 _ rfl
theorem kmL_31 : Cond.methodLink RL 31 yX11_fault ∈ zb := bw09_9810_law_1 44 _ rfl
theorem kin_X11_fault : Cond.instanceMethod yX11_fault ∈ zb := bw09_9810_law_1 45 _ rfl
theorem kse_X11_fault : Cond.selects RX11 yX11_fault yX11_fault ∈ zb := bw09_9810_law_1 46 _ rfl
theorem kcode_X11_fault : Cond.code yX11_fault cX11_fault 2 (some .int) ∈ zb := bw09_9810_law_1 47 _ rfl
theorem kmL_35 : Cond.methodLink RL 35 yX11_land ∈ zb := bw09_9810_law_1 48 _ rfl
theorem kin_X11_land : Cond.instanceMethod yX11_land ∈ zb := bw09_9810_law_1 49 _ rfl
theorem kse_X11_land : Cond.selects RX11 yX11_land yX11_land ∈ zb := bw09_9810_law_1 50 _ rfl
theorem kcode_X11_land : Cond.code yX11_land cX11_land 5 (some .int) ∈ zb := bw09_9810_law_1 51 _ rfl
theorem kmL_40 : Cond.methodLink RL 40 yX11_echo ∈ zb := bw09_9810_law_1 52 _ rfl
theorem kin_X11_echo : Cond.instanceMethod yX11_echo ∈ zb := bw09_9810_law_1 53 _ rfl
theorem kse_X11_echo : Cond.selects RX11 yX11_echo yX11_echo ∈ zb := bw09_9810_law_1 54 _ rfl
theorem kcode_X11_echo : Cond.code yX11_echo cX11_echo 4 (some .int) ∈ zb := bw09_9810_law_1 55 _ rfl
theorem kmL_44 : Cond.methodLink RL 44 yX11_deed ∈ zb := bw09_9810_law_1 56 _ rfl
theorem kin_X11_deed : Cond.instanceMethod yX11_deed ∈ zb := bw09_9810_law_1 57 _ rfl
theorem kse_X11_deed : Cond.selects RX11 yX11_deed yX11_deed ∈ zb := bw09_9810_law_1 58 _ rfl
theorem kcode_X11_deed : Cond.code yX11_deed cX11_deed 4 (some .int) ∈ zb := bw09_9810_law_1 59 _ rfl
theorem kmL_48 : Cond.methodLink RL 48 yX11_stop ∈ zb := bw09_9810_law_1 60 _ rfl
theorem kin_X11_stop : Cond.instanceMethod yX11_stop ∈ zb := bw09_9810_law_1 61 _ rfl
theorem kse_X11_stop : Cond.selects RX11 yX11_stop yX11_stop ∈ zb := bw09_9810_law_1 62 _ rfl
theorem kcode_X11_stop : Cond.code yX11_stop cX11_stop 3 (some .int) ∈ zb := bw09_9810_law_1 63 _ rfl
theorem kmL_53 : Cond.methodLink RL 53 yX11_state ∈ zb := bw09_9810_law_1 64 _ rfl
theorem kin_X11_state : Cond.instanceMethod yX11_state ∈ zb := bw09_9810_law_1 65 _ rfl
theorem kse_X11_state : Cond.selects RX11 yX11_state yX11_state ∈ zb := bw09_9810_law_1 66 _ rfl
theorem kcode_X11_state : Cond.code yX11_state cX11_state 5 (some .int) ∈ zb := bw09_9810_law_1 67 _ rfl
theorem kmL_57 : Cond.methodLink RL 57 yX11_comes ∈ zb := bw09_9810_law_1 68 _ rfl
theorem kin_X11_comes : Cond.instanceMethod yX11_comes ∈ zb := bw09_9810_law_1 69 _ rfl
theorem kse_X11_comes : Cond.selects RX11 yX11_comes yX11_comes ∈ zb := bw09_9810_law_1 70 _ rfl
theorem kcode_X11_comes : Cond.code yX11_comes cX11_comes 4 (some .int) ∈ zb := bw09_9810_law_1 71 _ rfl
theorem kmL_61 : Cond.methodLink RL 61 yX11_villages ∈ zb := bw09_9810_law_1 72 _ rfl
theorem kin_X11_villages : Cond.instanceMethod yX11_villages ∈ zb := bw09_9810_law_1 73 _ rfl
theorem kse_X11_villages : Cond.selects RX11 yX11_villages yX11_villages ∈ zb := bw09_9810_law_1 74 _ rfl
theorem kcode_X11_villages : Cond.code yX11_villages cX11_villages 5 (some .int) ∈ zb := bw09_9810_law_1 75 _ rfl
theorem kmL_66 : Cond.methodLink RL 66 yX11_best ∈ zb := bw09_9810_law_1 76 _ rfl
theorem kin_X11_best : Cond.instanceMethod yX11_best ∈ zb := bw09_9810_law_1 77 _ rfl
theorem kse_X11_best : Cond.selects RX11 yX11_best yX11_best ∈ zb := bw09_9810_law_1 78 _ rfl
theorem kcode_X11_best : Cond.code yX11_best cX11_best 7 (some .int) ∈ zb := bw09_9810_law_1 79 _ rfl
theorem kmL_70 : Cond.methodLink RL 70 yX11_routes ∈ zb := bw09_9810_law_1 80 _ rfl
theorem kin_X11_routes : Cond.instanceMethod yX11_routes ∈ zb := bw09_9810_law_1 81 _ rfl
theorem kse_X11_routes : Cond.selects RX11 yX11_routes yX11_routes ∈ zb := bw09_9810_law_1 82 _ rfl
theorem kcode_X11_routes : Cond.code yX11_routes cX11_routes 5 (some .int) ∈ zb := bw09_9810_law_1 83 _ rfl
theorem kmL_74 : Cond.methodLink RL 74 yX11_mutes ∈ zb := bw09_9810_law_1 84 _ rfl
theorem kin_X11_mutes : Cond.instanceMethod yX11_mutes ∈ zb := bw09_9810_law_1 85 _ rfl
theorem kse_X11_mutes : Cond.selects RX11 yX11_mutes yX11_mutes ∈ zb := bw09_9810_law_1 86 _ rfl
theorem kcode_X11_mutes : Cond.code yX11_mutes cX11_mutes 8 (some .int) ∈ zb := bw09_9810_law_1 87 _ rfl
theorem kmL_79 : Cond.methodLink RL 79 yX11_masses ∈ zb := bw09_9810_law_1 88 _ rfl
theorem kin_X11_masses : Cond.instanceMethod yX11_masses ∈ zb := bw09_9810_law_1 89 _ rfl
theorem kse_X11_masses : Cond.selects RX11 yX11_masses yX11_masses ∈ zb := bw09_9810_law_1 90 _ rfl
theorem kcode_X11_masses : Cond.code yX11_masses cX11_masses 6 (some .int) ∈ zb := bw09_9810_law_1 91 _ rfl
theorem kmL_83 : Cond.methodLink RL 83 yX11_fact ∈ zb := bw09_9810_law_1 92 _ rfl
theorem kin_X11_fact : Cond.instanceMethod yX11_fact ∈ zb := bw09_9810_law_1 93 _ rfl
theorem kse_X11_fact : Cond.selects RX11 yX11_fact yX11_fact ∈ zb := bw09_9810_law_1 94 _ rfl
theorem kcode_X11_fact : Cond.code yX11_fact cX11_fact 4 (some .int) ∈ zb := bw09_9810_law_1 95 _ rfl
theorem kmL_87 : Cond.methodLink RL 87 yX11_fits ∈ zb := bw09_9810_law_1 96 _ rfl
theorem kin_X11_fits : Cond.instanceMethod yX11_fits ∈ zb := bw09_9810_law_1 97 _ rfl
theorem kse_X11_fits : Cond.selects RX11 yX11_fits yX11_fits ∈ zb := bw09_9810_law_1 98 _ rfl
theorem kcode_X11_fits : Cond.code yX11_fits cX11_fits 6 (some .int) ∈ zb := bw09_9810_law_1 99 _ rfl
set_option maxRecDepth 1000000 in
theorem bw09_9810_law_2_e : pickC [1908, 0, 0, 0, 28, 0, 0, 0, 1, 0, 0, 0, 0, 0, 0, 0, 12, 0, 0, 0, 0, 0, 0, 0, 9, 0, 0, 0, 0, 0, 0, 0, 0, 0, 0, 0, 0, 0, 0, 0, 0, 0, 0, 0, 0, 0, 0, 0, 0, 0, 0, 0, 4, 0, 0, 0, 0, 0, 0, 0, 7, 0, 0, 0] lw_tbl = [Cond.methodLink RL 91 yX11_choir, Cond.instanceMethod yX11_choir, Cond.selects RX11 yX11_choir yX11_choir, Cond.code yX11_choir cX11_choir 3 (some .int), Cond.methodLink RL 96 yX11_orders, Cond.instanceMethod yX11_orders, Cond.selects RX11 yX11_orders yX11_orders, Cond.code yX11_orders cX11_orders 2 (some .long), Cond.methodLink RL 100 yX11_order, Cond.instanceMethod yX11_order, Cond.selects RX11 yX11_order yX11_order, Cond.code yX11_order cX11_order 7 (some .int), Cond.methodLink RL 105 yX11_trade, Cond.instanceMethod yX11_trade, Cond.selects RX11 yX11_trade yX11_trade, Cond.code yX11_trade cX11_trade 7 (some .int), Cond.methodLink RL 110 yX11_odds, Cond.instanceMethod yX11_odds, Cond.selects RX11 yX11_odds yX11_odds, Cond.code yX11_odds cX11_odds 10 (some .long), Cond.methodLink RL 114 yX11_drawn, Cond.instanceMethod yX11_drawn, Cond.selects RX11 yX11_drawn yX11_drawn, Cond.code yX11_drawn cX11_drawn 6 (some .int), Cond.methodLink RL 118 yX11_psalm, Cond.instanceMethod yX11_psalm, Cond.selects RX11 yX11_psalm yX11_psalm, Cond.code yX11_psalm cX11_psalm 9 (some .int), Cond.methodLink RL 122 yX11_meet, Cond.instanceMethod yX11_meet, Cond.selects RX11 yX11_meet yX11_meet, Cond.code yX11_meet cX11_meet 9 (some .int), Cond.methodLink RL 126 yX11_carry, Cond.instanceMethod yX11_carry, Cond.selects RX11 yX11_carry yX11_carry, Cond.code yX11_carry cX11_carry 8 (some .int), Cond.methodLink RL 130 yX11_join, Cond.instanceMethod yX11_join, Cond.selects RX11 yX11_join yX11_join, Cond.code yX11_join cX11_join 9 (some .int), Cond.methodLink RL 134 yX11_slopes, Cond.instanceMethod yX11_slopes, Cond.selects RX11 yX11_slopes yX11_slopes, Cond.code yX11_slopes cX11_slopes 10 (some .int), Cond.methodLink RL 138 yX11_flood, Cond.instanceMethod yX11_flood, Cond.selects RX11 yX11_flood yX11_flood, Cond.code yX11_flood cX11_flood 8 (some .int), Cond.methodLink RL 142 yX11_teach, Cond.instanceMethod yX11_teach, Cond.selects RX11 yX11_teach yX11_teach, Cond.code yX11_teach cX11_teach 8 (some .int), Cond.methodLink RL 146 yX11_count, Cond.instanceMethod yX11_count, Cond.selects RX11 yX11_count yX11_count, Cond.code yX11_count cX11_count 2 (some .int), Cond.methodLink RL 151 yX11_image, Cond.instanceMethod yX11_image, Cond.selects RX11 yX11_image yX11_image, Cond.code yX11_image cX11_image 2 (some .boolean), Cond.methodLink RL 155 yX11_again, Cond.instanceMethod yX11_again, Cond.selects RX11 yX11_again yX11_again, Cond.code yX11_again cX11_again 2 (some .boolean)] := rfl
theorem bw09_9810_law_2 : ∀ (i : Nat) (w : Cond), ([Cond.methodLink RL 91 yX11_choir, Cond.instanceMethod yX11_choir, Cond.selects RX11 yX11_choir yX11_choir, Cond.code yX11_choir cX11_choir 3 (some .int), Cond.methodLink RL 96 yX11_orders, Cond.instanceMethod yX11_orders, Cond.selects RX11 yX11_orders yX11_orders, Cond.code yX11_orders cX11_orders 2 (some .long), Cond.methodLink RL 100 yX11_order, Cond.instanceMethod yX11_order, Cond.selects RX11 yX11_order yX11_order, Cond.code yX11_order cX11_order 7 (some .int), Cond.methodLink RL 105 yX11_trade, Cond.instanceMethod yX11_trade, Cond.selects RX11 yX11_trade yX11_trade, Cond.code yX11_trade cX11_trade 7 (some .int), Cond.methodLink RL 110 yX11_odds, Cond.instanceMethod yX11_odds, Cond.selects RX11 yX11_odds yX11_odds, Cond.code yX11_odds cX11_odds 10 (some .long), Cond.methodLink RL 114 yX11_drawn, Cond.instanceMethod yX11_drawn, Cond.selects RX11 yX11_drawn yX11_drawn, Cond.code yX11_drawn cX11_drawn 6 (some .int), Cond.methodLink RL 118 yX11_psalm, Cond.instanceMethod yX11_psalm, Cond.selects RX11 yX11_psalm yX11_psalm, Cond.code yX11_psalm cX11_psalm 9 (some .int), Cond.methodLink RL 122 yX11_meet, Cond.instanceMethod yX11_meet, Cond.selects RX11 yX11_meet yX11_meet, Cond.code yX11_meet cX11_meet 9 (some .int), Cond.methodLink RL 126 yX11_carry, Cond.instanceMethod yX11_carry, Cond.selects RX11 yX11_carry yX11_carry, Cond.code yX11_carry cX11_carry 8 (some .int), Cond.methodLink RL 130 yX11_join, Cond.instanceMethod yX11_join, Cond.selects RX11 yX11_join yX11_join, Cond.code yX11_join cX11_join 9 (some .int), Cond.methodLink RL 134 yX11_slopes, Cond.instanceMethod yX11_slopes, Cond.selects RX11 yX11_slopes yX11_slopes, Cond.code yX11_slopes cX11_slopes 10 (some .int), Cond.methodLink RL 138 yX11_flood, Cond.instanceMethod yX11_flood, Cond.selects RX11 yX11_flood yX11_flood, Cond.code yX11_flood cX11_flood 8 (some .int), Cond.methodLink RL 142 yX11_teach, Cond.instanceMethod yX11_teach, Cond.selects RX11 yX11_teach yX11_teach, Cond.code yX11_teach cX11_teach 8 (some .int), Cond.methodLink RL 146 yX11_count, Cond.instanceMethod yX11_count, Cond.selects RX11 yX11_count yX11_count, Cond.code yX11_count cX11_count 2 (some .int), Cond.methodLink RL 151 yX11_image, Cond.instanceMethod yX11_image, Cond.selects RX11 yX11_image yX11_image, Cond.code yX11_image cX11_image 2 (some .boolean), Cond.methodLink RL 155 yX11_again, Cond.instanceMethod yX11_again, Cond.selects RX11 yX11_again yX11_again, Cond.code yX11_again cX11_again 2 (some .boolean)] : List Cond)[i]? = some w → w ∈ zb := fun i w e => pick_zb bw09_9810_law_2_e (by decide +kernel) w (List.mem_of_getElem? e)
theorem kmL_91 : Cond.methodLink RL 91 yX11_choir ∈ zb := bw09_9810_law_2 0 _ rfl
theorem kin_X11_choir : Cond.instanceMethod yX11_choir ∈ zb := bw09_9810_law_2 1 _ rfl
theorem kse_X11_choir : Cond.selects RX11 yX11_choir yX11_choir ∈ zb := bw09_9810_law_2 2 _ rfl
theorem kcode_X11_choir : Cond.code yX11_choir cX11_choir 3 (some .int) ∈ zb := bw09_9810_law_2 3 _ rfl
theorem kmL_96 : Cond.methodLink RL 96 yX11_orders ∈ zb := bw09_9810_law_2 4 _ rfl
theorem kin_X11_orders : Cond.instanceMethod yX11_orders ∈ zb := bw09_9810_law_2 5 _ rfl
theorem kse_X11_orders : Cond.selects RX11 yX11_orders yX11_orders ∈ zb := bw09_9810_law_2 6 _ rfl
theorem kcode_X11_orders : Cond.code yX11_orders cX11_orders 2 (some .long) ∈ zb := bw09_9810_law_2 7 _ rfl
theorem kmL_100 : Cond.methodLink RL 100 yX11_order ∈ zb := bw09_9810_law_2 8 _ rfl
theorem kin_X11_order : Cond.instanceMethod yX11_order ∈ zb := bw09_9810_law_2 9 _ rfl
theorem kse_X11_order : Cond.selects RX11 yX11_order yX11_order ∈ zb := bw09_9810_law_2 10 _ rfl
theorem kcode_X11_order : Cond.code yX11_order cX11_order 7 (some .int) ∈ zb := bw09_9810_law_2 11 _ rfl
theorem kmL_105 : Cond.methodLink RL 105 yX11_trade ∈ zb := bw09_9810_law_2 12 _ rfl
theorem kin_X11_trade : Cond.instanceMethod yX11_trade ∈ zb := bw09_9810_law_2 13 _ rfl
theorem kse_X11_trade : Cond.selects RX11 yX11_trade yX11_trade ∈ zb := bw09_9810_law_2 14 _ rfl
theorem kcode_X11_trade : Cond.code yX11_trade cX11_trade 7 (some .int) ∈ zb := bw09_9810_law_2 15 _ rfl
theorem kmL_110 : Cond.methodLink RL 110 yX11_odds ∈ zb := bw09_9810_law_2 16 _ rfl
theorem kin_X11_odds : Cond.instanceMethod yX11_odds ∈ zb := bw09_9810_law_2 17 _ rfl
theorem kse_X11_odds : Cond.selects RX11 yX11_odds yX11_odds ∈ zb := bw09_9810_law_2 18 _ rfl
theorem kcode_X11_odds : Cond.code yX11_odds cX11_odds 10 (some .long) ∈ zb := bw09_9810_law_2 19 _ rfl
theorem kmL_114 : Cond.methodLink RL 114 yX11_drawn ∈ zb := bw09_9810_law_2 20 _ rfl
theorem kin_X11_drawn : Cond.instanceMethod yX11_drawn ∈ zb := bw09_9810_law_2 21 _ rfl
theorem kse_X11_drawn : Cond.selects RX11 yX11_drawn yX11_drawn ∈ zb := bw09_9810_law_2 22 _ rfl
theorem kcode_X11_drawn : Cond.code yX11_drawn cX11_drawn 6 (some .int) ∈ zb := bw09_9810_law_2 23 _ rfl
theorem kmL_118 : Cond.methodLink RL 118 yX11_psalm ∈ zb := bw09_9810_law_2 24 _ rfl
theorem kin_X11_psalm : Cond.instanceMethod yX11_psalm ∈ zb := bw09_9810_law_2 25 _ rfl
theorem kse_X11_psalm : Cond.selects RX11 yX11_psalm yX11_psalm ∈ zb := bw09_9810_law_2 26 _ rfl
theorem kcode_X11_psalm : Cond.code yX11_psalm cX11_psalm 9 (some .int) ∈ zb := bw09_9810_law_2 27 _ rfl
theorem kmL_122 : Cond.methodLink RL 122 yX11_meet ∈ zb := bw09_9810_law_2 28 _ rfl
theorem kin_X11_meet : Cond.instanceMethod yX11_meet ∈ zb := bw09_9810_law_2 29 _ rfl
theorem kse_X11_meet : Cond.selects RX11 yX11_meet yX11_meet ∈ zb := bw09_9810_law_2 30 _ rfl
theorem kcode_X11_meet : Cond.code yX11_meet cX11_meet 9 (some .int) ∈ zb := bw09_9810_law_2 31 _ rfl
theorem kmL_126 : Cond.methodLink RL 126 yX11_carry ∈ zb := bw09_9810_law_2 32 _ rfl
theorem kin_X11_carry : Cond.instanceMethod yX11_carry ∈ zb := bw09_9810_law_2 33 _ rfl
theorem kse_X11_carry : Cond.selects RX11 yX11_carry yX11_carry ∈ zb := bw09_9810_law_2 34 _ rfl
theorem kcode_X11_carry : Cond.code yX11_carry cX11_carry 8 (some .int) ∈ zb := bw09_9810_law_2 35 _ rfl
theorem kmL_130 : Cond.methodLink RL 130 yX11_join ∈ zb := bw09_9810_law_2 36 _ rfl
theorem kin_X11_join : Cond.instanceMethod yX11_join ∈ zb := bw09_9810_law_2 37 _ rfl
theorem kse_X11_join : Cond.selects RX11 yX11_join yX11_join ∈ zb := bw09_9810_law_2 38 _ rfl
theorem kcode_X11_join : Cond.code yX11_join cX11_join 9 (some .int) ∈ zb := bw09_9810_law_2 39 _ rfl
theorem kmL_134 : Cond.methodLink RL 134 yX11_slopes ∈ zb := bw09_9810_law_2 40 _ rfl
theorem kin_X11_slopes : Cond.instanceMethod yX11_slopes ∈ zb := bw09_9810_law_2 41 _ rfl
theorem kse_X11_slopes : Cond.selects RX11 yX11_slopes yX11_slopes ∈ zb := bw09_9810_law_2 42 _ rfl
theorem kcode_X11_slopes : Cond.code yX11_slopes cX11_slopes 10 (some .int) ∈ zb := bw09_9810_law_2 43 _ rfl
theorem kmL_138 : Cond.methodLink RL 138 yX11_flood ∈ zb := bw09_9810_law_2 44 _ rfl
theorem kin_X11_flood : Cond.instanceMethod yX11_flood ∈ zb := bw09_9810_law_2 45 _ rfl
theorem kse_X11_flood : Cond.selects RX11 yX11_flood yX11_flood ∈ zb := bw09_9810_law_2 46 _ rfl
theorem kcode_X11_flood : Cond.code yX11_flood cX11_flood 8 (some .int) ∈ zb := bw09_9810_law_2 47 _ rfl
theorem kmL_142 : Cond.methodLink RL 142 yX11_teach ∈ zb := bw09_9810_law_2 48 _ rfl
theorem kin_X11_teach : Cond.instanceMethod yX11_teach ∈ zb := bw09_9810_law_2 49 _ rfl
theorem kse_X11_teach : Cond.selects RX11 yX11_teach yX11_teach ∈ zb := bw09_9810_law_2 50 _ rfl
theorem kcode_X11_teach : Cond.code yX11_teach cX11_teach 8 (some .int) ∈ zb := bw09_9810_law_2 51 _ rfl
theorem kmL_146 : Cond.methodLink RL 146 yX11_count ∈ zb := bw09_9810_law_2 52 _ rfl
theorem kin_X11_count : Cond.instanceMethod yX11_count ∈ zb := bw09_9810_law_2 53 _ rfl
theorem kse_X11_count : Cond.selects RX11 yX11_count yX11_count ∈ zb := bw09_9810_law_2 54 _ rfl
theorem kcode_X11_count : Cond.code yX11_count cX11_count 2 (some .int) ∈ zb := bw09_9810_law_2 55 _ rfl
theorem kmL_151 : Cond.methodLink RL 151 yX11_image ∈ zb := bw09_9810_law_2 56 _ rfl
theorem kin_X11_image : Cond.instanceMethod yX11_image ∈ zb := bw09_9810_law_2 57 _ rfl
theorem kse_X11_image : Cond.selects RX11 yX11_image yX11_image ∈ zb := bw09_9810_law_2 58 _ rfl
theorem kcode_X11_image : Cond.code yX11_image cX11_image 2 (some .boolean) ∈ zb := bw09_9810_law_2 59 _ rfl
theorem kmL_155 : Cond.methodLink RL 155 yX11_again ∈ zb := bw09_9810_law_2 60 _ rfl
theorem kin_X11_again : Cond.instanceMethod yX11_again ∈ zb := bw09_9810_law_2 61 _ rfl
theorem kse_X11_again : Cond.selects RX11 yX11_again yX11_again ∈ zb := bw09_9810_law_2 62 _ rfl
theorem kcode_X11_again : Cond.code yX11_again cX11_again 2 (some .boolean) ∈ zb := bw09_9810_law_2 63 _ rfl
def R_law : String := "DownhillSongLaw"
def lw_P (b : Addr) (xs : List Int32) (args : Array Value) (s : State) : Prop := args = #[.ref b] ∧ s.IntsAt b xs ∧ xs.length ≤ 3072 ∧ (Jvm.Cond.and given_1 narrow_1).before args s = true
def lw_Q (_ : Array Value) (s : State) (o : Outcome) (t : State) : Prop := o = .returned (some (.int 1)) ∧ Framed s o t [] 600000 7302250
def lw_Z (below : List Frame) (a : Array Value) (s : State) : State → Prop := fun t => ∃ o, t.status = .running ∧ Ended t below o ∧ lw_Q a s o t
/-- the law's own end, with 1 on the stack, nothing written that was there before, its room as the claim has it -/
theorem lw_ret {p : Program} {l : Launch} {e : Env} {s : State} {m : MethodId} {below : List Frame} {meth : Method} {c : Code} {b : Nat} (hx : p.tables.exec = Jvm.exec) (hb : c.code = code) (hr : meth.sig.returnType = ret) (hlocks : meth.locks = false) {pc : Nat} {H : Heap} {ls : Array Slot} (hdg : decode code pc = .ok (.ireturn, 1)) : W p l e room_1 s m #[Value.ref b] below meth c H [] 600000 7302250 (lw_Z below #[Value.ref b] s) (F0 m pc ls [.int 1]) := by
  intro T hT X
  obtain ⟨fs, hret, hrun, hended, hW, hframe⟩ := X.leave (v := some (.int 1)) (hlocks := hlocks) (fun h => by rw [hr] at h; cases h)
  have hmeth' : T.vm.method? m = some meth := X.method'
  refine ⟨T.setFrames fs, ?_, .returned (some (.int 1)), hrun, hended, rfl, ⟨_, rfl⟩, hW, hframe⟩
  jvm_step X.here [X.here.top, hx, hb, hdg, hmeth', hr, ret, narrow_b1]
  (try refine ⟨rfl, ?_⟩); (try refine ⟨rfl, ?_⟩)
  first | (intro acts; rw [hret _ acts rfl rfl rfl]) | rw [hret _ _ rfl rfl rfl]
  exact Steps.refl _
/-- what holds at the law's entry: the machine, the code, the tables' words (any of lw_tbl by 'hts w (by decide +kernel)'), the script of L ints xs at the cell b, what the Statement gives of the start (any of its parts by flat_of_before) -/
def lw_At (p : Program) (s : State) (m : MethodId) (meth : Method) (c : Code) (b L : Nat) (xs : Nat → Int32) : Prop :=
  p.tables.exec = Jvm.exec ∧ c.code = code ∧ meth.sig.returnType = ret ∧ c.maxLocals = 4 ∧ s.vm.findClass R_law = some m.cls ∧ (∀ w ∈ lw_tbl, w.before #[Value.ref b] s = true) ∧ va_X b L xs s s.heap ∧ b < s.heap.size ∧ meth.locks = false ∧ (Jvm.Cond.and given_1 narrow_1).before #[Value.ref b] s = true
theorem ky_X10_best : zY RX10 yX10_best (Cond.code yX10_best cX10_best 5 (some .int)) 2 := ⟨rfl, kinit_10, kcode_X10_best, by decide +kernel⟩
theorem kz_X10_best : Cond.instanceMethod yX10_best ∈ zb ∧ Cond.selects RX10 yX10_best yX10_best ∈ zb := ⟨kin_X10_best, kse_X10_best⟩
theorem ky_X10_carry : zY RX10 yX10_carry (Cond.code yX10_carry cX10_carry 5 (some .int)) 3 := ⟨rfl, kinit_10, kcode_X10_carry, by decide +kernel⟩
theorem kz_X10_carry : Cond.instanceMethod yX10_carry ∈ zb ∧ Cond.selects RX10 yX10_carry yX10_carry ∈ zb := ⟨kin_X10_carry, kse_X10_carry⟩
theorem ky_X10_comes : zY RX10 yX10_comes (Cond.code yX10_comes cX10_comes 5 (some .int)) 3 := ⟨rfl, kinit_10, kcode_X10_comes, by decide +kernel⟩
theorem kz_X10_comes : Cond.instanceMethod yX10_comes ∈ zb ∧ Cond.selects RX10 yX10_comes yX10_comes ∈ zb := ⟨kin_X10_comes, kse_X10_comes⟩
theorem ky_X10_count : zY RX10 yX10_count (Cond.code yX10_count cX10_count 2 (some .int)) 1 := ⟨rfl, kinit_10, kcode_X10_count, by decide +kernel⟩
theorem kz_X10_count : Cond.instanceMethod yX10_count ∈ zb ∧ Cond.selects RX10 yX10_count yX10_count ∈ zb := ⟨kin_X10_count, kse_X10_count⟩
theorem ky_X10_deed : zY RX10 yX10_deed (Cond.code yX10_deed cX10_deed 5 (some .int)) 3 := ⟨rfl, kinit_10, kcode_X10_deed, by decide +kernel⟩
theorem kz_X10_deed : Cond.instanceMethod yX10_deed ∈ zb ∧ Cond.selects RX10 yX10_deed yX10_deed ∈ zb := ⟨kin_X10_deed, kse_X10_deed⟩
theorem ky_X10_drawn : zY RX10 yX10_drawn (Cond.code yX10_drawn cX10_drawn 6 (some .int)) 4 := ⟨rfl, kinit_10, kcode_X10_drawn, by decide +kernel⟩
theorem kz_X10_drawn : Cond.instanceMethod yX10_drawn ∈ zb ∧ Cond.selects RX10 yX10_drawn yX10_drawn ∈ zb := ⟨kin_X10_drawn, kse_X10_drawn⟩
theorem ky_X10_echo : zY RX10 yX10_echo (Cond.code yX10_echo cX10_echo 5 (some .int)) 3 := ⟨rfl, kinit_10, kcode_X10_echo, by decide +kernel⟩
theorem kz_X10_echo : Cond.instanceMethod yX10_echo ∈ zb ∧ Cond.selects RX10 yX10_echo yX10_echo ∈ zb := ⟨kin_X10_echo, kse_X10_echo⟩
theorem ky_X10_end : zY RX10 yX10_end (Cond.code yX10_end cX10_end 2 (some .int)) 1 := ⟨rfl, kinit_10, kcode_X10_end, by decide +kernel⟩
theorem kz_X10_end : Cond.instanceMethod yX10_end ∈ zb ∧ Cond.selects RX10 yX10_end yX10_end ∈ zb := ⟨kin_X10_end, kse_X10_end⟩
theorem ky_X10_fact : zY RX10 yX10_fact (Cond.code yX10_fact cX10_fact 5 (some .int)) 3 := ⟨rfl, kinit_10, kcode_X10_fact, by decide +kernel⟩
theorem kz_X10_fact : Cond.instanceMethod yX10_fact ∈ zb ∧ Cond.selects RX10 yX10_fact yX10_fact ∈ zb := ⟨kin_X10_fact, kse_X10_fact⟩
theorem ky_X10_fault : zY RX10 yX10_fault (Cond.code yX10_fault cX10_fault 2 (some .int)) 1 := ⟨rfl, kinit_10, kcode_X10_fault, by decide +kernel⟩
theorem kz_X10_fault : Cond.instanceMethod yX10_fault ∈ zb ∧ Cond.selects RX10 yX10_fault yX10_fault ∈ zb := ⟨kin_X10_fault, kse_X10_fault⟩
theorem ky_X10_feed : zY RX10 yX10_feed (Cond.code yX10_feed cX10_feed 6 (some .int)) 5 := ⟨rfl, kinit_10, kcode_X10_feed, by decide +kernel⟩
theorem kz_X10_feed : Cond.instanceMethod yX10_feed ∈ zb ∧ Cond.selects RX10 yX10_feed yX10_feed ∈ zb := ⟨kin_X10_feed, kse_X10_feed⟩
theorem ky_X10_fits : zY RX10 yX10_fits (Cond.code yX10_fits cX10_fits 7 (some .int)) 3 := ⟨rfl, kinit_10, kcode_X10_fits, by decide +kernel⟩
theorem kz_X10_fits : Cond.instanceMethod yX10_fits ∈ zb ∧ Cond.selects RX10 yX10_fits yX10_fits ∈ zb := ⟨kin_X10_fits, kse_X10_fits⟩
theorem ky_X10_flood : zY RX10 yX10_flood (Cond.code yX10_flood cX10_flood 7 (some .int)) 4 := ⟨rfl, kinit_10, kcode_X10_flood, by decide +kernel⟩
theorem kz_X10_flood : Cond.instanceMethod yX10_flood ∈ zb ∧ Cond.selects RX10 yX10_flood yX10_flood ∈ zb := ⟨kin_X10_flood, kse_X10_flood⟩
theorem ky_X10_join : zY RX10 yX10_join (Cond.code yX10_join cX10_join 6 (some .int)) 4 := ⟨rfl, kinit_10, kcode_X10_join, by decide +kernel⟩
theorem kz_X10_join : Cond.instanceMethod yX10_join ∈ zb ∧ Cond.selects RX10 yX10_join yX10_join ∈ zb := ⟨kin_X10_join, kse_X10_join⟩
theorem ky_X10_land : zY RX10 yX10_land (Cond.code yX10_land cX10_land 4 (some .int)) 2 := ⟨rfl, kinit_10, kcode_X10_land, by decide +kernel⟩
theorem kz_X10_land : Cond.instanceMethod yX10_land ∈ zb ∧ Cond.selects RX10 yX10_land yX10_land ∈ zb := ⟨kin_X10_land, kse_X10_land⟩
theorem ky_X10_masses : zY RX10 yX10_masses (Cond.code yX10_masses cX10_masses 6 (some .int)) 3 := ⟨rfl, kinit_10, kcode_X10_masses, by decide +kernel⟩
theorem kz_X10_masses : Cond.instanceMethod yX10_masses ∈ zb ∧ Cond.selects RX10 yX10_masses yX10_masses ∈ zb := ⟨kin_X10_masses, kse_X10_masses⟩
theorem ky_X10_meet : zY RX10 yX10_meet (Cond.code yX10_meet cX10_meet 6 (some .int)) 4 := ⟨rfl, kinit_10, kcode_X10_meet, by decide +kernel⟩
theorem kz_X10_meet : Cond.instanceMethod yX10_meet ∈ zb ∧ Cond.selects RX10 yX10_meet yX10_meet ∈ zb := ⟨kin_X10_meet, kse_X10_meet⟩
theorem ky_X10_mutes : zY RX10 yX10_mutes (Cond.code yX10_mutes cX10_mutes 5 (some .int)) 3 := ⟨rfl, kinit_10, kcode_X10_mutes, by decide +kernel⟩
theorem kz_X10_mutes : Cond.instanceMethod yX10_mutes ∈ zb ∧ Cond.selects RX10 yX10_mutes yX10_mutes ∈ zb := ⟨kin_X10_mutes, kse_X10_mutes⟩
theorem ky_X10_odds : zY RX10 yX10_odds (Cond.code yX10_odds cX10_odds 7 (some .long)) 3 := ⟨rfl, kinit_10, kcode_X10_odds, by decide +kernel⟩
theorem kz_X10_odds : Cond.instanceMethod yX10_odds ∈ zb ∧ Cond.selects RX10 yX10_odds yX10_odds ∈ zb := ⟨kin_X10_odds, kse_X10_odds⟩
theorem ky_X10_psalm : zY RX10 yX10_psalm (Cond.code yX10_psalm cX10_psalm 7 (some .int)) 4 := ⟨rfl, kinit_10, kcode_X10_psalm, by decide +kernel⟩
theorem kz_X10_psalm : Cond.instanceMethod yX10_psalm ∈ zb ∧ Cond.selects RX10 yX10_psalm yX10_psalm ∈ zb := ⟨kin_X10_psalm, kse_X10_psalm⟩
theorem ky_X10_routes : zY RX10 yX10_routes (Cond.code yX10_routes cX10_routes 6 (some .int)) 4 := ⟨rfl, kinit_10, kcode_X10_routes, by decide +kernel⟩
theorem kz_X10_routes : Cond.instanceMethod yX10_routes ∈ zb ∧ Cond.selects RX10 yX10_routes yX10_routes ∈ zb := ⟨kin_X10_routes, kse_X10_routes⟩
theorem ky_X10_slopes : zY RX10 yX10_slopes (Cond.code yX10_slopes cX10_slopes 4 (some .int)) 2 := ⟨rfl, kinit_10, kcode_X10_slopes, by decide +kernel⟩
theorem kz_X10_slopes : Cond.instanceMethod yX10_slopes ∈ zb ∧ Cond.selects RX10 yX10_slopes yX10_slopes ∈ zb := ⟨kin_X10_slopes, kse_X10_slopes⟩
theorem ky_X10_state : zY RX10 yX10_state (Cond.code yX10_state cX10_state 5 (some .int)) 4 := ⟨rfl, kinit_10, kcode_X10_state, by decide +kernel⟩
theorem kz_X10_state : Cond.instanceMethod yX10_state ∈ zb ∧ Cond.selects RX10 yX10_state yX10_state ∈ zb := ⟨kin_X10_state, kse_X10_state⟩
theorem ky_X10_stop : zY RX10 yX10_stop (Cond.code yX10_stop cX10_stop 5 (some .int)) 2 := ⟨rfl, kinit_10, kcode_X10_stop, by decide +kernel⟩
theorem kz_X10_stop : Cond.instanceMethod yX10_stop ∈ zb ∧ Cond.selects RX10 yX10_stop yX10_stop ∈ zb := ⟨kin_X10_stop, kse_X10_stop⟩
theorem ky_X10_teach : zY RX10 yX10_teach (Cond.code yX10_teach cX10_teach 5 (some .int)) 4 := ⟨rfl, kinit_10, kcode_X10_teach, by decide +kernel⟩
theorem kz_X10_teach : Cond.instanceMethod yX10_teach ∈ zb ∧ Cond.selects RX10 yX10_teach yX10_teach ∈ zb := ⟨kin_X10_teach, kse_X10_teach⟩
theorem ky_X10_text : zY RX10 yX10_text (Cond.code yX10_text cX10_text 5 (some .int)) 2 := ⟨rfl, kinit_10, kcode_X10_text, by decide +kernel⟩
theorem kz_X10_text : Cond.instanceMethod yX10_text ∈ zb ∧ Cond.selects RX10 yX10_text yX10_text ∈ zb := ⟨kin_X10_text, kse_X10_text⟩
theorem ky_X10_trade : zY RX10 yX10_trade (Cond.code yX10_trade cX10_trade 6 (some .int)) 4 := ⟨rfl, kinit_10, kcode_X10_trade, by decide +kernel⟩
theorem kz_X10_trade : Cond.instanceMethod yX10_trade ∈ zb ∧ Cond.selects RX10 yX10_trade yX10_trade ∈ zb := ⟨kin_X10_trade, kse_X10_trade⟩
theorem ky_X10_villages : zY RX10 yX10_villages (Cond.code yX10_villages cX10_villages 5 (some .int)) 3 := ⟨rfl, kinit_10, kcode_X10_villages, by decide +kernel⟩
theorem kz_X10_villages : Cond.instanceMethod yX10_villages ∈ zb ∧ Cond.selects RX10 yX10_villages yX10_villages ∈ zb := ⟨kin_X10_villages, kse_X10_villages⟩
theorem ky_X11_again : zY RX11 yX11_again (Cond.code yX11_again cX11_again 2 (some .boolean)) 1 := ⟨rfl, kinit_11, kcode_X11_again, by decide +kernel⟩
theorem kz_X11_again : Cond.instanceMethod yX11_again ∈ zb ∧ Cond.selects RX11 yX11_again yX11_again ∈ zb := ⟨kin_X11_again, kse_X11_again⟩
theorem ky_X11_best : zY RX11 yX11_best (Cond.code yX11_best cX11_best 7 (some .int)) 2 := ⟨rfl, kinit_11, kcode_X11_best, by decide +kernel⟩
theorem kz_X11_best : Cond.instanceMethod yX11_best ∈ zb ∧ Cond.selects RX11 yX11_best yX11_best ∈ zb := ⟨kin_X11_best, kse_X11_best⟩
theorem ky_X11_carry : zY RX11 yX11_carry (Cond.code yX11_carry cX11_carry 8 (some .int)) 3 := ⟨rfl, kinit_11, kcode_X11_carry, by decide +kernel⟩
theorem kz_X11_carry : Cond.instanceMethod yX11_carry ∈ zb ∧ Cond.selects RX11 yX11_carry yX11_carry ∈ zb := ⟨kin_X11_carry, kse_X11_carry⟩
theorem ky_X11_choir : zY RX11 yX11_choir (Cond.code yX11_choir cX11_choir 3 (some .int)) 2 := ⟨rfl, kinit_11, kcode_X11_choir, by decide +kernel⟩
theorem kz_X11_choir : Cond.instanceMethod yX11_choir ∈ zb ∧ Cond.selects RX11 yX11_choir yX11_choir ∈ zb := ⟨kin_X11_choir, kse_X11_choir⟩
theorem ky_X11_comes : zY RX11 yX11_comes (Cond.code yX11_comes cX11_comes 4 (some .int)) 3 := ⟨rfl, kinit_11, kcode_X11_comes, by decide +kernel⟩
theorem kz_X11_comes : Cond.instanceMethod yX11_comes ∈ zb ∧ Cond.selects RX11 yX11_comes yX11_comes ∈ zb := ⟨kin_X11_comes, kse_X11_comes⟩
theorem ky_X11_count : zY RX11 yX11_count (Cond.code yX11_count cX11_count 2 (some .int)) 1 := ⟨rfl, kinit_11, kcode_X11_count, by decide +kernel⟩
theorem kz_X11_count : Cond.instanceMethod yX11_count ∈ zb ∧ Cond.selects RX11 yX11_count yX11_count ∈ zb := ⟨kin_X11_count, kse_X11_count⟩
theorem ky_X11_deed : zY RX11 yX11_deed (Cond.code yX11_deed cX11_deed 4 (some .int)) 3 := ⟨rfl, kinit_11, kcode_X11_deed, by decide +kernel⟩
theorem kz_X11_deed : Cond.instanceMethod yX11_deed ∈ zb ∧ Cond.selects RX11 yX11_deed yX11_deed ∈ zb := ⟨kin_X11_deed, kse_X11_deed⟩
theorem ky_X11_drawn : zY RX11 yX11_drawn (Cond.code yX11_drawn cX11_drawn 6 (some .int)) 4 := ⟨rfl, kinit_11, kcode_X11_drawn, by decide +kernel⟩
theorem kz_X11_drawn : Cond.instanceMethod yX11_drawn ∈ zb ∧ Cond.selects RX11 yX11_drawn yX11_drawn ∈ zb := ⟨kin_X11_drawn, kse_X11_drawn⟩
theorem ky_X11_echo : zY RX11 yX11_echo (Cond.code yX11_echo cX11_echo 4 (some .int)) 3 := ⟨rfl, kinit_11, kcode_X11_echo, by decide +kernel⟩
theorem kz_X11_echo : Cond.instanceMethod yX11_echo ∈ zb ∧ Cond.selects RX11 yX11_echo yX11_echo ∈ zb := ⟨kin_X11_echo, kse_X11_echo⟩
theorem ky_X11_end : zY RX11 yX11_end (Cond.code yX11_end cX11_end 2 (some .int)) 1 := ⟨rfl, kinit_11, kcode_X11_end, by decide +kernel⟩
theorem kz_X11_end : Cond.instanceMethod yX11_end ∈ zb ∧ Cond.selects RX11 yX11_end yX11_end ∈ zb := ⟨kin_X11_end, kse_X11_end⟩
theorem ky_X11_fact : zY RX11 yX11_fact (Cond.code yX11_fact cX11_fact 4 (some .int)) 3 := ⟨rfl, kinit_11, kcode_X11_fact, by decide +kernel⟩
theorem kz_X11_fact : Cond.instanceMethod yX11_fact ∈ zb ∧ Cond.selects RX11 yX11_fact yX11_fact ∈ zb := ⟨kin_X11_fact, kse_X11_fact⟩
theorem ky_X11_fault : zY RX11 yX11_fault (Cond.code yX11_fault cX11_fault 2 (some .int)) 1 := ⟨rfl, kinit_11, kcode_X11_fault, by decide +kernel⟩
theorem kz_X11_fault : Cond.instanceMethod yX11_fault ∈ zb ∧ Cond.selects RX11 yX11_fault yX11_fault ∈ zb := ⟨kin_X11_fault, kse_X11_fault⟩
theorem ky_X11_feed : zY RX11 yX11_feed (Cond.code yX11_feed cX11_feed 6 (some .int)) 5 := ⟨rfl, kinit_11, kcode_X11_feed, by decide +kernel⟩
theorem kz_X11_feed : Cond.instanceMethod yX11_feed ∈ zb ∧ Cond.selects RX11 yX11_feed yX11_feed ∈ zb := ⟨kin_X11_feed, kse_X11_feed⟩
theorem ky_X11_fits : zY RX11 yX11_fits (Cond.code yX11_fits cX11_fits 6 (some .int)) 3 := ⟨rfl, kinit_11, kcode_X11_fits, by decide +kernel⟩
theorem kz_X11_fits : Cond.instanceMethod yX11_fits ∈ zb ∧ Cond.selects RX11 yX11_fits yX11_fits ∈ zb := ⟨kin_X11_fits, kse_X11_fits⟩
theorem ky_X11_flood : zY RX11 yX11_flood (Cond.code yX11_flood cX11_flood 8 (some .int)) 4 := ⟨rfl, kinit_11, kcode_X11_flood, by decide +kernel⟩
theorem kz_X11_flood : Cond.instanceMethod yX11_flood ∈ zb ∧ Cond.selects RX11 yX11_flood yX11_flood ∈ zb := ⟨kin_X11_flood, kse_X11_flood⟩
theorem ky_X11_image : zY RX11 yX11_image (Cond.code yX11_image cX11_image 2 (some .boolean)) 1 := ⟨rfl, kinit_11, kcode_X11_image, by decide +kernel⟩
theorem kz_X11_image : Cond.instanceMethod yX11_image ∈ zb ∧ Cond.selects RX11 yX11_image yX11_image ∈ zb := ⟨kin_X11_image, kse_X11_image⟩
theorem ky_X11_join : zY RX11 yX11_join (Cond.code yX11_join cX11_join 9 (some .int)) 4 := ⟨rfl, kinit_11, kcode_X11_join, by decide +kernel⟩
theorem kz_X11_join : Cond.instanceMethod yX11_join ∈ zb ∧ Cond.selects RX11 yX11_join yX11_join ∈ zb := ⟨kin_X11_join, kse_X11_join⟩
theorem ky_X11_land : zY RX11 yX11_land (Cond.code yX11_land cX11_land 5 (some .int)) 2 := ⟨rfl, kinit_11, kcode_X11_land, by decide +kernel⟩
theorem kz_X11_land : Cond.instanceMethod yX11_land ∈ zb ∧ Cond.selects RX11 yX11_land yX11_land ∈ zb := ⟨kin_X11_land, kse_X11_land⟩
theorem ky_X11_masses : zY RX11 yX11_masses (Cond.code yX11_masses cX11_masses 6 (some .int)) 3 := ⟨rfl, kinit_11, kcode_X11_masses, by decide +kernel⟩
theorem kz_X11_masses : Cond.instanceMethod yX11_masses ∈ zb ∧ Cond.selects RX11 yX11_masses yX11_masses ∈ zb := ⟨kin_X11_masses, kse_X11_masses⟩
theorem ky_X11_meet : zY RX11 yX11_meet (Cond.code yX11_meet cX11_meet 9 (some .int)) 4 := ⟨rfl, kinit_11, kcode_X11_meet, by decide +kernel⟩
theorem kz_X11_meet : Cond.instanceMethod yX11_meet ∈ zb ∧ Cond.selects RX11 yX11_meet yX11_meet ∈ zb := ⟨kin_X11_meet, kse_X11_meet⟩
theorem ky_X11_mutes : zY RX11 yX11_mutes (Cond.code yX11_mutes cX11_mutes 8 (some .int)) 3 := ⟨rfl, kinit_11, kcode_X11_mutes, by decide +kernel⟩
theorem kz_X11_mutes : Cond.instanceMethod yX11_mutes ∈ zb ∧ Cond.selects RX11 yX11_mutes yX11_mutes ∈ zb := ⟨kin_X11_mutes, kse_X11_mutes⟩
theorem ky_X11_odds : zY RX11 yX11_odds (Cond.code yX11_odds cX11_odds 10 (some .long)) 3 := ⟨rfl, kinit_11, kcode_X11_odds, by decide +kernel⟩
theorem kz_X11_odds : Cond.instanceMethod yX11_odds ∈ zb ∧ Cond.selects RX11 yX11_odds yX11_odds ∈ zb := ⟨kin_X11_odds, kse_X11_odds⟩
theorem ky_X11_order : zY RX11 yX11_order (Cond.code yX11_order cX11_order 7 (some .int)) 2 := ⟨rfl, kinit_11, kcode_X11_order, by decide +kernel⟩
theorem kz_X11_order : Cond.instanceMethod yX11_order ∈ zb ∧ Cond.selects RX11 yX11_order yX11_order ∈ zb := ⟨kin_X11_order, kse_X11_order⟩
theorem ky_X11_orders : zY RX11 yX11_orders (Cond.code yX11_orders cX11_orders 2 (some .long)) 1 := ⟨rfl, kinit_11, kcode_X11_orders, by decide +kernel⟩
theorem kz_X11_orders : Cond.instanceMethod yX11_orders ∈ zb ∧ Cond.selects RX11 yX11_orders yX11_orders ∈ zb := ⟨kin_X11_orders, kse_X11_orders⟩
theorem ky_X11_psalm : zY RX11 yX11_psalm (Cond.code yX11_psalm cX11_psalm 9 (some .int)) 4 := ⟨rfl, kinit_11, kcode_X11_psalm, by decide +kernel⟩
theorem kz_X11_psalm : Cond.instanceMethod yX11_psalm ∈ zb ∧ Cond.selects RX11 yX11_psalm yX11_psalm ∈ zb := ⟨kin_X11_psalm, kse_X11_psalm⟩
theorem ky_X11_routes : zY RX11 yX11_routes (Cond.code yX11_routes cX11_routes 5 (some .int)) 4 := ⟨rfl, kinit_11, kcode_X11_routes, by decide +kernel⟩
theorem kz_X11_routes : Cond.instanceMethod yX11_routes ∈ zb ∧ Cond.selects RX11 yX11_routes yX11_routes ∈ zb := ⟨kin_X11_routes, kse_X11_routes⟩
theorem ky_X11_slopes : zY RX11 yX11_slopes (Cond.code yX11_slopes cX11_slopes 10 (some .int)) 2 := ⟨rfl, kinit_11, kcode_X11_slopes, by decide +kernel⟩
theorem kz_X11_slopes : Cond.instanceMethod yX11_slopes ∈ zb ∧ Cond.selects RX11 yX11_slopes yX11_slopes ∈ zb := ⟨kin_X11_slopes, kse_X11_slopes⟩
theorem ky_X11_state : zY RX11 yX11_state (Cond.code yX11_state cX11_state 5 (some .int)) 4 := ⟨rfl, kinit_11, kcode_X11_state, by decide +kernel⟩
theorem kz_X11_state : Cond.instanceMethod yX11_state ∈ zb ∧ Cond.selects RX11 yX11_state yX11_state ∈ zb := ⟨kin_X11_state, kse_X11_state⟩
theorem ky_X11_stop : zY RX11 yX11_stop (Cond.code yX11_stop cX11_stop 3 (some .int)) 2 := ⟨rfl, kinit_11, kcode_X11_stop, by decide +kernel⟩
theorem kz_X11_stop : Cond.instanceMethod yX11_stop ∈ zb ∧ Cond.selects RX11 yX11_stop yX11_stop ∈ zb := ⟨kin_X11_stop, kse_X11_stop⟩
theorem ky_X11_teach : zY RX11 yX11_teach (Cond.code yX11_teach cX11_teach 8 (some .int)) 4 := ⟨rfl, kinit_11, kcode_X11_teach, by decide +kernel⟩
theorem kz_X11_teach : Cond.instanceMethod yX11_teach ∈ zb ∧ Cond.selects RX11 yX11_teach yX11_teach ∈ zb := ⟨kin_X11_teach, kse_X11_teach⟩
theorem ky_X11_text : zY RX11 yX11_text (Cond.code yX11_text cX11_text 4 (some .int)) 2 := ⟨rfl, kinit_11, kcode_X11_text, by decide +kernel⟩
theorem kz_X11_text : Cond.instanceMethod yX11_text ∈ zb ∧ Cond.selects RX11 yX11_text yX11_text ∈ zb := ⟨kin_X11_text, kse_X11_text⟩
theorem ky_X11_trade : zY RX11 yX11_trade (Cond.code yX11_trade cX11_trade 7 (some .int)) 4 := ⟨rfl, kinit_11, kcode_X11_trade, by decide +kernel⟩
theorem kz_X11_trade : Cond.instanceMethod yX11_trade ∈ zb ∧ Cond.selects RX11 yX11_trade yX11_trade ∈ zb := ⟨kin_X11_trade, kse_X11_trade⟩
theorem ky_X11_villages : zY RX11 yX11_villages (Cond.code yX11_villages cX11_villages 5 (some .int)) 3 := ⟨rfl, kinit_11, kcode_X11_villages, by decide +kernel⟩
theorem kz_X11_villages : Cond.instanceMethod yX11_villages ∈ zb ∧ Cond.selects RX11 yX11_villages yX11_villages ∈ zb := ⟨kin_X11_villages, kse_X11_villages⟩
theorem ky_X10_choir : zY RX10 yX10_choir (Cond.code yX10_choir cX10_choir 4 (some .int)) 2 := ⟨rfl, kinit_10, kcode_X10_choir, by decide +kernel⟩
theorem kz_X10_choir : Cond.instanceMethod yX10_choir ∈ zb ∧ Cond.selects RX10 yX10_choir yX10_choir ∈ zb := ⟨kin_X10_choir, kse_X10_choir⟩
theorem ky_X10_orders : zY RX10 yX10_orders (Cond.code yX10_orders cX10_orders 3 (some .long)) 1 := ⟨rfl, kinit_10, kcode_X10_orders, by decide +kernel⟩
theorem kz_X10_orders : Cond.instanceMethod yX10_orders ∈ zb ∧ Cond.selects RX10 yX10_orders yX10_orders ∈ zb := ⟨kin_X10_orders, kse_X10_orders⟩
theorem ky_X10_order : zY RX10 yX10_order (Cond.code yX10_order cX10_order 4 (some .int)) 2 := ⟨rfl, kinit_10, kcode_X10_order, by decide +kernel⟩
theorem kz_X10_order : Cond.instanceMethod yX10_order ∈ zb ∧ Cond.selects RX10 yX10_order yX10_order ∈ zb := ⟨kin_X10_order, kse_X10_order⟩
end
section
def xsl : Nat → Int := fun k => match k with | 0 => 0 | 1 => 0 | 2 => 0 | 3 => 0 | 4 => 0 | 5 => 1 | 6 => 0 | 7 => 0 | 8 => 0 | 9 => 0 | 10 => 0 | 11 => 0 | 12 => (-1) | 13 => 0 | 14 => 0 | 15 => 0 | 16 => 0 | 17 => (-2147483648) | 18 => (-2147483648) | 19 => (-2147483648) | 20 => (-2147483648) | 21 => (-2147483648) | 22 => 0 | 23 => 0 | 24 => (-2147483648) | _ => (-2147483648)
def xsh : Nat → Int := fun k => match k with | 0 => 9 | 1 => 6 | 2 => 511 | 3 => 511 | 4 => 4 | 5 => 9 | 6 => 10 | 7 => 40 | 8 => 10 | 9 => 9 | 10 => 9 | 11 => 4 | 12 => 600 | 13 => 600 | 14 => 600 | 15 => 4 | 16 => 600 | 17 => 2147483647 | 18 => 2147483647 | 19 => 2147483647 | 20 => 2147483647 | 21 => 2147483647 | 22 => 31 | 23 => 63 | 24 => 2147483647 | _ => 2147483647
def xal : Nat → Int := fun k => match k with | 0 => 0 | 1 => 0 | 2 => 0 | 3 => 0 | 4 => 0 | 5 => 0 | 6 => 0 | 7 => 0 | 8 => 0 | 9 => 0 | 10 => (-1) | 11 => 0 | 12 => 0 | 13 => 0 | 14 => 0 | 15 => 0 | 16 => (-2147483648) | 17 => (-128) | 18 => 0 | 19 => 0 | 20 => (-9) | 21 => (-2147483648) | 22 => 0 | 23 => 0 | 24 => 0 | 25 => (-2147483648) | 26 => 0 | 27 => 0 | 28 => 0 | 29 => (-2147483648) | 30 => (-2147483648) | 31 => (-2147483648) | 32 => 0 | 33 => (-2147483648) | 34 => (-2147483648) | _ => (-2147483648)
def xah : Nat → Int := fun k => match k with | 0 => 99 | 1 => 9 | 2 => 9 | 3 => 8 | 4 => 8 | 5 => 8 | 6 => 9 | 7 => 31 | 8 => 5 | 9 => 5 | 10 => 8 | 11 => 1 | 12 => 8 | 13 => 60 | 14 => 3 | 15 => 9 | 16 => 2147483647 | 17 => 127 | 18 => 8 | 19 => 31 | 20 => 122 | 21 => 2147483647 | 22 => 511 | 23 => 1000 | 24 => 1000 | 25 => 2147483647 | 26 => 8 | 27 => 511 | 28 => 511 | 29 => 2147483647 | 30 => 2147483647 | 31 => 2147483647 | 32 => 511 | 33 => 2147483647 | 34 => 2147483647 | _ => 2147483647
def xI (S : Nat → Int32) (V : Nat → Nat → Int32) : Prop := (∀ k, iv (xsl k) (xsh k) (S k)) ∧ (∀ k j, iv (xal k) (xah k) (V k j))
def msl : Nat → Int := fun k => match k with | 0 => 0 | 1 => (-2147483648) | 2 => (-2147483648) | 3 => (-2147483648) | 4 => (-2147483648) | 5 => (-2147483648) | 6 => (-2147483648) | 7 => (-2147483648) | 8 => (-2147483648) | 9 => (-2147483648) | 10 => (-2147483648) | 11 => (-2147483648) | 12 => 0 | 13 => 0 | 14 => 0 | 15 => (-2147483648) | 16 => 0 | 17 => (-2147483648) | 18 => (-2147483648) | 19 => (-2147483648) | 20 => (-2147483648) | 21 => 0 | 22 => (-2147483648) | _ => (-2147483648)
def msh : Nat → Int := fun k => match k with | 0 => 0 | 1 => 2147483647 | 2 => 2147483647 | 3 => 2147483647 | 4 => 2147483647 | 5 => 2147483647 | 6 => 2147483647 | 7 => 2147483647 | 8 => 2147483647 | 9 => 2147483647 | 10 => 2147483647 | 11 => 2147483647 | 12 => 1 | 13 => 9 | 14 => 6 | 15 => 2147483647 | 16 => 31 | 17 => 2147483647 | 18 => 2147483647 | 19 => 2147483647 | 20 => 2147483647 | 21 => 9 | 22 => 2147483647 | _ => 2147483647
def mal : Nat → Int := fun k => match k with | 0 => (-2147483648) | 1 => (-2147483648) | 2 => 0 | 3 => 0 | 4 => 0 | 5 => (-2147483648) | 6 => (-9) | 7 => 0 | 8 => 0 | 9 => (-2147483648) | 10 => (-2147483648) | 11 => (-2147483648) | 12 => 0 | 13 => 0 | 14 => 0 | 15 => (-2147483648) | 16 => 0 | _ => (-2147483648)
def mah : Nat → Int := fun k => match k with | 0 => 2147483647 | 1 => 2147483647 | 2 => 8 | 3 => 31 | 4 => 1 | 5 => 2147483647 | 6 => 108 | 7 => 1000000 | 8 => 511 | 9 => 2147483647 | 10 => 2147483647 | 11 => 2147483647 | 12 => 1 | 13 => 1000000 | 14 => 1000000 | 15 => 2147483647 | 16 => 1000000 | _ => 2147483647
def mI (S : Nat → Int32) (V : Nat → Nat → Int32) : Prop := (∀ k, iv (msl k) (msh k) (S k)) ∧ (∀ k j, iv (mal k) (mah k) (V k j))
def mT (M : Nat → Nat → Int32) : Prop := (∀ j, iv (-128) 127 ((M 0) j)) ∧ (∀ j, iv 0 600 ((M 1) j)) ∧ (∀ j, iv 0 2 ((M 4) j)) ∧ (mLand (M 5)) ∧ (mEve (M 6)) ∧ (mSig (M 7)) ∧ (mCho (M 8)) ∧ (∀ j, iv 0 1 ((M 9) j))
def XS (E : zE) (bx : Nat) (mi : Nat → Option Nat) (ko : Option Nat) (T : TT) (H : Heap) : Prop := ∃ (S : Nat → Int32) (V : Nat → Nat → Int32), xI S V ∧ wxW E bx (T.2 0) (T.1 0) (T.1 1) (T.1 2) (T.2 1) (T.1 3) (T.1 4) (T.1 5) (T.1 6) (T.1 7) (T.1 8) (T.1 9) (T.2 2) (T.2 3) (T.2 4) (T.2 5) (T.2 6) (T.2 7) (T.2 8) (T.2 9) (T.1 10) (T.1 11) (T.1 12) (T.1 13) (T.1 14) (T.1 15) (T.1 16) (T.2 10) (T.2 11) (T.2 12) (T.2 13) (T.2 14) (T.2 15) (T.2 16) (T.2 17) (T.1 17) (T.2 18) (T.2 19) (T.2 20) (T.1 18) (T.2 21) (T.2 22) (T.2 23) (T.1 19) (T.2 24) (T.2 25) (T.2 26) (T.1 20) (T.2 27) (T.2 28) (T.2 29) (T.1 21) (T.1 22) (T.2 30) (T.2 31) (T.1 23) (T.1 24) (T.2 32) (T.2 33) mi (S 0) (S 1) (S 2) (S 3) (S 4) (S 5) (S 6) (V 0) (V 1) (V 2) (V 3) (V 4) (V 5) (V 6) (V 7) (S 7) (V 8) (V 9) (V 10) (S 8) (V 11) (V 12) (V 13) (S 9) (S 10) (V 14) (V 15) (S 11) (S 12) (V 16) (V 17) (S 13) (S 14) (S 15) (S 16) (S 17) (S 18) (S 19) (S 20) (S 21) (S 22) (S 23) (S 24) (V 18) (V 19) (V 20) (V 21) (V 22) (V 23) (V 24) (V 25) (V 26) (V 27) (V 28) (V 29) (V 30) ko (V 31) (V 32) (V 33) (V 34) H
def IS (E : zE) (q : Nat) (T : TT) (H : Heap) : Prop := wtW E q (T.2 0) (T.1 0) (T.1 1) (T.1 2) (T.2 1) (T.1 3) (T.1 4) (T.1 5) (T.1 6) (T.1 7) (T.1 8) (T.1 9) (T.2 2) (T.2 3) (T.2 4) (T.2 5) (T.2 6) (T.2 7) (T.2 8) (T.2 9) (T.1 10) (T.1 11) (T.1 12) (T.1 13) (T.1 14) (T.1 15) (T.1 16) (T.2 10) (T.2 11) (T.2 12) (T.2 13) (T.2 14) (T.2 15) (T.2 16) (T.2 17) (T.1 17) (T.2 18) (T.2 19) (T.2 20) (T.1 18) (T.2 21) (T.2 22) (T.2 23) (T.1 19) (T.2 24) (T.2 25) (T.2 26) (T.1 20) (T.2 27) (T.2 28) (T.2 29) (T.1 21) (T.1 22) (T.2 30) (T.2 31) (T.1 23) (T.1 24) (T.2 32) (T.2 33) H
def MS (E : zE) (bm : Nat) (M : Nat → Nat → Int32) (H : Heap) : Prop := ∃ (S : Nat → Int32) (V : Nat → Nat → Int32) (f_word : Int64) (a_rest : Nat → Int64), mI S V ∧ mW E bm (S 0) (M 0) (M 1) (M 2) (M 3) (M 4) (M 5) (M 6) (M 7) (M 8) (S 1) (S 2) (S 3) (S 4) (S 5) f_word (S 6) (S 7) (S 8) (V 0) (V 1) (S 9) (S 10) (S 11) (S 12) (S 13) (S 14) (S 15) (V 2) (V 3) (V 4) (V 5) (V 6) (S 16) (S 17) (S 18) (V 7) (V 8) (V 9) (V 10) (V 11) (V 12) (V 13) (S 19) (V 14) (S 20) (S 21) a_rest (V 15) (S 22) (V 16) (M 9) H
def TS (E : zE) (t : Nat) (H : Heap) : Prop := ∃ z, k0T E t z H
set_option maxRecDepth 40000 in
set_option maxHeartbeats 4000000 in
theorem XS_of {E : zE} {bx : Nat} {mi : Nat → Option Nat} {ko : Option Nat} {T : TT} {H : Heap} {rlf_huts : Int32} {rlf_singers : Int32} {rlf_villages : Int32} {rlf_dams : Int32} {rlf_echoes : Int32} {rlf_deep : Int32} {rlf_slide : Int32} {rla_heights : Nat → Int32} {rla_ladders : Nat → Int32} {rla_minutes : Nat → Int32} {rla_echoFrom : Nat → Int32} {rla_echoTo : Nat → Int32} {rla_homes : Nat → Int32} {rla_talls : Nat → Int32} {rla_known : Nat → Int32} {rvf_deeds : Int32} {rva_kinds : Nat → Int32} {rva_firsts : Nat → Int32} {rva_seconds : Nat → Int32} {rsf_facts : Int32} {rsa_heard : Nat → Int32} {rsa_huts : Nat → Int32} {rsa_minutes : Nat → Int32} {rcf_voices : Int32} {rcf_step : Int32} {rca_parts : Nat → Int32} {rca_heights : Nat → Int32} {rf_fault : Int32} {rf_faultPlace : Int32} {ra_numbers : Nat → Int32} {ra_tape : Nat → Int32} {rf_length : Int32} {rf_behind : Int32} {rf_kind : Int32} {rf_first : Int32} {rf_value : Int32} {rf_hutsToldOf : Int32} {rf_singersToldOf : Int32} {nf_minute : Int32} {nf_avalanches : Int32} {nf_begun : Int32} {nf_climbed : Int32} {nf_seed : Int32} {na_huts : Nat → Int32} {na_known : Nat → Int32} {na_levels : Nat → Int32} {na_snow : Nat → Int32} {na_open : Nat → Int32} {pa_heard : Nat → Int32} {pa_walked : Nat → Int32} {pa_total : Nat → Int32} {pa_longest : Nat → Int32} {pa_next : Nat → Int32} {pa_cover : Nat → Int32} {pa_now : Nat → Int32} {pa_then : Nat → Int32} {ka_gaps : Nat → Int32} {ka_behind : Nat → Int32} {ba_less : Nat → Int32} {ba_full : Nat → Int32} (hX : wxW E bx (T.2 0) (T.1 0) (T.1 1) (T.1 2) (T.2 1) (T.1 3) (T.1 4) (T.1 5) (T.1 6) (T.1 7) (T.1 8) (T.1 9) (T.2 2) (T.2 3) (T.2 4) (T.2 5) (T.2 6) (T.2 7) (T.2 8) (T.2 9) (T.1 10) (T.1 11) (T.1 12) (T.1 13) (T.1 14) (T.1 15) (T.1 16) (T.2 10) (T.2 11) (T.2 12) (T.2 13) (T.2 14) (T.2 15) (T.2 16) (T.2 17) (T.1 17) (T.2 18) (T.2 19) (T.2 20) (T.1 18) (T.2 21) (T.2 22) (T.2 23) (T.1 19) (T.2 24) (T.2 25) (T.2 26) (T.1 20) (T.2 27) (T.2 28) (T.2 29) (T.1 21) (T.1 22) (T.2 30) (T.2 31) (T.1 23) (T.1 24) (T.2 32) (T.2 33) mi rlf_huts rlf_singers rlf_villages rlf_dams rlf_echoes rlf_deep rlf_slide rla_heights rla_ladders rla_minutes rla_echoFrom rla_echoTo rla_homes rla_talls rla_known rvf_deeds rva_kinds rva_firsts rva_seconds rsf_facts rsa_heard rsa_huts rsa_minutes rcf_voices rcf_step rca_parts rca_heights rf_fault rf_faultPlace ra_numbers ra_tape rf_length rf_behind rf_kind rf_first rf_value rf_hutsToldOf rf_singersToldOf nf_minute nf_avalanches nf_begun nf_climbed nf_seed na_huts na_known na_levels na_snow na_open pa_heard pa_walked pa_total pa_longest pa_next pa_cover pa_now pa_then ko ka_gaps ka_behind ba_less ba_full H) (k_rlf_huts : iv 0 9 rlf_huts) (k_rlf_singers : iv 0 6 rlf_singers) (k_rlf_villages : iv 0 511 rlf_villages) (k_rlf_dams : iv 0 511 rlf_dams) (k_rlf_echoes : iv 0 4 rlf_echoes) (k_rlf_deep : iv 1 9 rlf_deep) (k_rlf_slide : iv 0 10 rlf_slide) (k_rla_heights : ∀ j, iv 0 99 (rla_heights j)) (k_rla_ladders : ∀ j, iv 0 9 (rla_ladders j)) (k_rla_minutes : ∀ j, iv 0 9 (rla_minutes j)) (k_rla_echoFrom : ∀ j, iv 0 8 (rla_echoFrom j)) (k_rla_echoTo : ∀ j, iv 0 8 (rla_echoTo j)) (k_rla_homes : ∀ j, iv 0 8 (rla_homes j)) (k_rla_talls : ∀ j, iv 0 9 (rla_talls j)) (k_rla_known : ∀ j, iv 0 31 (rla_known j)) (k_rvf_deeds : iv 0 40 rvf_deeds) (k_rva_kinds : ∀ j, iv 0 5 (rva_kinds j)) (k_rva_firsts : ∀ j, iv 0 5 (rva_firsts j)) (k_rva_seconds : ∀ j, iv (-1) 8 (rva_seconds j)) (k_rsf_facts : iv 0 10 rsf_facts) (k_rsa_heard : ∀ j, iv 0 1 (rsa_heard j)) (k_rsa_huts : ∀ j, iv 0 8 (rsa_huts j)) (k_rsa_minutes : ∀ j, iv 0 60 (rsa_minutes j)) (k_rcf_voices : iv 0 9 rcf_voices) (k_rcf_step : iv 0 9 rcf_step) (k_rca_parts : ∀ j, iv 0 3 (rca_parts j)) (k_rca_heights : ∀ j, iv 0 9 (rca_heights j)) (k_rf_fault : iv 0 4 rf_fault) (k_rf_faultPlace : iv (-1) 600 rf_faultPlace) (k_ra_tape : ∀ j, iv (-128) 127 (ra_tape j)) (k_rf_length : iv 0 600 rf_length) (k_rf_behind : iv 0 600 rf_behind) (k_rf_kind : iv 0 4 rf_kind) (k_rf_first : iv 0 600 rf_first) (k_nf_begun : iv 0 31 nf_begun) (k_nf_climbed : iv 0 63 nf_climbed) (k_na_huts : ∀ j, iv 0 8 (na_huts j)) (k_na_known : ∀ j, iv 0 31 (na_known j)) (k_na_levels : ∀ j, iv (-9) 122 (na_levels j)) (k_na_open : ∀ j, iv 0 511 (na_open j)) (k_pa_heard : ∀ j, iv 0 1000 (pa_heard j)) (k_pa_walked : ∀ j, iv 0 1000 (pa_walked j)) (k_pa_longest : ∀ j, iv 0 8 (pa_longest j)) (k_pa_next : ∀ j, iv 0 511 (pa_next j)) (k_pa_cover : ∀ j, iv 0 511 (pa_cover j)) (k_ka_behind : ∀ j, iv 0 511 (ka_behind j)) : XS E bx mi ko T H :=
  ⟨fun k => match k with | 0 => rlf_huts | 1 => rlf_singers | 2 => rlf_villages | 3 => rlf_dams | 4 => rlf_echoes | 5 => rlf_deep | 6 => rlf_slide | 7 => rvf_deeds | 8 => rsf_facts | 9 => rcf_voices | 10 => rcf_step | 11 => rf_fault | 12 => rf_faultPlace | 13 => rf_length | 14 => rf_behind | 15 => rf_kind | 16 => rf_first | 17 => rf_value | 18 => rf_hutsToldOf | 19 => rf_singersToldOf | 20 => nf_minute | 21 => nf_avalanches | 22 => nf_begun | 23 => nf_climbed | 24 => nf_seed | _ => 0, fun k => match k with | 0 => rla_heights | 1 => rla_ladders | 2 => rla_minutes | 3 => rla_echoFrom | 4 => rla_echoTo | 5 => rla_homes | 6 => rla_talls | 7 => rla_known | 8 => rva_kinds | 9 => rva_firsts | 10 => rva_seconds | 11 => rsa_heard | 12 => rsa_huts | 13 => rsa_minutes | 14 => rca_parts | 15 => rca_heights | 16 => ra_numbers | 17 => ra_tape | 18 => na_huts | 19 => na_known | 20 => na_levels | 21 => na_snow | 22 => na_open | 23 => pa_heard | 24 => pa_walked | 25 => pa_total | 26 => pa_longest | 27 => pa_next | 28 => pa_cover | 29 => pa_now | 30 => pa_then | 31 => ka_gaps | 32 => ka_behind | 33 => ba_less | 34 => ba_full | _ => fun _ => 0, ⟨fun k => match k with | 0 => k_rlf_huts | 1 => k_rlf_singers | 2 => k_rlf_villages | 3 => k_rlf_dams | 4 => k_rlf_echoes | 5 => k_rlf_deep | 6 => k_rlf_slide | 7 => k_rvf_deeds | 8 => k_rsf_facts | 9 => k_rcf_voices | 10 => k_rcf_step | 11 => k_rf_fault | 12 => k_rf_faultPlace | 13 => k_rf_length | 14 => k_rf_behind | 15 => k_rf_kind | 16 => k_rf_first | 17 => iv_top _ | 18 => iv_top _ | 19 => iv_top _ | 20 => iv_top _ | 21 => iv_top _ | 22 => k_nf_begun | 23 => k_nf_climbed | 24 => iv_top _ | k + 25 => iv_top _, fun k j => match k with | 0 => k_rla_heights j | 1 => k_rla_ladders j | 2 => k_rla_minutes j | 3 => k_rla_echoFrom j | 4 => k_rla_echoTo j | 5 => k_rla_homes j | 6 => k_rla_talls j | 7 => k_rla_known j | 8 => k_rva_kinds j | 9 => k_rva_firsts j | 10 => k_rva_seconds j | 11 => k_rsa_heard j | 12 => k_rsa_huts j | 13 => k_rsa_minutes j | 14 => k_rca_parts j | 15 => k_rca_heights j | 16 => iv_top _ | 17 => k_ra_tape j | 18 => k_na_huts j | 19 => k_na_known j | 20 => k_na_levels j | 21 => iv_top _ | 22 => k_na_open j | 23 => k_pa_heard j | 24 => k_pa_walked j | 25 => iv_top _ | 26 => k_pa_longest j | 27 => k_pa_next j | 28 => k_pa_cover j | 29 => iv_top _ | 30 => iv_top _ | 31 => iv_top _ | 32 => k_ka_behind j | 33 => iv_top _ | 34 => iv_top _ | k + 35 => iv_top _⟩, hX⟩
set_option maxRecDepth 40000 in
set_option maxHeartbeats 4000000 in
theorem XS_of2 {E : zE} {bx : Nat} {mi : Nat → Option Nat} {ko : Option Nat} {H : Heap} {ta_tape : Nat → Int32} {tf_length : Int32} {tf_fault : Int32} {tf_place : Int32} {ta_counts : Nat → Int32} {tl0f_huts : Int32} {tl0f_singers : Int32} {tl0f_villages : Int32} {tl0f_dams : Int32} {tl0f_echoes : Int32} {tl0f_deep : Int32} {tl0f_slide : Int32} {tl0a_heights : Nat → Int32} {tl0a_ladders : Nat → Int32} {tl0a_minutes : Nat → Int32} {tl0a_echoFrom : Nat → Int32} {tl0a_echoTo : Nat → Int32} {tl0a_homes : Nat → Int32} {tl0a_talls : Nat → Int32} {tl0a_known : Nat → Int32} {tl1f_huts : Int32} {tl1f_singers : Int32} {tl1f_villages : Int32} {tl1f_dams : Int32} {tl1f_echoes : Int32} {tl1f_deep : Int32} {tl1f_slide : Int32} {tl1a_heights : Nat → Int32} {tl1a_ladders : Nat → Int32} {tl1a_minutes : Nat → Int32} {tl1a_echoFrom : Nat → Int32} {tl1a_echoTo : Nat → Int32} {tl1a_homes : Nat → Int32} {tl1a_talls : Nat → Int32} {tl1a_known : Nat → Int32} {tv0f_deeds : Int32} {tv0a_kinds : Nat → Int32} {tv0a_firsts : Nat → Int32} {tv0a_seconds : Nat → Int32} {tv1f_deeds : Int32} {tv1a_kinds : Nat → Int32} {tv1a_firsts : Nat → Int32} {tv1a_seconds : Nat → Int32} {ts0f_facts : Int32} {ts0a_heard : Nat → Int32} {ts0a_huts : Nat → Int32} {ts0a_minutes : Nat → Int32} {ts1f_facts : Int32} {ts1a_heard : Nat → Int32} {ts1a_huts : Nat → Int32} {ts1a_minutes : Nat → Int32} {tc0f_voices : Int32} {tc0f_step : Int32} {tc0a_parts : Nat → Int32} {tc0a_heights : Nat → Int32} {tc1f_voices : Int32} {tc1f_step : Int32} {tc1a_parts : Nat → Int32} {tc1a_heights : Nat → Int32} {rlf_huts : Int32} {rlf_singers : Int32} {rlf_villages : Int32} {rlf_dams : Int32} {rlf_echoes : Int32} {rlf_deep : Int32} {rlf_slide : Int32} {rla_heights : Nat → Int32} {rla_ladders : Nat → Int32} {rla_minutes : Nat → Int32} {rla_echoFrom : Nat → Int32} {rla_echoTo : Nat → Int32} {rla_homes : Nat → Int32} {rla_talls : Nat → Int32} {rla_known : Nat → Int32} {rvf_deeds : Int32} {rva_kinds : Nat → Int32} {rva_firsts : Nat → Int32} {rva_seconds : Nat → Int32} {rsf_facts : Int32} {rsa_heard : Nat → Int32} {rsa_huts : Nat → Int32} {rsa_minutes : Nat → Int32} {rcf_voices : Int32} {rcf_step : Int32} {rca_parts : Nat → Int32} {rca_heights : Nat → Int32} {rf_fault : Int32} {rf_faultPlace : Int32} {ra_numbers : Nat → Int32} {ra_tape : Nat → Int32} {rf_length : Int32} {rf_behind : Int32} {rf_kind : Int32} {rf_first : Int32} {rf_value : Int32} {rf_hutsToldOf : Int32} {rf_singersToldOf : Int32} {nf_minute : Int32} {nf_avalanches : Int32} {nf_begun : Int32} {nf_climbed : Int32} {nf_seed : Int32} {na_huts : Nat → Int32} {na_known : Nat → Int32} {na_levels : Nat → Int32} {na_snow : Nat → Int32} {na_open : Nat → Int32} {pa_heard : Nat → Int32} {pa_walked : Nat → Int32} {pa_total : Nat → Int32} {pa_longest : Nat → Int32} {pa_next : Nat → Int32} {pa_cover : Nat → Int32} {pa_now : Nat → Int32} {pa_then : Nat → Int32} {ka_gaps : Nat → Int32} {ka_behind : Nat → Int32} {ba_less : Nat → Int32} {ba_full : Nat → Int32} (hX : wxW E bx ta_tape tf_length tf_fault tf_place ta_counts tl0f_huts tl0f_singers tl0f_villages tl0f_dams tl0f_echoes tl0f_deep tl0f_slide tl0a_heights tl0a_ladders tl0a_minutes tl0a_echoFrom tl0a_echoTo tl0a_homes tl0a_talls tl0a_known tl1f_huts tl1f_singers tl1f_villages tl1f_dams tl1f_echoes tl1f_deep tl1f_slide tl1a_heights tl1a_ladders tl1a_minutes tl1a_echoFrom tl1a_echoTo tl1a_homes tl1a_talls tl1a_known tv0f_deeds tv0a_kinds tv0a_firsts tv0a_seconds tv1f_deeds tv1a_kinds tv1a_firsts tv1a_seconds ts0f_facts ts0a_heard ts0a_huts ts0a_minutes ts1f_facts ts1a_heard ts1a_huts ts1a_minutes tc0f_voices tc0f_step tc0a_parts tc0a_heights tc1f_voices tc1f_step tc1a_parts tc1a_heights mi rlf_huts rlf_singers rlf_villages rlf_dams rlf_echoes rlf_deep rlf_slide rla_heights rla_ladders rla_minutes rla_echoFrom rla_echoTo rla_homes rla_talls rla_known rvf_deeds rva_kinds rva_firsts rva_seconds rsf_facts rsa_heard rsa_huts rsa_minutes rcf_voices rcf_step rca_parts rca_heights rf_fault rf_faultPlace ra_numbers ra_tape rf_length rf_behind rf_kind rf_first rf_value rf_hutsToldOf rf_singersToldOf nf_minute nf_avalanches nf_begun nf_climbed nf_seed na_huts na_known na_levels na_snow na_open pa_heard pa_walked pa_total pa_longest pa_next pa_cover pa_now pa_then ko ka_gaps ka_behind ba_less ba_full H) (k_rlf_huts : iv 0 9 rlf_huts) (k_rlf_singers : iv 0 6 rlf_singers) (k_rlf_villages : iv 0 511 rlf_villages) (k_rlf_dams : iv 0 511 rlf_dams) (k_rlf_echoes : iv 0 4 rlf_echoes) (k_rlf_deep : iv 1 9 rlf_deep) (k_rlf_slide : iv 0 10 rlf_slide) (k_rla_heights : ∀ j, iv 0 99 (rla_heights j)) (k_rla_ladders : ∀ j, iv 0 9 (rla_ladders j)) (k_rla_minutes : ∀ j, iv 0 9 (rla_minutes j)) (k_rla_echoFrom : ∀ j, iv 0 8 (rla_echoFrom j)) (k_rla_echoTo : ∀ j, iv 0 8 (rla_echoTo j)) (k_rla_homes : ∀ j, iv 0 8 (rla_homes j)) (k_rla_talls : ∀ j, iv 0 9 (rla_talls j)) (k_rla_known : ∀ j, iv 0 31 (rla_known j)) (k_rvf_deeds : iv 0 40 rvf_deeds) (k_rva_kinds : ∀ j, iv 0 5 (rva_kinds j)) (k_rva_firsts : ∀ j, iv 0 5 (rva_firsts j)) (k_rva_seconds : ∀ j, iv (-1) 8 (rva_seconds j)) (k_rsf_facts : iv 0 10 rsf_facts) (k_rsa_heard : ∀ j, iv 0 1 (rsa_heard j)) (k_rsa_huts : ∀ j, iv 0 8 (rsa_huts j)) (k_rsa_minutes : ∀ j, iv 0 60 (rsa_minutes j)) (k_rcf_voices : iv 0 9 rcf_voices) (k_rcf_step : iv 0 9 rcf_step) (k_rca_parts : ∀ j, iv 0 3 (rca_parts j)) (k_rca_heights : ∀ j, iv 0 9 (rca_heights j)) (k_rf_fault : iv 0 4 rf_fault) (k_rf_faultPlace : iv (-1) 600 rf_faultPlace) (k_ra_tape : ∀ j, iv (-128) 127 (ra_tape j)) (k_rf_length : iv 0 600 rf_length) (k_rf_behind : iv 0 600 rf_behind) (k_rf_kind : iv 0 4 rf_kind) (k_rf_first : iv 0 600 rf_first) (k_nf_begun : iv 0 31 nf_begun) (k_nf_climbed : iv 0 63 nf_climbed) (k_na_huts : ∀ j, iv 0 8 (na_huts j)) (k_na_known : ∀ j, iv 0 31 (na_known j)) (k_na_levels : ∀ j, iv (-9) 122 (na_levels j)) (k_na_open : ∀ j, iv 0 511 (na_open j)) (k_pa_heard : ∀ j, iv 0 1000 (pa_heard j)) (k_pa_walked : ∀ j, iv 0 1000 (pa_walked j)) (k_pa_longest : ∀ j, iv 0 8 (pa_longest j)) (k_pa_next : ∀ j, iv 0 511 (pa_next j)) (k_pa_cover : ∀ j, iv 0 511 (pa_cover j)) (k_ka_behind : ∀ j, iv 0 511 (ka_behind j)) : XS E bx mi ko (tmk ta_tape tf_length tf_fault tf_place ta_counts tl0f_huts tl0f_singers tl0f_villages tl0f_dams tl0f_echoes tl0f_deep tl0f_slide tl0a_heights tl0a_ladders tl0a_minutes tl0a_echoFrom tl0a_echoTo tl0a_homes tl0a_talls tl0a_known tl1f_huts tl1f_singers tl1f_villages tl1f_dams tl1f_echoes tl1f_deep tl1f_slide tl1a_heights tl1a_ladders tl1a_minutes tl1a_echoFrom tl1a_echoTo tl1a_homes tl1a_talls tl1a_known tv0f_deeds tv0a_kinds tv0a_firsts tv0a_seconds tv1f_deeds tv1a_kinds tv1a_firsts tv1a_seconds ts0f_facts ts0a_heard ts0a_huts ts0a_minutes ts1f_facts ts1a_heard ts1a_huts ts1a_minutes tc0f_voices tc0f_step tc0a_parts tc0a_heights tc1f_voices tc1f_step tc1a_parts tc1a_heights) H := XS_of (T := tmk ta_tape tf_length tf_fault tf_place ta_counts tl0f_huts tl0f_singers tl0f_villages tl0f_dams tl0f_echoes tl0f_deep tl0f_slide tl0a_heights tl0a_ladders tl0a_minutes tl0a_echoFrom tl0a_echoTo tl0a_homes tl0a_talls tl0a_known tl1f_huts tl1f_singers tl1f_villages tl1f_dams tl1f_echoes tl1f_deep tl1f_slide tl1a_heights tl1a_ladders tl1a_minutes tl1a_echoFrom tl1a_echoTo tl1a_homes tl1a_talls tl1a_known tv0f_deeds tv0a_kinds tv0a_firsts tv0a_seconds tv1f_deeds tv1a_kinds tv1a_firsts tv1a_seconds ts0f_facts ts0a_heard ts0a_huts ts0a_minutes ts1f_facts ts1a_heard ts1a_huts ts1a_minutes tc0f_voices tc0f_step tc0a_parts tc0a_heights tc1f_voices tc1f_step tc1a_parts tc1a_heights) hX k_rlf_huts k_rlf_singers k_rlf_villages k_rlf_dams k_rlf_echoes k_rlf_deep k_rlf_slide k_rla_heights k_rla_ladders k_rla_minutes k_rla_echoFrom k_rla_echoTo k_rla_homes k_rla_talls k_rla_known k_rvf_deeds k_rva_kinds k_rva_firsts k_rva_seconds k_rsf_facts k_rsa_heard k_rsa_huts k_rsa_minutes k_rcf_voices k_rcf_step k_rca_parts k_rca_heights k_rf_fault k_rf_faultPlace k_ra_tape k_rf_length k_rf_behind k_rf_kind k_rf_first k_nf_begun k_nf_climbed k_na_huts k_na_known k_na_levels k_na_open k_pa_heard k_pa_walked k_pa_longest k_pa_next k_pa_cover k_ka_behind
set_option maxRecDepth 40000 in
set_option maxHeartbeats 4000000 in
theorem tJ_of {a_tape : Nat → Int32} {f_length : Int32} {f_fault : Int32} {f_place : Int32} {a_counts : Nat → Int32} {l0f_huts : Int32} {l0f_singers : Int32} {l0f_villages : Int32} {l0f_dams : Int32} {l0f_echoes : Int32} {l0f_deep : Int32} {l0f_slide : Int32} {l0a_heights : Nat → Int32} {l0a_ladders : Nat → Int32} {l0a_minutes : Nat → Int32} {l0a_echoFrom : Nat → Int32} {l0a_echoTo : Nat → Int32} {l0a_homes : Nat → Int32} {l0a_talls : Nat → Int32} {l0a_known : Nat → Int32} {l1f_huts : Int32} {l1f_singers : Int32} {l1f_villages : Int32} {l1f_dams : Int32} {l1f_echoes : Int32} {l1f_deep : Int32} {l1f_slide : Int32} {l1a_heights : Nat → Int32} {l1a_ladders : Nat → Int32} {l1a_minutes : Nat → Int32} {l1a_echoFrom : Nat → Int32} {l1a_echoTo : Nat → Int32} {l1a_homes : Nat → Int32} {l1a_talls : Nat → Int32} {l1a_known : Nat → Int32} {v0f_deeds : Int32} {v0a_kinds : Nat → Int32} {v0a_firsts : Nat → Int32} {v0a_seconds : Nat → Int32} {v1f_deeds : Int32} {v1a_kinds : Nat → Int32} {v1a_firsts : Nat → Int32} {v1a_seconds : Nat → Int32} {s0f_facts : Int32} {s0a_heard : Nat → Int32} {s0a_huts : Nat → Int32} {s0a_minutes : Nat → Int32} {s1f_facts : Int32} {s1a_heard : Nat → Int32} {s1a_huts : Nat → Int32} {s1a_minutes : Nat → Int32} {c0f_voices : Int32} {c0f_step : Int32} {c0a_parts : Nat → Int32} {c0a_heights : Nat → Int32} {c1f_voices : Int32} {c1f_step : Int32} {c1a_parts : Nat → Int32} {c1a_heights : Nat → Int32} (k_a_tape : ∀ j, iv (-128) 127 (a_tape j)) (k_f_length : iv 0 600 f_length) (k_f_fault : iv 0 4 f_fault) (k_f_place : iv (-1) 600 f_place) (k_a_counts : ∀ j, iv 0 2 (a_counts j)) (k_l0f_huts : iv 0 9 l0f_huts) (k_l0f_singers : iv 0 6 l0f_singers) (k_l0f_villages : iv 0 511 l0f_villages) (k_l0f_dams : iv 0 511 l0f_dams) (k_l0f_echoes : iv 0 4 l0f_echoes) (k_l0f_deep : iv 1 9 l0f_deep) (k_l0f_slide : iv 0 10 l0f_slide) (k_l0a_heights : ∀ j, iv 0 99 (l0a_heights j)) (k_l0a_ladders : ∀ j, iv 0 9 (l0a_ladders j)) (k_l0a_minutes : ∀ j, iv 0 9 (l0a_minutes j)) (k_l0a_echoFrom : ∀ j, iv 0 8 (l0a_echoFrom j)) (k_l0a_echoTo : ∀ j, iv 0 8 (l0a_echoTo j)) (k_l0a_homes : ∀ j, iv 0 8 (l0a_homes j)) (k_l0a_talls : ∀ j, iv 0 9 (l0a_talls j)) (k_l0a_known : ∀ j, iv 0 31 (l0a_known j)) (k_l1f_huts : iv 0 9 l1f_huts) (k_l1f_singers : iv 0 6 l1f_singers) (k_l1f_villages : iv 0 511 l1f_villages) (k_l1f_dams : iv 0 511 l1f_dams) (k_l1f_echoes : iv 0 4 l1f_echoes) (k_l1f_deep : iv 1 9 l1f_deep) (k_l1f_slide : iv 0 10 l1f_slide) (k_l1a_heights : ∀ j, iv 0 99 (l1a_heights j)) (k_l1a_ladders : ∀ j, iv 0 9 (l1a_ladders j)) (k_l1a_minutes : ∀ j, iv 0 9 (l1a_minutes j)) (k_l1a_echoFrom : ∀ j, iv 0 8 (l1a_echoFrom j)) (k_l1a_echoTo : ∀ j, iv 0 8 (l1a_echoTo j)) (k_l1a_homes : ∀ j, iv 0 8 (l1a_homes j)) (k_l1a_talls : ∀ j, iv 0 9 (l1a_talls j)) (k_l1a_known : ∀ j, iv 0 31 (l1a_known j)) (k_v0f_deeds : iv 0 40 v0f_deeds) (k_v0a_kinds : ∀ j, iv 0 5 (v0a_kinds j)) (k_v0a_firsts : ∀ j, iv 0 5 (v0a_firsts j)) (k_v0a_seconds : ∀ j, iv (-1) 8 (v0a_seconds j)) (k_v1f_deeds : iv 0 40 v1f_deeds) (k_v1a_kinds : ∀ j, iv 0 5 (v1a_kinds j)) (k_v1a_firsts : ∀ j, iv 0 5 (v1a_firsts j)) (k_v1a_seconds : ∀ j, iv (-1) 8 (v1a_seconds j)) (k_s0f_facts : iv 0 10 s0f_facts) (k_s0a_heard : ∀ j, iv 0 1 (s0a_heard j)) (k_s0a_huts : ∀ j, iv 0 8 (s0a_huts j)) (k_s0a_minutes : ∀ j, iv 0 60 (s0a_minutes j)) (k_s1f_facts : iv 0 10 s1f_facts) (k_s1a_heard : ∀ j, iv 0 1 (s1a_heard j)) (k_s1a_huts : ∀ j, iv 0 8 (s1a_huts j)) (k_s1a_minutes : ∀ j, iv 0 60 (s1a_minutes j)) (k_c0f_voices : iv 0 9 c0f_voices) (k_c0f_step : iv 0 9 c0f_step) (k_c0a_parts : ∀ j, iv 0 3 (c0a_parts j)) (k_c0a_heights : ∀ j, iv 0 9 (c0a_heights j)) (k_c1f_voices : iv 0 9 c1f_voices) (k_c1f_step : iv 0 9 c1f_step) (k_c1a_parts : ∀ j, iv 0 3 (c1a_parts j)) (k_c1a_heights : ∀ j, iv 0 9 (c1a_heights j)) : tJ (tmk a_tape f_length f_fault f_place a_counts l0f_huts l0f_singers l0f_villages l0f_dams l0f_echoes l0f_deep l0f_slide l0a_heights l0a_ladders l0a_minutes l0a_echoFrom l0a_echoTo l0a_homes l0a_talls l0a_known l1f_huts l1f_singers l1f_villages l1f_dams l1f_echoes l1f_deep l1f_slide l1a_heights l1a_ladders l1a_minutes l1a_echoFrom l1a_echoTo l1a_homes l1a_talls l1a_known v0f_deeds v0a_kinds v0a_firsts v0a_seconds v1f_deeds v1a_kinds v1a_firsts v1a_seconds s0f_facts s0a_heard s0a_huts s0a_minutes s1f_facts s1a_heard s1a_huts s1a_minutes c0f_voices c0f_step c0a_parts c0a_heights c1f_voices c1f_step c1a_parts c1a_heights) :=
  ⟨fun k => match k with | 0 => k_f_length | 1 => k_f_fault | 2 => k_f_place | 3 => k_l0f_huts | 4 => k_l0f_singers | 5 => k_l0f_villages | 6 => k_l0f_dams | 7 => k_l0f_echoes | 8 => k_l0f_deep | 9 => k_l0f_slide | 10 => k_l1f_huts | 11 => k_l1f_singers | 12 => k_l1f_villages | 13 => k_l1f_dams | 14 => k_l1f_echoes | 15 => k_l1f_deep | 16 => k_l1f_slide | 17 => k_v0f_deeds | 18 => k_v1f_deeds | 19 => k_s0f_facts | 20 => k_s1f_facts | 21 => k_c0f_voices | 22 => k_c0f_step | 23 => k_c1f_voices | 24 => k_c1f_step | k + 25 => iv_top _, fun k j => match k with | 0 => k_a_tape j | 1 => k_a_counts j | 2 => k_l0a_heights j | 3 => k_l0a_ladders j | 4 => k_l0a_minutes j | 5 => k_l0a_echoFrom j | 6 => k_l0a_echoTo j | 7 => k_l0a_homes j | 8 => k_l0a_talls j | 9 => k_l0a_known j | 10 => k_l1a_heights j | 11 => k_l1a_ladders j | 12 => k_l1a_minutes j | 13 => k_l1a_echoFrom j | 14 => k_l1a_echoTo j | 15 => k_l1a_homes j | 16 => k_l1a_talls j | 17 => k_l1a_known j | 18 => k_v0a_kinds j | 19 => k_v0a_firsts j | 20 => k_v0a_seconds j | 21 => k_v1a_kinds j | 22 => k_v1a_firsts j | 23 => k_v1a_seconds j | 24 => k_s0a_heard j | 25 => k_s0a_huts j | 26 => k_s0a_minutes j | 27 => k_s1a_heard j | 28 => k_s1a_huts j | 29 => k_s1a_minutes j | 30 => k_c0a_parts j | 31 => k_c0a_heights j | 32 => k_c1a_parts j | 33 => k_c1a_heights j | k + 34 => iv_top _⟩
set_option maxRecDepth 40000 in
set_option maxHeartbeats 4000000 in
theorem tJ_g {a_tape : Nat → Int32} {f_length : Int32} {f_fault : Int32} {f_place : Int32} {a_counts : Nat → Int32} {l0f_huts : Int32} {l0f_singers : Int32} {l0f_villages : Int32} {l0f_dams : Int32} {l0f_echoes : Int32} {l0f_deep : Int32} {l0f_slide : Int32} {l0a_heights : Nat → Int32} {l0a_ladders : Nat → Int32} {l0a_minutes : Nat → Int32} {l0a_echoFrom : Nat → Int32} {l0a_echoTo : Nat → Int32} {l0a_homes : Nat → Int32} {l0a_talls : Nat → Int32} {l0a_known : Nat → Int32} {l1f_huts : Int32} {l1f_singers : Int32} {l1f_villages : Int32} {l1f_dams : Int32} {l1f_echoes : Int32} {l1f_deep : Int32} {l1f_slide : Int32} {l1a_heights : Nat → Int32} {l1a_ladders : Nat → Int32} {l1a_minutes : Nat → Int32} {l1a_echoFrom : Nat → Int32} {l1a_echoTo : Nat → Int32} {l1a_homes : Nat → Int32} {l1a_talls : Nat → Int32} {l1a_known : Nat → Int32} {v0f_deeds : Int32} {v0a_kinds : Nat → Int32} {v0a_firsts : Nat → Int32} {v0a_seconds : Nat → Int32} {v1f_deeds : Int32} {v1a_kinds : Nat → Int32} {v1a_firsts : Nat → Int32} {v1a_seconds : Nat → Int32} {s0f_facts : Int32} {s0a_heard : Nat → Int32} {s0a_huts : Nat → Int32} {s0a_minutes : Nat → Int32} {s1f_facts : Int32} {s1a_heard : Nat → Int32} {s1a_huts : Nat → Int32} {s1a_minutes : Nat → Int32} {c0f_voices : Int32} {c0f_step : Int32} {c0a_parts : Nat → Int32} {c0a_heights : Nat → Int32} {c1f_voices : Int32} {c1f_step : Int32} {c1a_parts : Nat → Int32} {c1a_heights : Nat → Int32} (h : tG a_tape f_length f_fault f_place a_counts l0f_huts l0f_singers l0f_villages l0f_dams l0f_echoes l0f_deep l0f_slide l0a_heights l0a_ladders l0a_minutes l0a_echoFrom l0a_echoTo l0a_homes l0a_talls l0a_known l1f_huts l1f_singers l1f_villages l1f_dams l1f_echoes l1f_deep l1f_slide l1a_heights l1a_ladders l1a_minutes l1a_echoFrom l1a_echoTo l1a_homes l1a_talls l1a_known v0f_deeds v0a_kinds v0a_firsts v0a_seconds v1f_deeds v1a_kinds v1a_firsts v1a_seconds s0f_facts s0a_heard s0a_huts s0a_minutes s1f_facts s1a_heard s1a_huts s1a_minutes c0f_voices c0f_step c0a_parts c0a_heights c1f_voices c1f_step c1a_parts c1a_heights) : tJ (tmk a_tape f_length f_fault f_place a_counts l0f_huts l0f_singers l0f_villages l0f_dams l0f_echoes l0f_deep l0f_slide l0a_heights l0a_ladders l0a_minutes l0a_echoFrom l0a_echoTo l0a_homes l0a_talls l0a_known l1f_huts l1f_singers l1f_villages l1f_dams l1f_echoes l1f_deep l1f_slide l1a_heights l1a_ladders l1a_minutes l1a_echoFrom l1a_echoTo l1a_homes l1a_talls l1a_known v0f_deeds v0a_kinds v0a_firsts v0a_seconds v1f_deeds v1a_kinds v1a_firsts v1a_seconds s0f_facts s0a_heard s0a_huts s0a_minutes s1f_facts s1a_heard s1a_huts s1a_minutes c0f_voices c0f_step c0a_parts c0a_heights c1f_voices c1f_step c1a_parts c1a_heights) := by
  obtain ⟨k_a_tape, k_f_length, k_f_fault, k_f_place, k_a_counts, k_l0f_huts, k_l0f_singers, k_l0f_villages, k_l0f_dams, k_l0f_echoes, k_l0f_deep, k_l0f_slide, k_l0a_heights, k_l0a_ladders, k_l0a_minutes, k_l0a_echoFrom, k_l0a_echoTo, k_l0a_homes, k_l0a_talls, k_l0a_known, k_l1f_huts, k_l1f_singers, k_l1f_villages, k_l1f_dams, k_l1f_echoes, k_l1f_deep, k_l1f_slide, k_l1a_heights, k_l1a_ladders, k_l1a_minutes, k_l1a_echoFrom, k_l1a_echoTo, k_l1a_homes, k_l1a_talls, k_l1a_known, k_v0f_deeds, k_v0a_kinds, k_v0a_firsts, k_v0a_seconds, k_v1f_deeds, k_v1a_kinds, k_v1a_firsts, k_v1a_seconds, k_s0f_facts, k_s0a_heard, k_s0a_huts, k_s0a_minutes, k_s1f_facts, k_s1a_heard, k_s1a_huts, k_s1a_minutes, k_c0f_voices, k_c0f_step, k_c0a_parts, k_c0a_heights, k_c1f_voices, k_c1f_step, k_c1a_parts, k_c1a_heights⟩ := h
  exact tJ_of k_a_tape k_f_length k_f_fault k_f_place k_a_counts k_l0f_huts k_l0f_singers k_l0f_villages k_l0f_dams k_l0f_echoes k_l0f_deep k_l0f_slide k_l0a_heights k_l0a_ladders k_l0a_minutes k_l0a_echoFrom k_l0a_echoTo k_l0a_homes k_l0a_talls k_l0a_known k_l1f_huts k_l1f_singers k_l1f_villages k_l1f_dams k_l1f_echoes k_l1f_deep k_l1f_slide k_l1a_heights k_l1a_ladders k_l1a_minutes k_l1a_echoFrom k_l1a_echoTo k_l1a_homes k_l1a_talls k_l1a_known k_v0f_deeds k_v0a_kinds k_v0a_firsts k_v0a_seconds k_v1f_deeds k_v1a_kinds k_v1a_firsts k_v1a_seconds k_s0f_facts k_s0a_heard k_s0a_huts k_s0a_minutes k_s1f_facts k_s1a_heard k_s1a_huts k_s1a_minutes k_c0f_voices k_c0f_step k_c0a_parts k_c0a_heights k_c1f_voices k_c1f_step k_c1a_parts k_c1a_heights
set_option maxRecDepth 40000 in
set_option maxHeartbeats 4000000 in
theorem g_tJ {T : TT} (hT : tJ T) : tG (T.2 0) (T.1 0) (T.1 1) (T.1 2) (T.2 1) (T.1 3) (T.1 4) (T.1 5) (T.1 6) (T.1 7) (T.1 8) (T.1 9) (T.2 2) (T.2 3) (T.2 4) (T.2 5) (T.2 6) (T.2 7) (T.2 8) (T.2 9) (T.1 10) (T.1 11) (T.1 12) (T.1 13) (T.1 14) (T.1 15) (T.1 16) (T.2 10) (T.2 11) (T.2 12) (T.2 13) (T.2 14) (T.2 15) (T.2 16) (T.2 17) (T.1 17) (T.2 18) (T.2 19) (T.2 20) (T.1 18) (T.2 21) (T.2 22) (T.2 23) (T.1 19) (T.2 24) (T.2 25) (T.2 26) (T.1 20) (T.2 27) (T.2 28) (T.2 29) (T.1 21) (T.1 22) (T.2 30) (T.2 31) (T.1 23) (T.1 24) (T.2 32) (T.2 33) := ⟨(hT.2 0), (hT.1 0), (hT.1 1), (hT.1 2), (hT.2 1), (hT.1 3), (hT.1 4), (hT.1 5), (hT.1 6), (hT.1 7), (hT.1 8), (hT.1 9), (hT.2 2), (hT.2 3), (hT.2 4), (hT.2 5), (hT.2 6), (hT.2 7), (hT.2 8), (hT.2 9), (hT.1 10), (hT.1 11), (hT.1 12), (hT.1 13), (hT.1 14), (hT.1 15), (hT.1 16), (hT.2 10), (hT.2 11), (hT.2 12), (hT.2 13), (hT.2 14), (hT.2 15), (hT.2 16), (hT.2 17), (hT.1 17), (hT.2 18), (hT.2 19), (hT.2 20), (hT.1 18), (hT.2 21), (hT.2 22), (hT.2 23), (hT.1 19), (hT.2 24), (hT.2 25), (hT.2 26), (hT.1 20), (hT.2 27), (hT.2 28), (hT.2 29), (hT.1 21), (hT.1 22), (hT.2 30), (hT.2 31), (hT.1 23), (hT.1 24), (hT.2 32), (hT.2 33)⟩
set_option maxRecDepth 40000 in
set_option maxHeartbeats 4000000 in
theorem MS_of {E : zE} {bm : Nat} {H : Heap} {f_code : Int32} {a_tape : Nat → Int32} {a_size : Nat → Int32} {a_fault : Nat → Int32} {a_faultPlace : Nat → Int32} {a_many : Nat → Int32} {a_lands : Nat → Int32} {a_evenings : Nat → Int32} {a_sights : Nat → Int32} {a_choirs : Nat → Int32} {f_reached : Int32} {f_length : Int32} {f_begins : Int32} {f_sort : Int32} {f_value : Int32} {f_word : Int64} {f_wrongAt : Int32} {f_laterFault : Int32} {f_laterPlace : Int32} {a_told : Nat → Int32} {a_read : Nat → Int32} {f_farHut : Int32} {f_farSinger : Int32} {f_good : Int32} {f_land : Int32} {f_huts : Int32} {f_singers : Int32} {f_evening : Int32} {a_at : Nat → Int32} {a_knows : Nat → Int32} {a_climbed : Nat → Int32} {a_snow : Nat → Int32} {a_level : Nat → Int32} {f_begun : Int32} {f_minute : Int32} {f_avalanches : Int32} {a_run : Nat → Int32} {a_covers : Nat → Int32} {a_routes : Nat → Int32} {a_longest : Nat → Int32} {a_steep : Nat → Int32} {a_laid : Nat → Int32} {a_far : Nat → Int32} {f_sight : Int32} {a_runs : Nat → Int32} {f_choir : Int32} {f_voices : Int32} {a_rest : Nat → Int64} {a_wins : Nat → Int32} {f_seed : Int32} {a_other : Nat → Int32} {a_kept : Nat → Int32} (hX : mW E bm f_code a_tape a_size a_fault a_faultPlace a_many a_lands a_evenings a_sights a_choirs f_reached f_length f_begins f_sort f_value f_word f_wrongAt f_laterFault f_laterPlace a_told a_read f_farHut f_farSinger f_good f_land f_huts f_singers f_evening a_at a_knows a_climbed a_snow a_level f_begun f_minute f_avalanches a_run a_covers a_routes a_longest a_steep a_laid a_far f_sight a_runs f_choir f_voices a_rest a_wins f_seed a_other a_kept H) (k_f_code : iv 0 0 f_code) (k_f_land : iv 0 1 f_land) (k_f_huts : iv 0 9 f_huts) (k_f_singers : iv 0 6 f_singers) (k_a_at : ∀ j, iv 0 8 (a_at j)) (k_a_knows : ∀ j, iv 0 31 (a_knows j)) (k_a_climbed : ∀ j, iv 0 1 (a_climbed j)) (k_a_level : ∀ j, iv (-9) 108 (a_level j)) (k_f_begun : iv 0 31 f_begun) (k_a_run : ∀ j, iv 0 1000000 (a_run j)) (k_a_covers : ∀ j, iv 0 511 (a_covers j)) (k_a_laid : ∀ j, iv 0 1 (a_laid j)) (k_a_far : ∀ j, iv 0 1000000 (a_far j)) (k_a_runs : ∀ j, iv 0 1000000 (a_runs j)) (k_f_voices : iv 0 9 f_voices) (k_a_other : ∀ j, iv 0 1000000 (a_other j)) : MS E bm (mmk a_tape a_size a_fault a_faultPlace a_many a_lands a_evenings a_sights a_choirs a_kept) H :=
  ⟨fun k => match k with | 0 => f_code | 1 => f_reached | 2 => f_length | 3 => f_begins | 4 => f_sort | 5 => f_value | 6 => f_wrongAt | 7 => f_laterFault | 8 => f_laterPlace | 9 => f_farHut | 10 => f_farSinger | 11 => f_good | 12 => f_land | 13 => f_huts | 14 => f_singers | 15 => f_evening | 16 => f_begun | 17 => f_minute | 18 => f_avalanches | 19 => f_sight | 20 => f_choir | 21 => f_voices | 22 => f_seed | _ => 0, fun k => match k with | 0 => a_told | 1 => a_read | 2 => a_at | 3 => a_knows | 4 => a_climbed | 5 => a_snow | 6 => a_level | 7 => a_run | 8 => a_covers | 9 => a_routes | 10 => a_longest | 11 => a_steep | 12 => a_laid | 13 => a_far | 14 => a_runs | 15 => a_wins | 16 => a_other | _ => fun _ => 0, f_word, a_rest, ⟨fun k => match k with | 0 => k_f_code | 1 => iv_top _ | 2 => iv_top _ | 3 => iv_top _ | 4 => iv_top _ | 5 => iv_top _ | 6 => iv_top _ | 7 => iv_top _ | 8 => iv_top _ | 9 => iv_top _ | 10 => iv_top _ | 11 => iv_top _ | 12 => k_f_land | 13 => k_f_huts | 14 => k_f_singers | 15 => iv_top _ | 16 => k_f_begun | 17 => iv_top _ | 18 => iv_top _ | 19 => iv_top _ | 20 => iv_top _ | 21 => k_f_voices | 22 => iv_top _ | k + 23 => iv_top _, fun k j => match k with | 0 => iv_top _ | 1 => iv_top _ | 2 => k_a_at j | 3 => k_a_knows j | 4 => k_a_climbed j | 5 => iv_top _ | 6 => k_a_level j | 7 => k_a_run j | 8 => k_a_covers j | 9 => iv_top _ | 10 => iv_top _ | 11 => iv_top _ | 12 => k_a_laid j | 13 => k_a_far j | 14 => k_a_runs j | 15 => iv_top _ | 16 => k_a_other j | k + 17 => iv_top _⟩, hX⟩
set_option maxRecDepth 40000 in
set_option maxHeartbeats 4000000 in
theorem MS_of1 {E : zE} {bm : Nat} {M : Nat → Nat → Int32} {H : Heap} {f_code : Int32} {f_reached : Int32} {f_length : Int32} {f_begins : Int32} {f_sort : Int32} {f_value : Int32} {f_word : Int64} {f_wrongAt : Int32} {f_laterFault : Int32} {f_laterPlace : Int32} {a_told : Nat → Int32} {a_read : Nat → Int32} {f_farHut : Int32} {f_farSinger : Int32} {f_good : Int32} {f_land : Int32} {f_huts : Int32} {f_singers : Int32} {f_evening : Int32} {a_at : Nat → Int32} {a_knows : Nat → Int32} {a_climbed : Nat → Int32} {a_snow : Nat → Int32} {a_level : Nat → Int32} {f_begun : Int32} {f_minute : Int32} {f_avalanches : Int32} {a_run : Nat → Int32} {a_covers : Nat → Int32} {a_routes : Nat → Int32} {a_longest : Nat → Int32} {a_steep : Nat → Int32} {a_laid : Nat → Int32} {a_far : Nat → Int32} {f_sight : Int32} {a_runs : Nat → Int32} {f_choir : Int32} {f_voices : Int32} {a_rest : Nat → Int64} {a_wins : Nat → Int32} {f_seed : Int32} {a_other : Nat → Int32} (hX : mW E bm f_code (M 0) (M 1) (M 2) (M 3) (M 4) (M 5) (M 6) (M 7) (M 8) f_reached f_length f_begins f_sort f_value f_word f_wrongAt f_laterFault f_laterPlace a_told a_read f_farHut f_farSinger f_good f_land f_huts f_singers f_evening a_at a_knows a_climbed a_snow a_level f_begun f_minute f_avalanches a_run a_covers a_routes a_longest a_steep a_laid a_far f_sight a_runs f_choir f_voices a_rest a_wins f_seed a_other (M 9) H) (k_f_code : iv 0 0 f_code) (k_f_land : iv 0 1 f_land) (k_f_huts : iv 0 9 f_huts) (k_f_singers : iv 0 6 f_singers) (k_a_at : ∀ j, iv 0 8 (a_at j)) (k_a_knows : ∀ j, iv 0 31 (a_knows j)) (k_a_climbed : ∀ j, iv 0 1 (a_climbed j)) (k_a_level : ∀ j, iv (-9) 108 (a_level j)) (k_f_begun : iv 0 31 f_begun) (k_a_run : ∀ j, iv 0 1000000 (a_run j)) (k_a_covers : ∀ j, iv 0 511 (a_covers j)) (k_a_laid : ∀ j, iv 0 1 (a_laid j)) (k_a_far : ∀ j, iv 0 1000000 (a_far j)) (k_a_runs : ∀ j, iv 0 1000000 (a_runs j)) (k_f_voices : iv 0 9 f_voices) (k_a_other : ∀ j, iv 0 1000000 (a_other j)) : MS E bm M H :=
  ⟨fun k => match k with | 0 => f_code | 1 => f_reached | 2 => f_length | 3 => f_begins | 4 => f_sort | 5 => f_value | 6 => f_wrongAt | 7 => f_laterFault | 8 => f_laterPlace | 9 => f_farHut | 10 => f_farSinger | 11 => f_good | 12 => f_land | 13 => f_huts | 14 => f_singers | 15 => f_evening | 16 => f_begun | 17 => f_minute | 18 => f_avalanches | 19 => f_sight | 20 => f_choir | 21 => f_voices | 22 => f_seed | _ => 0, fun k => match k with | 0 => a_told | 1 => a_read | 2 => a_at | 3 => a_knows | 4 => a_climbed | 5 => a_snow | 6 => a_level | 7 => a_run | 8 => a_covers | 9 => a_routes | 10 => a_longest | 11 => a_steep | 12 => a_laid | 13 => a_far | 14 => a_runs | 15 => a_wins | 16 => a_other | _ => fun _ => 0, f_word, a_rest, ⟨fun k => match k with | 0 => k_f_code | 1 => iv_top _ | 2 => iv_top _ | 3 => iv_top _ | 4 => iv_top _ | 5 => iv_top _ | 6 => iv_top _ | 7 => iv_top _ | 8 => iv_top _ | 9 => iv_top _ | 10 => iv_top _ | 11 => iv_top _ | 12 => k_f_land | 13 => k_f_huts | 14 => k_f_singers | 15 => iv_top _ | 16 => k_f_begun | 17 => iv_top _ | 18 => iv_top _ | 19 => iv_top _ | 20 => iv_top _ | 21 => k_f_voices | 22 => iv_top _ | k + 23 => iv_top _, fun k j => match k with | 0 => iv_top _ | 1 => iv_top _ | 2 => k_a_at j | 3 => k_a_knows j | 4 => k_a_climbed j | 5 => iv_top _ | 6 => k_a_level j | 7 => k_a_run j | 8 => k_a_covers j | 9 => iv_top _ | 10 => iv_top _ | 11 => iv_top _ | 12 => k_a_laid j | 13 => k_a_far j | 14 => k_a_runs j | 15 => iv_top _ | 16 => k_a_other j | k + 17 => iv_top _⟩, hX⟩
set_option maxRecDepth 40000 in
set_option maxHeartbeats 4000000 in
theorem XS_kp {E : zE} {q : Nat} {H H1 : Heap} {mi : Nat → Option Nat} {ko : Option Nat} {T : TT} (h : XS E q mi ko T H) (hk : ∀ z : Nat, z < H.size → q ≤ z → z < q + 93 → H1[z]? = H[z]?) : XS E q mi ko T H1 := by
  obtain ⟨S, V, h1, h2⟩ := h
  exact ⟨S, V, h1, wx_kp h2 hk⟩
set_option maxRecDepth 40000 in
set_option maxHeartbeats 4000000 in
theorem XS_lt {E : zE} {q : Nat} {H : Heap} {mi : Nat → Option Nat} {ko : Option Nat} {T : TT} (h : XS E q mi ko T H) : q + 93 ≤ H.size := by
  obtain ⟨S, V, h1, h2⟩ := h
  exact Nat.succ_le_of_lt (h2 92 _ rfl).lt
set_option maxRecDepth 40000 in
set_option maxHeartbeats 4000000 in
theorem MS_kp {E : zE} {q : Nat} {H H1 : Heap} {M : Nat → Nat → Int32} (h : MS E q M H) (hk : ∀ z : Nat, z < H.size → q ≤ z → z < q + 29 → H1[z]? = H[z]?) : MS E q M H1 := by
  obtain ⟨S, V, f_word, a_rest, h1, h2⟩ := h
  exact ⟨S, V, f_word, a_rest, h1, m_kp h2 hk⟩
set_option maxRecDepth 40000 in
set_option maxHeartbeats 4000000 in
theorem MS_lt {E : zE} {q : Nat} {H : Heap} {M : Nat → Nat → Int32} (h : MS E q M H) : q + 29 ≤ H.size := by
  obtain ⟨S, V, f_word, a_rest, h1, h2⟩ := h
  exact Nat.succ_le_of_lt (h2 28 _ rfl).lt
set_option maxRecDepth 40000 in
set_option maxHeartbeats 4000000 in
theorem IS_kp {E : zE} {q : Nat} {H H1 : Heap} {T : TT} (h : IS E q T H) (hk : ∀ z : Nat, z < H.size → q ≤ z → z < q + 47 → H1[z]? = H[z]?) : IS E q T H1 := by
  exact wt_kp h hk
set_option maxRecDepth 40000 in
set_option maxHeartbeats 4000000 in
theorem IS_lt {E : zE} {q : Nat} {H : Heap} {T : TT} (h : IS E q T H) : q + 47 ≤ H.size := by
  have h2 := h
  exact Nat.succ_le_of_lt (h2 46 _ rfl).lt
theorem TS_kp {E : zE} {t : Nat} {H H1 : Heap} (h : TS E t H) (hk : ∀ z : Nat, z < H.size → t ≤ z → z < t + 1 → H1[z]? = H[z]?) : TS E t H1 := by
  obtain ⟨z, h⟩ := h
  exact ⟨z, zkp h zRg_1 hk⟩
theorem TS_lt {E : zE} {t : Nat} {H : Heap} (h : TS E t H) : t + 1 ≤ H.size := by
  obtain ⟨z, h⟩ := h
  exact (h 0 _ rfl).lt

/-- the images and the table beside the object -/
def lE (E : zE) (lo : Nat) (mi : Nat → Option Nat) (ko : Option Nat) (I : Nat → TT) (H : Heap) : Prop :=
  (∀ j, j < 3 → ∀ q, mi j = some q → lo ≤ q ∧ tJ (I j) ∧ IS E q (I j) H) ∧ (∀ j k, j < 3 → k < 3 → j ≠ k → ∀ q r, mi j = some q → mi k = some r → q + 47 ≤ r ∨ r + 47 ≤ q) ∧ (∀ t, ko = some t → lo ≤ t ∧ TS E t H) ∧ (∀ j, j < 3 → ∀ q t, mi j = some q → ko = some t → q + 47 ≤ t ∨ t + 1 ≤ q)
theorem lE_kp {E : zE} {lo : Nat} {mi : Nat → Option Nat} {ko : Option Nat} {I : Nat → TT} {H H1 : Heap} (h : lE E lo mi ko I H) (hk : ∀ z : Nat, z < H.size → lo ≤ z → H1[z]? = H[z]?) : lE E lo mi ko I H1 :=
  ⟨fun j hj q e => ⟨(h.1 j hj q e).1, (h.1 j hj q e).2.1, IS_kp (h.1 j hj q e).2.2 (fun z h1 h2 _ => hk z h1 (Nat.le_trans (h.1 j hj q e).1 h2))⟩, h.2.1, fun t e => ⟨(h.2.2.1 t e).1, TS_kp (h.2.2.1 t e).2 (fun z h1 h2 _ => hk z h1 (Nat.le_trans (h.2.2.1 t e).1 h2))⟩, h.2.2.2⟩
def GG (E : zE) (bx bm : Nat) (mi : Nat → Option Nat) (ko : Option Nat) (T : TT) (M : Nat → Nat → Int32) (I : Nat → TT) (H : Heap) : Prop := XS E bx mi ko T H ∧ MS E bm M H ∧ lE E (bm + 29) mi ko I H ∧ tJ T ∧ mT M
theorem zap {a n b q : Nat} (h : a + n ≤ b) (h1 : b ≤ q) (h2 : q < a + n) : False := by omega
theorem lE_tab {E : zE} {lo bx : Nat} {mi : Nat → Option Nat} {o : Option Nat} {I : Nat → TT} {H H1 : Heap} (hE : lE E lo mi none I H) (hlo : bx + 93 ≤ lo) (hloH : lo ≤ H.size) (hk : ∀ q : Nat, q < H.size → ¬ zImA bx H.size q → H1[q]? = H[q]?) (ho : o = none ∨ ∃ a t, o = some a ∧ H.size ≤ a ∧ k0T E a t H1) : lE E lo mi o I H1 := by
  have kz : ∀ z : Nat, z < H.size → lo ≤ z → H1[z]? = H[z]? := fun z h1 h2 => hk z h1 (fun hA => by unfold zImA zR at hA; omega)
  have h0 := lE_kp hE kz
  refine ⟨h0.1, h0.2.1, fun t e => ?_, fun j hj q t e1 e2 => ?_⟩
  · rcases ho with rfl | ⟨a, z, rfl, h1, h2⟩
    · cases e
    · cases e
      exact ⟨Nat.le_trans hloH h1, z, h2⟩
  · rcases ho with rfl | ⟨a, z, rfl, h1, h2⟩
    · cases e2
    · cases e2
      exact Or.inl (Nat.le_trans (IS_lt (hE.1 j hj q e1).2.2) h1)
theorem lE_tab2 {E : zE} {lo bx t : Nat} {mi : Nat → Option Nat} {I : Nat → TT} {z : Nat → Int32} {H H1 : Heap} (hE : lE E lo mi (some t) I H) (hlo : bx + 93 ≤ lo) (hk : ∀ q : Nat, q < H.size → ¬ wxtA bx t q → H1[q]? = H[q]?) (hT : k0T E t z H1) : lE E lo mi (some t) I H1 := by
  refine ⟨fun j hj q e => ?_, hE.2.1, fun r e => ?_, hE.2.2.2⟩
  · have h1 := hE.1 j hj q e
    have h2 := hE.2.2.2 j hj q t e rfl
    exact ⟨h1.1, h1.2.1, IS_kp h1.2.2 (fun z a b c => hk z a (fun hA => by have := h1.1; unfold wxtA at hA; omega))⟩
  · cases e
    exact ⟨(hE.2.2.1 t rfl).1, z, hT⟩
/-- image j (there already) is written; the others stay -/
theorem lE_img2 {E : zE} {lo bx j q : Nat} {mi : Nat → Option Nat} {ko : Option Nat} {I : Nat → TT} {N : TT} {H H1 : Heap} (hE : lE E lo mi ko I H) (hlo : bx + 93 ≤ lo) (hj : j < 3) (hm : mi j = some q) (hk : ∀ z : Nat, z < H.size → ¬ ((bx ≤ z ∧ z < bx + 93) ∨ (q ≤ z ∧ z < q + 47)) → H1[z]? = H[z]?) (hN : tJ N) (hI : IS E q N H1) : lE E lo mi ko (va_up I j N) H1 := by
  refine ⟨fun k hk3 r e => ?_, hE.2.1, fun t e => ?_, hE.2.2.2⟩
  · by_cases hjk : k = j
    · subst hjk
      rw [hm] at e
      cases e
      rw [va_up_self]
      exact ⟨(hE.1 k hk3 _ hm).1, hN, hI⟩
    · have h1 := hE.1 k hk3 r e
      have h2 := hE.2.1 k j hk3 hj hjk r q e hm
      rw [va_up_ne _ _ hjk]
      exact ⟨h1.1, h1.2.1, IS_kp h1.2.2 (fun z a b c => hk z a (by have := h1.1; omega))⟩
  · have h1 := hE.2.2.1 t e
    have h2 := hE.2.2.2 j hj q t hm e
    exact ⟨h1.1, TS_kp h1.2 (fun z a b c => hk z a (by have := h1.1; omega))⟩
theorem lE_ag {E : zE} {lo bx j q : Nat} {mi : Nat → Option Nat} {ko : Option Nat} {I : Nat → TT} {H H1 : Heap} (hE : lE E lo mi ko I H) (hlo : bx + 93 ≤ lo) (hj : j < 3) (hm : mi j = some q) (hk : ∀ z : Nat, z < H.size → ¬ ((bx ≤ z ∧ z < bx + 93) ∨ (q ≤ z ∧ z < q + 47)) → H1[z]? = H[z]?) (hI : IS E q (I j) H1) : lE E lo mi ko I H1 := by
  have h0 := lE_img2 hE hlo hj hm hk (hE.1 j hj q hm).2.1 hI
  have e : va_up I j (I j) = I := by
    funext k
    by_cases hk : k = j
    · subst hk; exact va_up_self _ _ _
    · exact va_up_ne _ _ hk
  rw [e] at h0
  exact h0
theorem lE_img {E : zE} {lo bx j : Nat} {mi : Nat → Option Nat} {ko : Option Nat} {I : Nat → TT} {N : TT} {H H1 : Heap} (hE : lE E lo mi ko I H) (hlo : bx + 93 ≤ lo) (hloH : lo ≤ H.size) (hk : ∀ q : Nat, q < H.size → ¬ zImA bx H.size q → H1[q]? = H[q]?) (hN : tJ N) (hI : IS E H.size N H1) : lE E lo (va_up mi j (some H.size)) ko (va_up I j N) H1 := by
  have kz : ∀ z : Nat, z < H.size → lo ≤ z → H1[z]? = H[z]? := fun z h1 h2 => hk z h1 (fun hA => by unfold zImA zR at hA; omega)
  have h0 := lE_kp hE kz
  refine ⟨fun k hk3 r e => ?_, fun k1 k2 h1 h2 hne q r e1 e2 => ?_, h0.2.2.1, fun k hk3 q t e1 e2 => ?_⟩
  · by_cases hkj : k = j
    · subst hkj
      rw [va_up_self] at e
      cases e
      rw [va_up_self]
      exact ⟨hloH, hN, hI⟩
    · rw [va_up_ne _ _ hkj] at e
      rw [va_up_ne _ _ hkj]
      exact h0.1 k hk3 r e
  · by_cases hk1 : k1 = j
    · subst hk1
      rw [va_up_self] at e1
      cases e1
      rw [va_up_ne _ _ (fun h => hne h.symm)] at e2
      exact Or.inr (IS_lt (hE.1 k2 h2 r e2).2.2)
    · rw [va_up_ne _ _ hk1] at e1
      by_cases hk2 : k2 = j
      · subst hk2
        rw [va_up_self] at e2
        cases e2
        exact Or.inl (IS_lt (hE.1 k1 h1 q e1).2.2)
      · rw [va_up_ne _ _ hk2] at e2
        exact hE.2.1 k1 k2 h1 h2 hne q r e1 e2
  · by_cases hkj : k = j
    · subst hkj
      rw [va_up_self] at e1
      cases e1
      exact Or.inr (TS_lt (hE.2.2.1 t e2).2)
    · rw [va_up_ne _ _ hkj] at e1
      exact hE.2.2.2 k hk3 q t e1 e2
theorem iv00 {x : Int32} (h : iv 0 0 x) : x = 0 := Int32.toInt_inj.mp (Int.le_antisymm h.2 h.1)
set_option maxRecDepth 40000 in
set_option maxHeartbeats 4000000 in
theorem tCP_r {N T : TT} (h : tCP N (tmk (T.2 0) (T.1 0) (T.1 1) (T.1 2) (T.2 1) (T.1 3) (T.1 4) (T.1 5) (T.1 6) (T.1 7) (T.1 8) (T.1 9) (T.2 2) (T.2 3) (T.2 4) (T.2 5) (T.2 6) (T.2 7) (T.2 8) (T.2 9) (T.1 10) (T.1 11) (T.1 12) (T.1 13) (T.1 14) (T.1 15) (T.1 16) (T.2 10) (T.2 11) (T.2 12) (T.2 13) (T.2 14) (T.2 15) (T.2 16) (T.2 17) (T.1 17) (T.2 18) (T.2 19) (T.2 20) (T.1 18) (T.2 21) (T.2 22) (T.2 23) (T.1 19) (T.2 24) (T.2 25) (T.2 26) (T.1 20) (T.2 27) (T.2 28) (T.2 29) (T.1 21) (T.1 22) (T.2 30) (T.2 31) (T.1 23) (T.1 24) (T.2 32) (T.2 33))) : tCP N T := by
  refine ⟨fun i hi => (h.1 i hi).trans ?_, h.2.1, h.2.2.1, h.2.2.2⟩
  rcases cs_S0 hi with rfl | rfl | rfl | rfl | rfl | rfl | rfl | rfl | rfl | rfl | rfl | rfl | rfl | rfl | rfl | rfl | rfl | rfl | rfl | rfl | rfl | rfl | rfl | rfl | rfl <;> rfl
theorem tBI_of {E : zE} {lo : Nat} {mi : Nat → Option Nat} {ko : Option Nat} {I : Nat → TT} {H : Heap} (h : lE E lo mi ko I H) : tBI I mi := by
  intro j hj hn
  cases e : mi j with
  | none => exact absurd e hn
  | some q => exact tB_of (h.1 j hj q e).2.1
end
section
theorem zidx {i L k : Nat} {v : Int32} (hi : i + 6 ≤ L) (hL : L ≤ 3072) (hv : nI k = v) (hk : k < 6) : vp_in (nI i + v) L := by
  rw [← hv, nI_add]
  exact vp_in_nI (by omega) (by omega)
theorem zcmp (x : Int64) : lg_cmp x x = 0 := by unfold lg_cmp; simp
theorem hd_lt {L i : Nat} (hL : L ≤ 3072) (hi : i ≤ 6000) : Int32.ofNat L - 6 < nI i ↔ L < i + 6 := by
  have e1 : iv L L (Int32.ofNat L) := iv_ofN (by omega) (by omega) (by omega)
  have e2 : iv (L - 6) (L - 6) (Int32.ofNat L - 6) := iv_sub e1 (iv_lit (x := 6) (l := 6) (h := 6) (by decide)) (by omega)
  have e3 : iv i i (nI i) := iv_ofN (by omega) (by omega) (by omega)
  rw [Int32.lt_iff_toInt_lt]
  unfold iv at e2 e3
  omega
end
section
theorem zArrP {args : Array Value} {s : State} {ty : FieldType} (h : (Cond.arrayClass ty).before args s = true) : ∃ cA, ArrOfT s cA ty ∧ s.vm.findClass ("[" ++ ty.toString) = some cA := by
  obtain ⟨c, k, comp, h1, h2, h3⟩ := Cond.arrayClass_spec h
  exact ⟨c, fun n z => ⟨fun k h => (by cases h), k, h2, comp, h3⟩, h1⟩
theorem zArrQ {s : State} {C : String} (h : va_AO C s) : ∃ cA, ArrOfT s cA (.object C) ∧ va_RA s cA (.object C) := by
  obtain ⟨comp, c, k, h1, h2, h3, h4, h5⟩ := Cond.arrayOver_spec h
  exact ⟨c, fun n z => ⟨fun k h => (by cases h), k, h3, comp, h4⟩, k, comp, h3, h4, h1, h5⟩
theorem zK_start {p : Program} {s : State} {m : MethodId} {meth : Method} {c : Code} {b L : Nat} {xs : Nat → Int32} (C0 : lw_At p s m meth c b L xs) : ∃ E : zE, zK E s ∧ zO s := by
  obtain ⟨hx, hb, hr, hml, hown, hts, hX, hbl, hlocks, hgv⟩ := C0
  obtain ⟨c0, i0, h0⟩ := u_known (C := RX0) (T := TX0) (N := 4) (n := 4) hts (fun w hw => zb_in (uw0 w hw)) (hts (.instantiable RX0 4) (zb_in kins_0))
  obtain ⟨c1, i1, h1⟩ := u_known (C := RX1) (T := TX1) (N := 4) (n := 4) hts (fun w hw => zb_in (uw1 w hw)) (hts (.instantiable RX1 4) (zb_in kins_1))
  obtain ⟨c2, i2, h2⟩ := u_known (C := RX2) (T := TX2) (N := 15) (n := 15) hts (fun w hw => zb_in (uw2 w hw)) (hts (.instantiable RX2 15) (zb_in kins_2))
  obtain ⟨c3, i3, h3⟩ := u_known (C := RX3) (T := TX3) (N := 10) (n := 10) hts (fun w hw => zb_in (uw3 w hw)) (hts (.instantiable RX3 10) (zb_in kins_3))
  obtain ⟨c4, i4, h4⟩ := u_known (C := RX4) (T := TX4) (N := 15) (n := 15) hts (fun w hw => zb_in (uw4 w hw)) (hts (.instantiable RX4 15) (zb_in kins_4))
  obtain ⟨c5, i5, h5⟩ := u_known (C := RX5) (T := TX5) (N := 3) (n := 3) hts (fun w hw => zb_in (uw5 w hw)) (hts (.instantiable RX5 3) (zb_in kins_5))
  obtain ⟨c6, i6, h6⟩ := u_known (C := RX6) (T := TX6) (N := 4) (n := 4) hts (fun w hw => zb_in (uw6 w hw)) (hts (.instantiable RX6 4) (zb_in kins_6))
  obtain ⟨c7, i7, h7⟩ := u_known (C := RX7) (T := TX7) (N := 8) (n := 8) hts (fun w hw => zb_in (uw7 w hw)) (hts (.instantiable RX7 8) (zb_in kins_7))
  obtain ⟨c8, i8, h8⟩ := u_known (C := RX8) (T := TX8) (N := 2) (n := 2) hts (fun w hw => zb_in (uw8 w hw)) (hts (.instantiable RX8 2) (zb_in kins_8))
  obtain ⟨c9, i9, h9⟩ := u_known (C := RX9) (T := TX9) (N := 9) (n := 9) hts (fun w hw => zb_in (uw9 w hw)) (hts (.instantiable RX9 9) (zb_in kins_9))
  obtain ⟨c10, i10, h10⟩ := u_known (C := RX10) (T := TX10) (N := 7) (n := 7) hts (fun w hw => zb_in (uw10 w hw)) (hts (.instantiable RX10 7) (zb_in kins_10))
  obtain ⟨c11, i11, h11⟩ := u_known (C := RX11) (T := TX11) (N := 52) (n := 52) hts (fun w hw => zb_in (uw11 w hw)) (hts (.instantiable RX11 52) (zb_in kins_11))
  obtain ⟨t0, a0, n0⟩ := zArrP (hts _ (zb_in kac_B))
  obtain ⟨t1, a1, n1⟩ := zArrP (hts _ (zb_in kac_I))
  obtain ⟨t2, a2, n2⟩ := zArrP (hts _ (zb_in kac_J))
  obtain ⟨t3, a3, n3⟩ := zArrP (hts _ (zb_in kac_Z))
  have o4 : va_AO RX2 s := va_AO.of (hts (.arrayOver (.object RX2)) (List.mem_of_getElem? (i := 181) (by decide +kernel)))
  obtain ⟨t4, a4, n4⟩ := zArrQ o4
  have o5 : va_AO RX1 s := va_AO.of (hts (.arrayOver (.object RX1)) (List.mem_of_getElem? (i := 272) (by decide +kernel)))
  obtain ⟨t5, a5, n5⟩ := zArrQ o5
  have o6 : va_AO RX6 s := va_AO.of (hts (.arrayOver (.object RX6)) (List.mem_of_getElem? (i := 298) (by decide +kernel)))
  obtain ⟨t6, a6, n6⟩ := zArrQ o6
  have o7 : va_AO RX0 s := va_AO.of (hts (.arrayOver (.object RX0)) (List.mem_of_getElem? (i := 324) (by decide +kernel)))
  obtain ⟨t7, a7, n7⟩ := zArrQ o7
  have o8 : va_AO RX9 s := va_AO.of (hts (.arrayOver (.object RX9)) (List.mem_of_getElem? (i := 385) (by decide +kernel)))
  obtain ⟨t8, a8, n8⟩ := zArrQ o8
  refine ⟨((fun k => match k with | 0 => c0 | 1 => c1 | 2 => c2 | 3 => c3 | 4 => c4 | 5 => c5 | 6 => c6 | 7 => c7 | 8 => c8 | 9 => c9 | 10 => c10 | _ => c11, fun k => match k with | 0 => i0 | 1 => i1 | 2 => i2 | 3 => i3 | 4 => i4 | 5 => i5 | 6 => i6 | 7 => i7 | 8 => i8 | 9 => i9 | 10 => i10 | _ => i11), fun k => match k with | 0 => t0 | 1 => t1 | 2 => t2 | 3 => t3 | 4 => t4 | 5 => t5 | 6 => t6 | 7 => t7 | _ => t8), ⟨⟨?_, ?_⟩, ?_⟩, ?_⟩
  · intro k q hq
    match k, hq with
    | 0, hq => cases hq; exact h0
    | 1, hq => cases hq; exact h1
    | 2, hq => cases hq; exact h2
    | 3, hq => cases hq; exact h3
    | 4, hq => cases hq; exact h4
    | 5, hq => cases hq; exact h5
    | 6, hq => cases hq; exact h6
    | 7, hq => cases hq; exact h7
    | 8, hq => cases hq; exact h8
    | 9, hq => cases hq; exact h9
    | 10, hq => cases hq; exact h10
    | 11, hq => cases hq; exact h11
    | k + 12, hq => simp at hq
  · intro k q hq
    match k, hq with
    | 0, hq => cases hq; exact ⟨a0, n0⟩
    | 1, hq => cases hq; exact ⟨a1, n1⟩
    | 2, hq => cases hq; exact ⟨a2, n2⟩
    | 3, hq => cases hq; exact ⟨a3, n3⟩
    | 4, hq => cases hq; exact ⟨a4, n4⟩
    | 5, hq => cases hq; exact ⟨a5, n5⟩
    | 6, hq => cases hq; exact ⟨a6, n6⟩
    | 7, hq => cases hq; exact ⟨a7, n7⟩
    | 8, hq => cases hq; exact ⟨a8, n8⟩
    | k + 9, hq => simp at hq
  · intro w hw
    have h9 := hts w (znest_in w hw)
    obtain ⟨a, i, y, b2, rfl⟩ := znest_form w hw
    exact va_Nw.of rfl h9
  · intro C hC
    simp only [zover, List.mem_cons, List.not_mem_nil, or_false] at hC
    rcases hC with rfl | rfl | rfl | rfl | rfl
    · exact o4
    · exact o5
    · exact o6
    · exact o7
    · exact o8
end
section
set_option maxRecDepth 1000000 in
theorem zs_t0 : ∀ j, j < 5 → Cond.eq (.elem (.static RX4 "FIRST_WORDS" "[I") (.int (Int32.ofNat j))) (.int (tbf_0 j)) ∈ flatC (Jvm.Cond.and given_1 narrow_1) := pk_of (gs := [7, 0, 0, 0, 0]) (X := fun j => Cond.eq (.elem (.static RX4 "FIRST_WORDS" "[I") (.int (Int32.ofNat j))) (.int (tbf_0 j))) rfl
set_option maxRecDepth 1000000 in
theorem zs_t1 : ∀ j, j < 20 → Cond.eq (.elem (.static RX4 "NUMBERS" "[I") (.int (Int32.ofNat j))) (.int (tbf_1 j)) ∈ flatC (Jvm.Cond.and given_1 narrow_1) := pk_of (gs := [20, 0, 0, 0, 0, 0, 0, 0, 0, 0, 0, 0, 0, 0, 0, 0, 0, 0, 0, 0]) (X := fun j => Cond.eq (.elem (.static RX4 "NUMBERS" "[I") (.int (Int32.ofNat j))) (.int (tbf_1 j))) rfl
set_option maxRecDepth 1000000 in
theorem zs_t2 : ∀ j, j < 60 → Cond.eq (.elem (.static RX4 "LEAST" "[I") (.int (Int32.ofNat j))) (.int (tbf_2 j)) ∈ flatC (Jvm.Cond.and given_1 narrow_1) := pk_of (gs := [43, 0, 0, 0, 0, 0, 0, 0, 0, 0, 0, 0, 0, 0, 0, 0, 0, 0, 0, 0, 0, 0, 0, 0, 0, 0, 0, 0, 0, 0, 0, 0, 0, 0, 0, 0, 0, 0, 0, 0, 0, 0, 0, 0, 0, 0, 0, 0, 0, 0, 0, 0, 0, 0, 0, 0, 0, 0, 0, 0]) (X := fun j => Cond.eq (.elem (.static RX4 "LEAST" "[I") (.int (Int32.ofNat j))) (.int (tbf_2 j))) rfl
set_option maxRecDepth 1000000 in
theorem zs_t3 : ∀ j, j < 60 → Cond.eq (.elem (.static RX4 "MOST" "[I") (.int (Int32.ofNat j))) (.int (tbf_3 j)) ∈ flatC (Jvm.Cond.and given_1 narrow_1) := pk_of (gs := [106, 0, 0, 0, 0, 0, 0, 0, 0, 0, 0, 0, 0, 0, 0, 0, 0, 0, 0, 0, 0, 0, 0, 0, 0, 0, 0, 0, 0, 0, 0, 0, 0, 0, 0, 0, 0, 0, 0, 0, 0, 0, 0, 0, 0, 0, 0, 0, 0, 0, 0, 0, 0, 0, 0, 0, 0, 0, 0, 0]) (X := fun j => Cond.eq (.elem (.static RX4 "MOST" "[I") (.int (Int32.ofNat j))) (.int (tbf_3 j))) rfl
set_option maxRecDepth 1000000 in
theorem zs_ex : ∀ i, i < 20 → Cond.exactly (.string RX4 (sEnt.getD i 0)) "java/lang/String" ∈ flatC (Jvm.Cond.and given_1 narrow_1) := pk_of (gs := [226, 6, 11, 8, 10, 12, 11, 13, 16, 17, 17, 18, 18, 22, 20, 22, 25, 24, 24, 26]) (X := fun i => Cond.exactly (.string RX4 (sEnt.getD i 0)) "java/lang/String") rfl
set_option maxRecDepth 1000000 in
theorem zs_co : ∀ i, i < 20 → Cond.eq (.field (.string RX4 (sEnt.getD i 0)) "java/lang/String" "coder" "B") (.int 0) ∈ flatC (Jvm.Cond.and given_1 narrow_1) := pk_of (gs := [227, 6, 11, 8, 10, 12, 11, 13, 16, 17, 17, 18, 18, 22, 20, 22, 25, 24, 24, 26]) (X := fun i => Cond.eq (.field (.string RX4 (sEnt.getD i 0)) "java/lang/String" "coder" "B") (.int 0)) rfl
set_option maxRecDepth 1000000 in
theorem zs_ar : ∀ i, i < 20 → Cond.arrayOf (.field (.string RX4 (sEnt.getD i 0)) "java/lang/String" "value" "[B") .byte ∈ flatC (Jvm.Cond.and given_1 narrow_1) := pk_of (gs := [228, 6, 11, 8, 10, 12, 11, 13, 16, 17, 17, 18, 18, 22, 20, 22, 25, 24, 24, 26]) (X := fun i => Cond.arrayOf (.field (.string RX4 (sEnt.getD i 0)) "java/lang/String" "value" "[B") .byte) rfl
set_option maxRecDepth 1000000 in
theorem zs_le : ∀ i, i < 20 → Cond.eq (.length (.field (.string RX4 (sEnt.getD i 0)) "java/lang/String" "value" "[B")) (.int (Int32.ofNat (sLen.getD i 0))) ∈ flatC (Jvm.Cond.and given_1 narrow_1) := pk_of (gs := [229, 6, 11, 8, 10, 12, 11, 13, 16, 17, 17, 18, 18, 22, 20, 22, 25, 24, 24, 26]) (X := fun i => Cond.eq (.length (.field (.string RX4 (sEnt.getD i 0)) "java/lang/String" "value" "[B")) (.int (Int32.ofNat (sLen.getD i 0)))) rfl
end
section
set_option maxRecDepth 1000000 in
theorem zs_el_0 : ∀ j, j < 3 → Cond.eq (.elem (.field (.string RX4 226) "java/lang/String" "value" "[B") (.int (Int32.ofNat j))) (.int ((sByt.getD 0 []).getD j 0)) ∈ flatC (Jvm.Cond.and given_1 narrow_1) := pk_of (gs := [230, 0, 0]) (X := fun j => Cond.eq (.elem (.field (.string RX4 226) "java/lang/String" "value" "[B") (.int (Int32.ofNat j))) (.int ((sByt.getD 0 []).getD j 0))) rfl
set_option maxRecDepth 1000000 in
theorem zs_el_1 : ∀ j, j < 7 → Cond.eq (.elem (.field (.string RX4 228) "java/lang/String" "value" "[B") (.int (Int32.ofNat j))) (.int ((sByt.getD 1 []).getD j 0)) ∈ flatC (Jvm.Cond.and given_1 narrow_1) := pk_of (gs := [237, 0, 0, 0, 0, 0, 0]) (X := fun j => Cond.eq (.elem (.field (.string RX4 228) "java/lang/String" "value" "[B") (.int (Int32.ofNat j))) (.int ((sByt.getD 1 []).getD j 0))) rfl
set_option maxRecDepth 1000000 in
theorem zs_el_2 : ∀ j, j < 3 → Cond.eq (.elem (.field (.string RX4 230) "java/lang/String" "value" "[B") (.int (Int32.ofNat j))) (.int ((sByt.getD 2 []).getD j 0)) ∈ flatC (Jvm.Cond.and given_1 narrow_1) := pk_of (gs := [249, 0, 0]) (X := fun j => Cond.eq (.elem (.field (.string RX4 230) "java/lang/String" "value" "[B") (.int (Int32.ofNat j))) (.int ((sByt.getD 2 []).getD j 0))) rfl
set_option maxRecDepth 1000000 in
theorem zs_el_3 : ∀ j, j < 4 → Cond.eq (.elem (.field (.string RX4 232) "java/lang/String" "value" "[B") (.int (Int32.ofNat j))) (.int ((sByt.getD 3 []).getD j 0)) ∈ flatC (Jvm.Cond.and given_1 narrow_1) := pk_of (gs := [258, 0, 0, 0]) (X := fun j => Cond.eq (.elem (.field (.string RX4 232) "java/lang/String" "value" "[B") (.int (Int32.ofNat j))) (.int ((sByt.getD 3 []).getD j 0))) rfl
set_option maxRecDepth 1000000 in
theorem zs_el_4 : ∀ j, j < 5 → Cond.eq (.elem (.field (.string RX4 233) "java/lang/String" "value" "[B") (.int (Int32.ofNat j))) (.int ((sByt.getD 4 []).getD j 0)) ∈ flatC (Jvm.Cond.and given_1 narrow_1) := pk_of (gs := [269, 0, 0, 0, 0]) (X := fun j => Cond.eq (.elem (.field (.string RX4 233) "java/lang/String" "value" "[B") (.int (Int32.ofNat j))) (.int ((sByt.getD 4 []).getD j 0))) rfl
set_option maxRecDepth 1000000 in
theorem zs_el_5 : ∀ j, j < 3 → Cond.eq (.elem (.field (.string RX4 234) "java/lang/String" "value" "[B") (.int (Int32.ofNat j))) (.int ((sByt.getD 5 []).getD j 0)) ∈ flatC (Jvm.Cond.and given_1 narrow_1) := pk_of (gs := [282, 0, 0]) (X := fun j => Cond.eq (.elem (.field (.string RX4 234) "java/lang/String" "value" "[B") (.int (Int32.ofNat j))) (.int ((sByt.getD 5 []).getD j 0))) rfl
set_option maxRecDepth 1000000 in
theorem zs_el_6 : ∀ j, j < 4 → Cond.eq (.elem (.field (.string RX4 236) "java/lang/String" "value" "[B") (.int (Int32.ofNat j))) (.int ((sByt.getD 6 []).getD j 0)) ∈ flatC (Jvm.Cond.and given_1 narrow_1) := pk_of (gs := [294, 0, 0, 0]) (X := fun j => Cond.eq (.elem (.field (.string RX4 236) "java/lang/String" "value" "[B") (.int (Int32.ofNat j))) (.int ((sByt.getD 6 []).getD j 0))) rfl
set_option maxRecDepth 1000000 in
theorem zs_el_7 : ∀ j, j < 6 → Cond.eq (.elem (.field (.string RX4 238) "java/lang/String" "value" "[B") (.int (Int32.ofNat j))) (.int ((sByt.getD 7 []).getD j 0)) ∈ flatC (Jvm.Cond.and given_1 narrow_1) := pk_of (gs := [308, 0, 0, 0, 0, 0]) (X := fun j => Cond.eq (.elem (.field (.string RX4 238) "java/lang/String" "value" "[B") (.int (Int32.ofNat j))) (.int ((sByt.getD 7 []).getD j 0))) rfl
set_option maxRecDepth 1000000 in
theorem zs_el_8 : ∀ j, j < 6 → Cond.eq (.elem (.field (.string RX4 240) "java/lang/String" "value" "[B") (.int (Int32.ofNat j))) (.int ((sByt.getD 8 []).getD j 0)) ∈ flatC (Jvm.Cond.and given_1 narrow_1) := pk_of (gs := [325, 0, 0, 0, 0, 0]) (X := fun j => Cond.eq (.elem (.field (.string RX4 240) "java/lang/String" "value" "[B") (.int (Int32.ofNat j))) (.int ((sByt.getD 8 []).getD j 0))) rfl
set_option maxRecDepth 1000000 in
theorem zs_el_9 : ∀ j, j < 5 → Cond.eq (.elem (.field (.string RX4 242) "java/lang/String" "value" "[B") (.int (Int32.ofNat j))) (.int ((sByt.getD 9 []).getD j 0)) ∈ flatC (Jvm.Cond.and given_1 narrow_1) := pk_of (gs := [343, 0, 0, 0, 0]) (X := fun j => Cond.eq (.elem (.field (.string RX4 242) "java/lang/String" "value" "[B") (.int (Int32.ofNat j))) (.int ((sByt.getD 9 []).getD j 0))) rfl
set_option maxRecDepth 1000000 in
theorem zs_el_10 : ∀ j, j < 5 → Cond.eq (.elem (.field (.string RX4 244) "java/lang/String" "value" "[B") (.int (Int32.ofNat j))) (.int ((sByt.getD 10 []).getD j 0)) ∈ flatC (Jvm.Cond.and given_1 narrow_1) := pk_of (gs := [361, 0, 0, 0, 0]) (X := fun j => Cond.eq (.elem (.field (.string RX4 244) "java/lang/String" "value" "[B") (.int (Int32.ofNat j))) (.int ((sByt.getD 10 []).getD j 0))) rfl
set_option maxRecDepth 1000000 in
theorem zs_el_11 : ∀ j, j < 4 → Cond.eq (.elem (.field (.string RX4 246) "java/lang/String" "value" "[B") (.int (Int32.ofNat j))) (.int ((sByt.getD 11 []).getD j 0)) ∈ flatC (Jvm.Cond.and given_1 narrow_1) := pk_of (gs := [380, 0, 0, 0]) (X := fun j => Cond.eq (.elem (.field (.string RX4 246) "java/lang/String" "value" "[B") (.int (Int32.ofNat j))) (.int ((sByt.getD 11 []).getD j 0))) rfl
set_option maxRecDepth 1000000 in
theorem zs_el_12 : ∀ j, j < 7 → Cond.eq (.elem (.field (.string RX4 248) "java/lang/String" "value" "[B") (.int (Int32.ofNat j))) (.int ((sByt.getD 12 []).getD j 0)) ∈ flatC (Jvm.Cond.and given_1 narrow_1) := pk_of (gs := [399, 0, 0, 0, 0, 0, 0]) (X := fun j => Cond.eq (.elem (.field (.string RX4 248) "java/lang/String" "value" "[B") (.int (Int32.ofNat j))) (.int ((sByt.getD 12 []).getD j 0))) rfl
set_option maxRecDepth 1000000 in
theorem zs_el_13 : ∀ j, j < 4 → Cond.eq (.elem (.field (.string RX4 250) "java/lang/String" "value" "[B") (.int (Int32.ofNat j))) (.int ((sByt.getD 13 []).getD j 0)) ∈ flatC (Jvm.Cond.and given_1 narrow_1) := pk_of (gs := [422, 0, 0, 0]) (X := fun j => Cond.eq (.elem (.field (.string RX4 250) "java/lang/String" "value" "[B") (.int (Int32.ofNat j))) (.int ((sByt.getD 13 []).getD j 0))) rfl
set_option maxRecDepth 1000000 in
theorem zs_el_14 : ∀ j, j < 5 → Cond.eq (.elem (.field (.string RX4 252) "java/lang/String" "value" "[B") (.int (Int32.ofNat j))) (.int ((sByt.getD 14 []).getD j 0)) ∈ flatC (Jvm.Cond.and given_1 narrow_1) := pk_of (gs := [443, 0, 0, 0, 0]) (X := fun j => Cond.eq (.elem (.field (.string RX4 252) "java/lang/String" "value" "[B") (.int (Int32.ofNat j))) (.int ((sByt.getD 14 []).getD j 0))) rfl
set_option maxRecDepth 1000000 in
theorem zs_el_15 : ∀ j, j < 7 → Cond.eq (.elem (.field (.string RX4 254) "java/lang/String" "value" "[B") (.int (Int32.ofNat j))) (.int ((sByt.getD 15 []).getD j 0)) ∈ flatC (Jvm.Cond.and given_1 narrow_1) := pk_of (gs := [466, 0, 0, 0, 0, 0, 0]) (X := fun j => Cond.eq (.elem (.field (.string RX4 254) "java/lang/String" "value" "[B") (.int (Int32.ofNat j))) (.int ((sByt.getD 15 []).getD j 0))) rfl
set_option maxRecDepth 1000000 in
theorem zs_el_16 : ∀ j, j < 5 → Cond.eq (.elem (.field (.string RX4 256) "java/lang/String" "value" "[B") (.int (Int32.ofNat j))) (.int ((sByt.getD 16 []).getD j 0)) ∈ flatC (Jvm.Cond.and given_1 narrow_1) := pk_of (gs := [492, 0, 0, 0, 0]) (X := fun j => Cond.eq (.elem (.field (.string RX4 256) "java/lang/String" "value" "[B") (.int (Int32.ofNat j))) (.int ((sByt.getD 16 []).getD j 0))) rfl
set_option maxRecDepth 1000000 in
theorem zs_el_17 : ∀ j, j < 4 → Cond.eq (.elem (.field (.string RX4 258) "java/lang/String" "value" "[B") (.int (Int32.ofNat j))) (.int ((sByt.getD 17 []).getD j 0)) ∈ flatC (Jvm.Cond.and given_1 narrow_1) := pk_of (gs := [517, 0, 0, 0]) (X := fun j => Cond.eq (.elem (.field (.string RX4 258) "java/lang/String" "value" "[B") (.int (Int32.ofNat j))) (.int ((sByt.getD 17 []).getD j 0))) rfl
set_option maxRecDepth 1000000 in
theorem zs_el_18 : ∀ j, j < 5 → Cond.eq (.elem (.field (.string RX4 260) "java/lang/String" "value" "[B") (.int (Int32.ofNat j))) (.int ((sByt.getD 18 []).getD j 0)) ∈ flatC (Jvm.Cond.and given_1 narrow_1) := pk_of (gs := [542, 0, 0, 0, 0]) (X := fun j => Cond.eq (.elem (.field (.string RX4 260) "java/lang/String" "value" "[B") (.int (Int32.ofNat j))) (.int ((sByt.getD 18 []).getD j 0))) rfl
set_option maxRecDepth 1000000 in
theorem zs_el_19 : ∀ j, j < 4 → Cond.eq (.elem (.field (.string RX4 262) "java/lang/String" "value" "[B") (.int (Int32.ofNat j))) (.int ((sByt.getD 19 []).getD j 0)) ∈ flatC (Jvm.Cond.and given_1 narrow_1) := pk_of (gs := [569, 0, 0, 0]) (X := fun j => Cond.eq (.elem (.field (.string RX4 262) "java/lang/String" "value" "[B") (.int (Int32.ofNat j))) (.int ((sByt.getD 19 []).getD j 0))) rfl
theorem zs_el : ∀ i, i < 20 → ∀ j, j < sLen.getD i 0 → Cond.eq (.elem (.field (.string RX4 (sEnt.getD i 0)) "java/lang/String" "value" "[B") (.int (Int32.ofNat j))) (.int ((sByt.getD i []).getD j 0)) ∈ flatC (Jvm.Cond.and given_1 narrow_1) := fun i hi => match i, hi with
  | 0, _ => zs_el_0
  | 1, _ => zs_el_1
  | 2, _ => zs_el_2
  | 3, _ => zs_el_3
  | 4, _ => zs_el_4
  | 5, _ => zs_el_5
  | 6, _ => zs_el_6
  | 7, _ => zs_el_7
  | 8, _ => zs_el_8
  | 9, _ => zs_el_9
  | 10, _ => zs_el_10
  | 11, _ => zs_el_11
  | 12, _ => zs_el_12
  | 13, _ => zs_el_13
  | 14, _ => zs_el_14
  | 15, _ => zs_el_15
  | 16, _ => zs_el_16
  | 17, _ => zs_el_17
  | 18, _ => zs_el_18
  | 19, _ => zs_el_19
  | i + 20, h => absurd h (by omega)
end
section
set_option maxRecDepth 1000000 in
theorem zs_ne_0 : ∀ i, i < 0 → Cond.not (Cond.eq (.string RX4 (sEnt.getD i 0)) (.string RX4 226)) ∈ flatC (Jvm.Cond.and given_1 narrow_1) := pk_of (gs := []) (X := fun i => Cond.not (Cond.eq (.string RX4 (sEnt.getD i 0)) (.string RX4 226))) rfl
set_option maxRecDepth 1000000 in
theorem zs_ne_1 : ∀ i, i < 1 → Cond.not (Cond.eq (.string RX4 (sEnt.getD i 0)) (.string RX4 228)) ∈ flatC (Jvm.Cond.and given_1 narrow_1) := pk_of (gs := [244]) (X := fun i => Cond.not (Cond.eq (.string RX4 (sEnt.getD i 0)) (.string RX4 228))) rfl
set_option maxRecDepth 1000000 in
theorem zs_ne_2 : ∀ i, i < 2 → Cond.not (Cond.eq (.string RX4 (sEnt.getD i 0)) (.string RX4 230)) ∈ flatC (Jvm.Cond.and given_1 narrow_1) := pk_of (gs := [252, 0]) (X := fun i => Cond.not (Cond.eq (.string RX4 (sEnt.getD i 0)) (.string RX4 230))) rfl
set_option maxRecDepth 1000000 in
theorem zs_ne_3 : ∀ i, i < 3 → Cond.not (Cond.eq (.string RX4 (sEnt.getD i 0)) (.string RX4 232)) ∈ flatC (Jvm.Cond.and given_1 narrow_1) := pk_of (gs := [262, 0, 0]) (X := fun i => Cond.not (Cond.eq (.string RX4 (sEnt.getD i 0)) (.string RX4 232))) rfl
set_option maxRecDepth 1000000 in
theorem zs_ne_4 : ∀ i, i < 4 → Cond.not (Cond.eq (.string RX4 (sEnt.getD i 0)) (.string RX4 233)) ∈ flatC (Jvm.Cond.and given_1 narrow_1) := pk_of (gs := [274, 0, 0, 0]) (X := fun i => Cond.not (Cond.eq (.string RX4 (sEnt.getD i 0)) (.string RX4 233))) rfl
set_option maxRecDepth 1000000 in
theorem zs_ne_5 : ∀ i, i < 5 → Cond.not (Cond.eq (.string RX4 (sEnt.getD i 0)) (.string RX4 234)) ∈ flatC (Jvm.Cond.and given_1 narrow_1) := pk_of (gs := [285, 0, 0, 0, 0]) (X := fun i => Cond.not (Cond.eq (.string RX4 (sEnt.getD i 0)) (.string RX4 234))) rfl
set_option maxRecDepth 1000000 in
theorem zs_ne_6 : ∀ i, i < 6 → Cond.not (Cond.eq (.string RX4 (sEnt.getD i 0)) (.string RX4 236)) ∈ flatC (Jvm.Cond.and given_1 narrow_1) := pk_of (gs := [298, 0, 0, 0, 0, 0]) (X := fun i => Cond.not (Cond.eq (.string RX4 (sEnt.getD i 0)) (.string RX4 236))) rfl
set_option maxRecDepth 1000000 in
theorem zs_ne_7 : ∀ i, i < 7 → Cond.not (Cond.eq (.string RX4 (sEnt.getD i 0)) (.string RX4 238)) ∈ flatC (Jvm.Cond.and given_1 narrow_1) := pk_of (gs := [314, 0, 0, 0, 0, 0, 0]) (X := fun i => Cond.not (Cond.eq (.string RX4 (sEnt.getD i 0)) (.string RX4 238))) rfl
set_option maxRecDepth 1000000 in
theorem zs_ne_8 : ∀ i, i < 8 → Cond.not (Cond.eq (.string RX4 (sEnt.getD i 0)) (.string RX4 240)) ∈ flatC (Jvm.Cond.and given_1 narrow_1) := pk_of (gs := [331, 0, 0, 0, 0, 0, 0, 0]) (X := fun i => Cond.not (Cond.eq (.string RX4 (sEnt.getD i 0)) (.string RX4 240))) rfl
set_option maxRecDepth 1000000 in
theorem zs_ne_9 : ∀ i, i < 9 → Cond.not (Cond.eq (.string RX4 (sEnt.getD i 0)) (.string RX4 242)) ∈ flatC (Jvm.Cond.and given_1 narrow_1) := pk_of (gs := [348, 0, 0, 0, 0, 0, 0, 0, 0]) (X := fun i => Cond.not (Cond.eq (.string RX4 (sEnt.getD i 0)) (.string RX4 242))) rfl
set_option maxRecDepth 1000000 in
theorem zs_ne_10 : ∀ i, i < 10 → Cond.not (Cond.eq (.string RX4 (sEnt.getD i 0)) (.string RX4 244)) ∈ flatC (Jvm.Cond.and given_1 narrow_1) := pk_of (gs := [366, 0, 0, 0, 0, 0, 0, 0, 0, 0]) (X := fun i => Cond.not (Cond.eq (.string RX4 (sEnt.getD i 0)) (.string RX4 244))) rfl
set_option maxRecDepth 1000000 in
theorem zs_ne_11 : ∀ i, i < 11 → Cond.not (Cond.eq (.string RX4 (sEnt.getD i 0)) (.string RX4 246)) ∈ flatC (Jvm.Cond.and given_1 narrow_1) := pk_of (gs := [384, 0, 0, 0, 0, 0, 0, 0, 0, 0, 0]) (X := fun i => Cond.not (Cond.eq (.string RX4 (sEnt.getD i 0)) (.string RX4 246))) rfl
set_option maxRecDepth 1000000 in
theorem zs_ne_12 : ∀ i, i < 12 → Cond.not (Cond.eq (.string RX4 (sEnt.getD i 0)) (.string RX4 248)) ∈ flatC (Jvm.Cond.and given_1 narrow_1) := pk_of (gs := [406, 0, 0, 0, 0, 0, 0, 0, 0, 0, 0, 0]) (X := fun i => Cond.not (Cond.eq (.string RX4 (sEnt.getD i 0)) (.string RX4 248))) rfl
set_option maxRecDepth 1000000 in
theorem zs_ne_13 : ∀ i, i < 13 → Cond.not (Cond.eq (.string RX4 (sEnt.getD i 0)) (.string RX4 250)) ∈ flatC (Jvm.Cond.and given_1 narrow_1) := pk_of (gs := [426, 0, 0, 0, 0, 0, 0, 0, 0, 0, 0, 0, 0]) (X := fun i => Cond.not (Cond.eq (.string RX4 (sEnt.getD i 0)) (.string RX4 250))) rfl
set_option maxRecDepth 1000000 in
theorem zs_ne_14 : ∀ i, i < 14 → Cond.not (Cond.eq (.string RX4 (sEnt.getD i 0)) (.string RX4 252)) ∈ flatC (Jvm.Cond.and given_1 narrow_1) := pk_of (gs := [448, 0, 0, 0, 0, 0, 0, 0, 0, 0, 0, 0, 0, 0]) (X := fun i => Cond.not (Cond.eq (.string RX4 (sEnt.getD i 0)) (.string RX4 252))) rfl
set_option maxRecDepth 1000000 in
theorem zs_ne_15 : ∀ i, i < 15 → Cond.not (Cond.eq (.string RX4 (sEnt.getD i 0)) (.string RX4 254)) ∈ flatC (Jvm.Cond.and given_1 narrow_1) := pk_of (gs := [473, 0, 0, 0, 0, 0, 0, 0, 0, 0, 0, 0, 0, 0, 0]) (X := fun i => Cond.not (Cond.eq (.string RX4 (sEnt.getD i 0)) (.string RX4 254))) rfl
set_option maxRecDepth 1000000 in
theorem zs_ne_16 : ∀ i, i < 16 → Cond.not (Cond.eq (.string RX4 (sEnt.getD i 0)) (.string RX4 256)) ∈ flatC (Jvm.Cond.and given_1 narrow_1) := pk_of (gs := [497, 0, 0, 0, 0, 0, 0, 0, 0, 0, 0, 0, 0, 0, 0, 0]) (X := fun i => Cond.not (Cond.eq (.string RX4 (sEnt.getD i 0)) (.string RX4 256))) rfl
set_option maxRecDepth 1000000 in
theorem zs_ne_17 : ∀ i, i < 17 → Cond.not (Cond.eq (.string RX4 (sEnt.getD i 0)) (.string RX4 258)) ∈ flatC (Jvm.Cond.and given_1 narrow_1) := pk_of (gs := [521, 0, 0, 0, 0, 0, 0, 0, 0, 0, 0, 0, 0, 0, 0, 0, 0]) (X := fun i => Cond.not (Cond.eq (.string RX4 (sEnt.getD i 0)) (.string RX4 258))) rfl
set_option maxRecDepth 1000000 in
theorem zs_ne_18 : ∀ i, i < 18 → Cond.not (Cond.eq (.string RX4 (sEnt.getD i 0)) (.string RX4 260)) ∈ flatC (Jvm.Cond.and given_1 narrow_1) := pk_of (gs := [547, 0, 0, 0, 0, 0, 0, 0, 0, 0, 0, 0, 0, 0, 0, 0, 0, 0]) (X := fun i => Cond.not (Cond.eq (.string RX4 (sEnt.getD i 0)) (.string RX4 260))) rfl
set_option maxRecDepth 1000000 in
theorem zs_ne_19 : ∀ i, i < 19 → Cond.not (Cond.eq (.string RX4 (sEnt.getD i 0)) (.string RX4 262)) ∈ flatC (Jvm.Cond.and given_1 narrow_1) := pk_of (gs := [573, 0, 0, 0, 0, 0, 0, 0, 0, 0, 0, 0, 0, 0, 0, 0, 0, 0, 0]) (X := fun i => Cond.not (Cond.eq (.string RX4 (sEnt.getD i 0)) (.string RX4 262))) rfl
theorem zs_nl : ∀ j, j < 20 → ∀ i, i < j → Cond.not (Cond.eq (.string RX4 (sEnt.getD i 0)) (.string RX4 (sEnt.getD j 0))) ∈ flatC (Jvm.Cond.and given_1 narrow_1) := fun j hj => match j, hj with
  | 0, _ => zs_ne_0
  | 1, _ => zs_ne_1
  | 2, _ => zs_ne_2
  | 3, _ => zs_ne_3
  | 4, _ => zs_ne_4
  | 5, _ => zs_ne_5
  | 6, _ => zs_ne_6
  | 7, _ => zs_ne_7
  | 8, _ => zs_ne_8
  | 9, _ => zs_ne_9
  | 10, _ => zs_ne_10
  | 11, _ => zs_ne_11
  | 12, _ => zs_ne_12
  | 13, _ => zs_ne_13
  | 14, _ => zs_ne_14
  | 15, _ => zs_ne_15
  | 16, _ => zs_ne_16
  | 17, _ => zs_ne_17
  | 18, _ => zs_ne_18
  | 19, _ => zs_ne_19
  | i + 20, h => absurd h (by omega)
theorem zs_ne : ∀ i, i < 20 → ∀ j, j < 20 → i ≠ j → Cond.not (Cond.eq (.string RX4 (sEnt.getD i 0)) (.string RX4 (sEnt.getD j 0))) ∈ flatC (Jvm.Cond.and given_1 narrow_1) ∨ Cond.not (Cond.eq (.string RX4 (sEnt.getD j 0)) (.string RX4 (sEnt.getD i 0))) ∈ flatC (Jvm.Cond.and given_1 narrow_1) := fun i hi j hj hne => (Nat.lt_or_gt_of_ne hne).elim (fun h => Or.inl (zs_nl j hj i h)) (fun h => Or.inr (zs_nl i hi j h))
end
section
theorem zs_len : ∀ i, i < 20 → sLen.getD i 0 < 2 ^ 31 := by decide +kernel
set_option maxHeartbeats 4000000 in
theorem zs_ref : ∀ i, i < 20 → Cond.stringRef RX4 (sEnt.getD i 0) (sTxt.getD i "") ∈ lw_tbl := fun i hi => match i, hi with
  | 0, _ => (List.mem_of_getElem? (i := 641) (by decide +kernel))
  | 1, _ => (List.mem_of_getElem? (i := 642) (by decide +kernel))
  | 2, _ => (List.mem_of_getElem? (i := 643) (by decide +kernel))
  | 3, _ => (List.mem_of_getElem? (i := 644) (by decide +kernel))
  | 4, _ => (List.mem_of_getElem? (i := 645) (by decide +kernel))
  | 5, _ => (List.mem_of_getElem? (i := 646) (by decide +kernel))
  | 6, _ => (List.mem_of_getElem? (i := 647) (by decide +kernel))
  | 7, _ => (List.mem_of_getElem? (i := 648) (by decide +kernel))
  | 8, _ => (List.mem_of_getElem? (i := 649) (by decide +kernel))
  | 9, _ => (List.mem_of_getElem? (i := 650) (by decide +kernel))
  | 10, _ => (List.mem_of_getElem? (i := 651) (by decide +kernel))
  | 11, _ => (List.mem_of_getElem? (i := 652) (by decide +kernel))
  | 12, _ => (List.mem_of_getElem? (i := 653) (by decide +kernel))
  | 13, _ => (List.mem_of_getElem? (i := 654) (by decide +kernel))
  | 14, _ => (List.mem_of_getElem? (i := 655) (by decide +kernel))
  | 15, _ => (List.mem_of_getElem? (i := 656) (by decide +kernel))
  | 16, _ => (List.mem_of_getElem? (i := 657) (by decide +kernel))
  | 17, _ => (List.mem_of_getElem? (i := 658) (by decide +kernel))
  | 18, _ => (List.mem_of_getElem? (i := 659) (by decide +kernel))
  | 19, _ => (List.mem_of_getElem? (i := 660) (by decide +kernel))
  | i + 20, h => absurd h (by omega)
theorem zZ_start {p : Program} {s : State} {m : MethodId} {meth : Method} {c : Code} {b L : Nat} {xs : Nat → Int32} (C0 : lw_At p s m meth c b L xs) : ∃ G : zG, zZ G (fun q => s.heap.size ≤ q) s s.heap := by
  obtain ⟨hx, hb, hr, hml, hown, hts, hX, hbl, hlocks, hgv⟩ := C0
  have hs := flat_of_before _ hgv
  have hA : ∀ a : Nat, a < s.heap.size → ¬ (fun q : Nat => s.heap.size ≤ q) a := fun a h => Nat.not_le.mpr h
  obtain ⟨t0, e0, T0⟩ := va_Tof (tm := .static RX4 "FIRST_WORDS" "[I") (ty := .int) (N := 5) (f := fun j => .int (tbf_0 j)) (by decide) (hs _ (by decide +kernel)) (va_eqt (hs _ (by decide +kernel))) (fun j hj => va_eqt (hs _ (zs_t0 j hj))) hA
  have Z0 := va_Zref (hts (.laysStatic RX4 "FIRST_WORDS" "[I") (List.mem_of_getElem? (i := 637) (by decide +kernel))) (hts (.initialized RX4) (List.mem_of_getElem? (i := 152) (by decide +kernel))) e0 hA
  obtain ⟨t1, e1, T1⟩ := va_Tof (tm := .static RX4 "NUMBERS" "[I") (ty := .int) (N := 20) (f := fun j => .int (tbf_1 j)) (by decide) (hs _ (by decide +kernel)) (va_eqt (hs _ (by decide +kernel))) (fun j hj => va_eqt (hs _ (zs_t1 j hj))) hA
  have Z1 := va_Zref (hts (.laysStatic RX4 "NUMBERS" "[I") (List.mem_of_getElem? (i := 726) (by decide +kernel))) (hts (.initialized RX4) (List.mem_of_getElem? (i := 152) (by decide +kernel))) e1 hA
  obtain ⟨t2, e2, T2⟩ := va_Tof (tm := .static RX4 "LEAST" "[I") (ty := .int) (N := 60) (f := fun j => .int (tbf_2 j)) (by decide) (hs _ (by decide +kernel)) (va_eqt (hs _ (by decide +kernel))) (fun j hj => va_eqt (hs _ (zs_t2 j hj))) hA
  have Z2 := va_Zref (hts (.laysStatic RX4 "LEAST" "[I") (List.mem_of_getElem? (i := 732) (by decide +kernel))) (hts (.initialized RX4) (List.mem_of_getElem? (i := 152) (by decide +kernel))) e2 hA
  obtain ⟨t3, e3, T3⟩ := va_Tof (tm := .static RX4 "MOST" "[I") (ty := .int) (N := 60) (f := fun j => .int (tbf_3 j)) (by decide) (hs _ (by decide +kernel)) (va_eqt (hs _ (by decide +kernel))) (fun j hj => va_eqt (hs _ (zs_t3 j hj))) hA
  have Z3 := va_Zref (hts (.laysStatic RX4 "MOST" "[I") (List.mem_of_getElem? (i := 734) (by decide +kernel))) (hts (.initialized RX4) (List.mem_of_getElem? (i := 152) (by decide +kernel))) e3 hA
  have Zc := va_Zof (hts (.laysStatic "java/lang/String" "COMPACT_STRINGS" "Z") (List.mem_of_getElem? (i := 674) (by decide +kernel))) (hts (.initialized "java/lang/String") (List.mem_of_getElem? (i := 160) (by decide +kernel))) (va_eqi (z := 1) (hs _ (by decide +kernel))) hA
  have Zf := va_Zqof (hts (.laysStatic "jdk/internal/util/Preconditions" "SIOOBE_FORMATTER" "Ljava/util/function/BiFunction;") (List.mem_of_getElem? (i := 690) (by decide +kernel))) (hts (.initialized "jdk/internal/util/Preconditions") (List.mem_of_getElem? (i := 162) (by decide +kernel))) (hs _ (by decide +kernel)) hA
  obtain ⟨adK, adV, hSt, hev⟩ := vk_Sof (N := 20) (tm := fun i => .string RX4 (sEnt.getD i 0)) (len := sLen) (byt := sByt) zs_len (fun i hi => hs _ (zs_ex i hi)) (fun i hi => hs _ (zs_co i hi)) (fun i hi => hs _ (zs_ar i hi)) (fun i hi => hs _ (zs_le i hi)) (fun i hi j hj => hs _ (zs_el i hi j hj)) (fun i j hi hj hne => (zs_ne i hi j hj hne).elim (fun h => Or.inl (hs _ h)) (fun h => Or.inr (hs _ h))) hA
  exact ⟨(adK, adV, fun k => match k with | 0 => t0 | 1 => t1 | 2 => t2 | _ => t3), ⟨Z0, Z1, Z2, Z3⟩, ⟨T0, T1, T2, T3⟩, ⟨Zc, Zf⟩, hSt, fun i hi => vk_R.of (hts _ (zs_ref i hi)) (hev i hi)⟩
end
