section
set_option maxRecDepth 40000 in
set_option maxHeartbeats 4000000 in
theorem tG_copy3 {a_tape : Nat → Int32} {f_length : Int32} {f_fault : Int32} {f_place : Int32} {a_counts : Nat → Int32} {l0f_huts : Int32} {l0f_singers : Int32} {l0f_villages : Int32} {l0f_dams : Int32} {l0f_echoes : Int32} {l0f_deep : Int32} {l0f_slide : Int32} {l0a_heights : Nat → Int32} {l0a_ladders : Nat → Int32} {l0a_minutes : Nat → Int32} {l0a_echoFrom : Nat → Int32} {l0a_echoTo : Nat → Int32} {l0a_homes : Nat → Int32} {l0a_talls : Nat → Int32} {l0a_known : Nat → Int32} {l1f_huts : Int32} {l1f_singers : Int32} {l1f_villages : Int32} {l1f_dams : Int32} {l1f_echoes : Int32} {l1f_deep : Int32} {l1f_slide : Int32} {l1a_heights : Nat → Int32} {l1a_ladders : Nat → Int32} {l1a_minutes : Nat → Int32} {l1a_echoFrom : Nat → Int32} {l1a_echoTo : Nat → Int32} {l1a_homes : Nat → Int32} {l1a_talls : Nat → Int32} {l1a_known : Nat → Int32} {v0f_deeds : Int32} {v0a_kinds : Nat → Int32} {v0a_firsts : Nat → Int32} {v0a_seconds : Nat → Int32} {v1f_deeds : Int32} {v1a_kinds : Nat → Int32} {v1a_firsts : Nat → Int32} {v1a_seconds : Nat → Int32} {s0f_facts : Int32} {s0a_heard : Nat → Int32} {s0a_huts : Nat → Int32} {s0a_minutes : Nat → Int32} {s1f_facts : Int32} {s1a_heard : Nat → Int32} {s1a_huts : Nat → Int32} {s1a_minutes : Nat → Int32} {c0f_voices : Int32} {c0f_step : Int32} {c0a_parts : Nat → Int32} {c0a_heights : Nat → Int32} {c1f_voices : Int32} {c1f_step : Int32} {c1a_parts : Nat → Int32} {c1a_heights : Nat → Int32} {oa_tape : Nat → Int32} {of_length : Int32} {of_fault : Int32} {of_place : Int32} {oa_counts : Nat → Int32} {ol0f_huts : Int32} {ol0f_singers : Int32} {ol0f_villages : Int32} {ol0f_dams : Int32} {ol0f_echoes : Int32} {ol0f_deep : Int32} {ol0f_slide : Int32} {ol0a_heights : Nat → Int32} {ol0a_ladders : Nat → Int32} {ol0a_minutes : Nat → Int32} {ol0a_echoFrom : Nat → Int32} {ol0a_echoTo : Nat → Int32} {ol0a_homes : Nat → Int32} {ol0a_talls : Nat → Int32} {ol0a_known : Nat → Int32} {ol1f_huts : Int32} {ol1f_singers : Int32} {ol1f_villages : Int32} {ol1f_dams : Int32} {ol1f_echoes : Int32} {ol1f_deep : Int32} {ol1f_slide : Int32} {ol1a_heights : Nat → Int32} {ol1a_ladders : Nat → Int32} {ol1a_minutes : Nat → Int32} {ol1a_echoFrom : Nat → Int32} {ol1a_echoTo : Nat → Int32} {ol1a_homes : Nat → Int32} {ol1a_talls : Nat → Int32} {ol1a_known : Nat → Int32} {ov0f_deeds : Int32} {ov0a_kinds : Nat → Int32} {ov0a_firsts : Nat → Int32} {ov0a_seconds : Nat → Int32} {ov1f_deeds : Int32} {ov1a_kinds : Nat → Int32} {ov1a_firsts : Nat → Int32} {ov1a_seconds : Nat → Int32} {os0f_facts : Int32} {os0a_heard : Nat → Int32} {os0a_huts : Nat → Int32} {os0a_minutes : Nat → Int32} {os1f_facts : Int32} {os1a_heard : Nat → Int32} {os1a_huts : Nat → Int32} {os1a_minutes : Nat → Int32} {oc0f_voices : Int32} {oc0f_step : Int32} {oc0a_parts : Nat → Int32} {oc0a_heights : Nat → Int32} {oc1f_voices : Int32} {oc1f_step : Int32} {oc1a_parts : Nat → Int32} {oc1a_heights : Nat → Int32} {post : (Nat → Int32) → (Int32) → (Int32) → (Int32) → (Nat → Int32) → (Int32) → (Int32) → (Int32) → (Int32) → (Int32) → (Int32) → (Int32) → (Nat → Int32) → (Nat → Int32) → (Nat → Int32) → (Nat → Int32) → (Nat → Int32) → (Nat → Int32) → (Nat → Int32) → (Nat → Int32) → (Int32) → (Int32) → (Int32) → (Int32) → (Int32) → (Int32) → (Int32) → (Nat → Int32) → (Nat → Int32) → (Nat → Int32) → (Nat → Int32) → (Nat → Int32) → (Nat → Int32) → (Nat → Int32) → (Nat → Int32) → (Int32) → (Nat → Int32) → (Nat → Int32) → (Nat → Int32) → (Int32) → (Nat → Int32) → (Nat → Int32) → (Nat → Int32) → (Int32) → (Nat → Int32) → (Nat → Int32) → (Nat → Int32) → (Int32) → (Nat → Int32) → (Nat → Int32) → (Nat → Int32) → (Int32) → (Int32) → (Nat → Int32) → (Nat → Int32) → (Int32) → (Int32) → (Nat → Int32) → (Nat → Int32) → Prop} (hT : tG a_tape f_length f_fault f_place a_counts l0f_huts l0f_singers l0f_villages l0f_dams l0f_echoes l0f_deep l0f_slide l0a_heights l0a_ladders l0a_minutes l0a_echoFrom l0a_echoTo l0a_homes l0a_talls l0a_known l1f_huts l1f_singers l1f_villages l1f_dams l1f_echoes l1f_deep l1f_slide l1a_heights l1a_ladders l1a_minutes l1a_echoFrom l1a_echoTo l1a_homes l1a_talls l1a_known v0f_deeds v0a_kinds v0a_firsts v0a_seconds v1f_deeds v1a_kinds v1a_firsts v1a_seconds s0f_facts s0a_heard s0a_huts s0a_minutes s1f_facts s1a_heard s1a_huts s1a_minutes c0f_voices c0f_step c0a_parts c0a_heights c1f_voices c1f_step c1a_parts c1a_heights) (hO : tG oa_tape of_length of_fault of_place oa_counts ol0f_huts ol0f_singers ol0f_villages ol0f_dams ol0f_echoes ol0f_deep ol0f_slide ol0a_heights ol0a_ladders ol0a_minutes ol0a_echoFrom ol0a_echoTo ol0a_homes ol0a_talls ol0a_known ol1f_huts ol1f_singers ol1f_villages ol1f_dams ol1f_echoes ol1f_deep ol1f_slide ol1a_heights ol1a_ladders ol1a_minutes ol1a_echoFrom ol1a_echoTo ol1a_homes ol1a_talls ol1a_known ov0f_deeds ov0a_kinds ov0a_firsts ov0a_seconds ov1f_deeds ov1a_kinds ov1a_firsts ov1a_seconds os0f_facts os0a_heard os0a_huts os0a_minutes os1f_facts os1a_heard os1a_huts os1a_minutes oc0f_voices oc0f_step oc0a_parts oc0a_heights oc1f_voices oc1f_step oc1a_parts oc1a_heights) (hpost : ∀ (na_tape : Nat → Int32) (nf_length : Int32) (nf_fault : Int32) (nf_place : Int32) (na_counts : Nat → Int32) (nl0f_huts : Int32) (nl0f_singers : Int32) (nl0f_villages : Int32) (nl0f_dams : Int32) (nl0f_echoes : Int32) (nl0f_deep : Int32) (nl0f_slide : Int32) (nl0a_heights : Nat → Int32) (nl0a_ladders : Nat → Int32) (nl0a_minutes : Nat → Int32) (nl0a_echoFrom : Nat → Int32) (nl0a_echoTo : Nat → Int32) (nl0a_homes : Nat → Int32) (nl0a_talls : Nat → Int32) (nl0a_known : Nat → Int32) (nl1f_huts : Int32) (nl1f_singers : Int32) (nl1f_villages : Int32) (nl1f_dams : Int32) (nl1f_echoes : Int32) (nl1f_deep : Int32) (nl1f_slide : Int32) (nl1a_heights : Nat → Int32) (nl1a_ladders : Nat → Int32) (nl1a_minutes : Nat → Int32) (nl1a_echoFrom : Nat → Int32) (nl1a_echoTo : Nat → Int32) (nl1a_homes : Nat → Int32) (nl1a_talls : Nat → Int32) (nl1a_known : Nat → Int32) (nv0f_deeds : Int32) (nv0a_kinds : Nat → Int32) (nv0a_firsts : Nat → Int32) (nv0a_seconds : Nat → Int32) (nv1f_deeds : Int32) (nv1a_kinds : Nat → Int32) (nv1a_firsts : Nat → Int32) (nv1a_seconds : Nat → Int32) (ns0f_facts : Int32) (ns0a_heard : Nat → Int32) (ns0a_huts : Nat → Int32) (ns0a_minutes : Nat → Int32) (ns1f_facts : Int32) (ns1a_heard : Nat → Int32) (ns1a_huts : Nat → Int32) (ns1a_minutes : Nat → Int32) (nc0f_voices : Int32) (nc0f_step : Int32) (nc0a_parts : Nat → Int32) (nc0a_heights : Nat → Int32) (nc1f_voices : Int32) (nc1f_step : Int32) (nc1a_parts : Nat → Int32) (nc1a_heights : Nat → Int32), tG na_tape nf_length nf_fault nf_place na_counts nl0f_huts nl0f_singers nl0f_villages nl0f_dams nl0f_echoes nl0f_deep nl0f_slide nl0a_heights nl0a_ladders nl0a_minutes nl0a_echoFrom nl0a_echoTo nl0a_homes nl0a_talls nl0a_known nl1f_huts nl1f_singers nl1f_villages nl1f_dams nl1f_echoes nl1f_deep nl1f_slide nl1a_heights nl1a_ladders nl1a_minutes nl1a_echoFrom nl1a_echoTo nl1a_homes nl1a_talls nl1a_known nv0f_deeds nv0a_kinds nv0a_firsts nv0a_seconds nv1f_deeds nv1a_kinds nv1a_firsts nv1a_seconds ns0f_facts ns0a_heard ns0a_huts ns0a_minutes ns1f_facts ns1a_heard ns1a_huts ns1a_minutes nc0f_voices nc0f_step nc0a_parts nc0a_heights nc1f_voices nc1f_step nc1a_parts nc1a_heights → tCP (tmk na_tape nf_length nf_fault nf_place na_counts nl0f_huts nl0f_singers nl0f_villages nl0f_dams nl0f_echoes nl0f_deep nl0f_slide nl0a_heights nl0a_ladders nl0a_minutes nl0a_echoFrom nl0a_echoTo nl0a_homes nl0a_talls nl0a_known nl1f_huts nl1f_singers nl1f_villages nl1f_dams nl1f_echoes nl1f_deep nl1f_slide nl1a_heights nl1a_ladders nl1a_minutes nl1a_echoFrom nl1a_echoTo nl1a_homes nl1a_talls nl1a_known nv0f_deeds nv0a_kinds nv0a_firsts nv0a_seconds nv1f_deeds nv1a_kinds nv1a_firsts nv1a_seconds ns0f_facts ns0a_heard ns0a_huts ns0a_minutes ns1f_facts ns1a_heard ns1a_huts ns1a_minutes nc0f_voices nc0f_step nc0a_parts nc0a_heights nc1f_voices nc1f_step nc1a_parts nc1a_heights) (tmk oa_tape of_length of_fault of_place oa_counts ol0f_huts ol0f_singers ol0f_villages ol0f_dams ol0f_echoes ol0f_deep ol0f_slide ol0a_heights ol0a_ladders ol0a_minutes ol0a_echoFrom ol0a_echoTo ol0a_homes ol0a_talls ol0a_known ol1f_huts ol1f_singers ol1f_villages ol1f_dams ol1f_echoes ol1f_deep ol1f_slide ol1a_heights ol1a_ladders ol1a_minutes ol1a_echoFrom ol1a_echoTo ol1a_homes ol1a_talls ol1a_known ov0f_deeds ov0a_kinds ov0a_firsts ov0a_seconds ov1f_deeds ov1a_kinds ov1a_firsts ov1a_seconds os0f_facts os0a_heard os0a_huts os0a_minutes os1f_facts os1a_heard os1a_huts os1a_minutes oc0f_voices oc0f_step oc0a_parts oc0a_heights oc1f_voices oc1f_step oc1a_parts oc1a_heights) → post na_tape nf_length nf_fault nf_place na_counts nl0f_huts nl0f_singers nl0f_villages nl0f_dams nl0f_echoes nl0f_deep nl0f_slide nl0a_heights nl0a_ladders nl0a_minutes nl0a_echoFrom nl0a_echoTo nl0a_homes nl0a_talls nl0a_known nl1f_huts nl1f_singers nl1f_villages nl1f_dams nl1f_echoes nl1f_deep nl1f_slide nl1a_heights nl1a_ladders nl1a_minutes nl1a_echoFrom nl1a_echoTo nl1a_homes nl1a_talls nl1a_known nv0f_deeds nv0a_kinds nv0a_firsts nv0a_seconds nv1f_deeds nv1a_kinds nv1a_firsts nv1a_seconds ns0f_facts ns0a_heard ns0a_huts ns0a_minutes ns1f_facts ns1a_heard ns1a_huts ns1a_minutes nc0f_voices nc0f_step nc0a_parts nc0a_heights nc1f_voices nc1f_step nc1a_parts nc1a_heights) : q_wtt_X9_copyFrom_47_0 a_tape f_length f_fault f_place a_counts l0f_huts l0f_singers l0f_villages l0f_dams l0f_echoes l0f_deep l0f_slide l0a_heights l0a_ladders l0a_minutes l0a_echoFrom l0a_echoTo l0a_homes l0a_talls l0a_known l1f_huts l1f_singers l1f_villages l1f_dams l1f_echoes l1f_deep l1f_slide l1a_heights l1a_ladders l1a_minutes l1a_echoFrom l1a_echoTo l1a_homes l1a_talls l1a_known v0f_deeds v0a_kinds v0a_firsts v0a_seconds v1f_deeds v1a_kinds v1a_firsts v1a_seconds s0f_facts s0a_heard s0a_huts s0a_minutes s1f_facts s1a_heard s1a_huts s1a_minutes c0f_voices c0f_step c0a_parts c0a_heights c1f_voices c1f_step c1a_parts c1a_heights oa_tape of_length of_fault of_place oa_counts ol0f_huts ol0f_singers ol0f_villages ol0f_dams ol0f_echoes ol0f_deep ol0f_slide ol0a_heights ol0a_ladders ol0a_minutes ol0a_echoFrom ol0a_echoTo ol0a_homes ol0a_talls ol0a_known ol1f_huts ol1f_singers ol1f_villages ol1f_dams ol1f_echoes ol1f_deep ol1f_slide ol1a_heights ol1a_ladders ol1a_minutes ol1a_echoFrom ol1a_echoTo ol1a_homes ol1a_talls ol1a_known ov0f_deeds ov0a_kinds ov0a_firsts ov0a_seconds ov1f_deeds ov1a_kinds ov1a_firsts ov1a_seconds os0f_facts os0a_heard os0a_huts os0a_minutes os1f_facts os1a_heard os1a_huts os1a_minutes oc0f_voices oc0f_step oc0a_parts oc0a_heights oc1f_voices oc1f_step oc1a_parts oc1a_heights post := by
  obtain ⟨t_a_tape, t_f_length, t_f_fault, t_f_place, t_a_counts, t_l0f_huts, t_l0f_singers, t_l0f_villages, t_l0f_dams, t_l0f_echoes, t_l0f_deep, t_l0f_slide, t_l0a_heights, t_l0a_ladders, t_l0a_minutes, t_l0a_echoFrom, t_l0a_echoTo, t_l0a_homes, t_l0a_talls, t_l0a_known, t_l1f_huts, t_l1f_singers, t_l1f_villages, t_l1f_dams, t_l1f_echoes, t_l1f_deep, t_l1f_slide, t_l1a_heights, t_l1a_ladders, t_l1a_minutes, t_l1a_echoFrom, t_l1a_echoTo, t_l1a_homes, t_l1a_talls, t_l1a_known, t_v0f_deeds, t_v0a_kinds, t_v0a_firsts, t_v0a_seconds, t_v1f_deeds, t_v1a_kinds, t_v1a_firsts, t_v1a_seconds, t_s0f_facts, t_s0a_heard, t_s0a_huts, t_s0a_minutes, t_s1f_facts, t_s1a_heard, t_s1a_huts, t_s1a_minutes, t_c0f_voices, t_c0f_step, t_c0a_parts, t_c0a_heights, t_c1f_voices, t_c1f_step, t_c1a_parts, t_c1a_heights⟩ := hT
  obtain ⟨o_a_tape, o_f_length, o_f_fault, o_f_place, o_a_counts, o_l0f_huts, o_l0f_singers, o_l0f_villages, o_l0f_dams, o_l0f_echoes, o_l0f_deep, o_l0f_slide, o_l0a_heights, o_l0a_ladders, o_l0a_minutes, o_l0a_echoFrom, o_l0a_echoTo, o_l0a_homes, o_l0a_talls, o_l0a_known, o_l1f_huts, o_l1f_singers, o_l1f_villages, o_l1f_dams, o_l1f_echoes, o_l1f_deep, o_l1f_slide, o_l1a_heights, o_l1a_ladders, o_l1a_minutes, o_l1a_echoFrom, o_l1a_echoTo, o_l1a_homes, o_l1a_talls, o_l1a_known, o_v0f_deeds, o_v0a_kinds, o_v0a_firsts, o_v0a_seconds, o_v1f_deeds, o_v1a_kinds, o_v1a_firsts, o_v1a_seconds, o_s0f_facts, o_s0a_heard, o_s0a_huts, o_s0a_minutes, o_s1f_facts, o_s1a_heard, o_s1a_huts, o_s1a_minutes, o_c0f_voices, o_c0f_step, o_c0a_parts, o_c0a_heights, o_c1f_voices, o_c1f_step, o_c1a_parts, o_c1a_heights⟩ := hO
  refine cj_q_wtt_X9_copyFrom_47_0 (post_1 := fun na_tape nf_length nf_fault nf_place na_counts nl0f_huts nl0f_singers nl0f_villages nl0f_dams nl0f_echoes nl0f_deep nl0f_slide nl0a_heights nl0a_ladders nl0a_minutes nl0a_echoFrom nl0a_echoTo nl0a_homes nl0a_talls nl0a_known nl1f_huts nl1f_singers nl1f_villages nl1f_dams nl1f_echoes nl1f_deep nl1f_slide nl1a_heights nl1a_ladders nl1a_minutes nl1a_echoFrom nl1a_echoTo nl1a_homes nl1a_talls nl1a_known nv0f_deeds nv0a_kinds nv0a_firsts nv0a_seconds nv1f_deeds nv1a_kinds nv1a_firsts nv1a_seconds ns0f_facts ns0a_heard ns0a_huts ns0a_minutes ns1f_facts ns1a_heard ns1a_huts ns1a_minutes nc0f_voices nc0f_step nc0a_parts nc0a_heights nc1f_voices nc1f_step nc1a_parts nc1a_heights => tG na_tape nf_length nf_fault nf_place na_counts nl0f_huts nl0f_singers nl0f_villages nl0f_dams nl0f_echoes nl0f_deep nl0f_slide nl0a_heights nl0a_ladders nl0a_minutes nl0a_echoFrom nl0a_echoTo nl0a_homes nl0a_talls nl0a_known nl1f_huts nl1f_singers nl1f_villages nl1f_dams nl1f_echoes nl1f_deep nl1f_slide nl1a_heights nl1a_ladders nl1a_minutes nl1a_echoFrom nl1a_echoTo nl1a_homes nl1a_talls nl1a_known nv0f_deeds nv0a_kinds nv0a_firsts nv0a_seconds nv1f_deeds nv1a_kinds nv1a_firsts nv1a_seconds ns0f_facts ns0a_heard ns0a_huts ns0a_minutes ns1f_facts ns1a_heard ns1a_huts ns1a_minutes nc0f_voices nc0f_step nc0a_parts nc0a_heights nc1f_voices nc1f_step nc1a_parts nc1a_heights) (post_2 := fun na_tape nf_length nf_fault nf_place na_counts nl0f_huts nl0f_singers nl0f_villages nl0f_dams nl0f_echoes nl0f_deep nl0f_slide nl0a_heights nl0a_ladders nl0a_minutes nl0a_echoFrom nl0a_echoTo nl0a_homes nl0a_talls nl0a_known nl1f_huts nl1f_singers nl1f_villages nl1f_dams nl1f_echoes nl1f_deep nl1f_slide nl1a_heights nl1a_ladders nl1a_minutes nl1a_echoFrom nl1a_echoTo nl1a_homes nl1a_talls nl1a_known nv0f_deeds nv0a_kinds nv0a_firsts nv0a_seconds nv1f_deeds nv1a_kinds nv1a_firsts nv1a_seconds ns0f_facts ns0a_heard ns0a_huts ns0a_minutes ns1f_facts ns1a_heard ns1a_huts ns1a_minutes nc0f_voices nc0f_step nc0a_parts nc0a_heights nc1f_voices nc1f_step nc1a_parts nc1a_heights => tCP (tmk na_tape nf_length nf_fault nf_place na_counts nl0f_huts nl0f_singers nl0f_villages nl0f_dams nl0f_echoes nl0f_deep nl0f_slide nl0a_heights nl0a_ladders nl0a_minutes nl0a_echoFrom nl0a_echoTo nl0a_homes nl0a_talls nl0a_known nl1f_huts nl1f_singers nl1f_villages nl1f_dams nl1f_echoes nl1f_deep nl1f_slide nl1a_heights nl1a_ladders nl1a_minutes nl1a_echoFrom nl1a_echoTo nl1a_homes nl1a_talls nl1a_known nv0f_deeds nv0a_kinds nv0a_firsts nv0a_seconds nv1f_deeds nv1a_kinds nv1a_firsts nv1a_seconds ns0f_facts ns0a_heard ns0a_huts ns0a_minutes ns1f_facts ns1a_heard ns1a_huts ns1a_minutes nc0f_voices nc0f_step nc0a_parts nc0a_heights nc1f_voices nc1f_step nc1a_parts nc1a_heights) (tmk oa_tape of_length of_fault of_place oa_counts ol0f_huts ol0f_singers ol0f_villages ol0f_dams ol0f_echoes ol0f_deep ol0f_slide ol0a_heights ol0a_ladders ol0a_minutes ol0a_echoFrom ol0a_echoTo ol0a_homes ol0a_talls ol0a_known ol1f_huts ol1f_singers ol1f_villages ol1f_dams ol1f_echoes ol1f_deep ol1f_slide ol1a_heights ol1a_ladders ol1a_minutes ol1a_echoFrom ol1a_echoTo ol1a_homes ol1a_talls ol1a_known ov0f_deeds ov0a_kinds ov0a_firsts ov0a_seconds ov1f_deeds ov1a_kinds ov1a_firsts ov1a_seconds os0f_facts os0a_heard os0a_huts os0a_minutes os1f_facts os1a_heard os1a_huts os1a_minutes oc0f_voices oc0f_step oc0a_parts oc0a_heights oc1f_voices oc1f_step oc1a_parts oc1a_heights)) (fun na_tape nf_length nf_fault nf_place na_counts nl0f_huts nl0f_singers nl0f_villages nl0f_dams nl0f_echoes nl0f_deep nl0f_slide nl0a_heights nl0a_ladders nl0a_minutes nl0a_echoFrom nl0a_echoTo nl0a_homes nl0a_talls nl0a_known nl1f_huts nl1f_singers nl1f_villages nl1f_dams nl1f_echoes nl1f_deep nl1f_slide nl1a_heights nl1a_ladders nl1a_minutes nl1a_echoFrom nl1a_echoTo nl1a_homes nl1a_talls nl1a_known nv0f_deeds nv0a_kinds nv0a_firsts nv0a_seconds nv1f_deeds nv1a_kinds nv1a_firsts nv1a_seconds ns0f_facts ns0a_heard ns0a_huts ns0a_minutes ns1f_facts ns1a_heard ns1a_huts ns1a_minutes nc0f_voices nc0f_step nc0a_parts nc0a_heights nc1f_voices nc1f_step nc1a_parts nc1a_heights a b => hpost na_tape nf_length nf_fault nf_place na_counts nl0f_huts nl0f_singers nl0f_villages nl0f_dams nl0f_echoes nl0f_deep nl0f_slide nl0a_heights nl0a_ladders nl0a_minutes nl0a_echoFrom nl0a_echoTo nl0a_homes nl0a_talls nl0a_known nl1f_huts nl1f_singers nl1f_villages nl1f_dams nl1f_echoes nl1f_deep nl1f_slide nl1a_heights nl1a_ladders nl1a_minutes nl1a_echoFrom nl1a_echoTo nl1a_homes nl1a_talls nl1a_known nv0f_deeds nv0a_kinds nv0a_firsts nv0a_seconds nv1f_deeds nv1a_kinds nv1a_firsts nv1a_seconds ns0f_facts ns0a_heard ns0a_huts ns0a_minutes ns1f_facts ns1a_heard ns1a_huts ns1a_minutes nc0f_voices nc0f_step nc0a_parts nc0a_heights nc1f_voices nc1f_step nc1a_parts nc1a_heights a b) ?_ (e_cp o_f_length o_a_tape o_l0f_huts o_l0f_singers o_l0f_echoes o_v0f_deeds o_s0f_facts o_c0f_voices o_l1f_huts o_l1f_singers o_l1f_echoes o_v1f_deeds o_s1f_facts o_c1f_voices (fun _ _ _ _ _ _ _ _ _ _ _ _ _ _ _ _ _ _ _ _ _ _ _ _ _ _ _ _ _ _ _ _ _ _ _ _ _ _ _ _ _ _ _ _ _ _ _ _ _ _ _ _ _ _ _ _ _ _ _ h => h))
  exact s_wtt_X9_copyFrom_47_0 t_a_tape t_f_length t_f_fault t_f_place t_a_counts t_l0f_huts t_l0f_singers t_l0f_villages t_l0f_dams t_l0f_echoes t_l0f_deep t_l0f_slide t_l0a_heights t_l0a_ladders t_l0a_minutes t_l0a_echoFrom t_l0a_echoTo t_l0a_homes t_l0a_talls t_l0a_known t_l1f_huts t_l1f_singers t_l1f_villages t_l1f_dams t_l1f_echoes t_l1f_deep t_l1f_slide t_l1a_heights t_l1a_ladders t_l1a_minutes t_l1a_echoFrom t_l1a_echoTo t_l1a_homes t_l1a_talls t_l1a_known t_v0f_deeds t_v0a_kinds t_v0a_firsts t_v0a_seconds t_v1f_deeds t_v1a_kinds t_v1a_firsts t_v1a_seconds t_s0f_facts t_s0a_heard t_s0a_huts t_s0a_minutes t_s1f_facts t_s1a_heard t_s1a_huts t_s1a_minutes t_c0f_voices t_c0f_step t_c0a_parts t_c0a_heights t_c1f_voices t_c1f_step t_c1a_parts t_c1a_heights o_a_tape o_f_length o_f_fault o_f_place o_a_counts o_l0f_huts o_l0f_singers o_l0f_villages o_l0f_dams o_l0f_echoes o_l0f_deep o_l0f_slide o_l0a_heights o_l0a_ladders o_l0a_minutes o_l0a_echoFrom o_l0a_echoTo o_l0a_homes o_l0a_talls o_l0a_known o_l1f_huts o_l1f_singers o_l1f_villages o_l1f_dams o_l1f_echoes o_l1f_deep o_l1f_slide o_l1a_heights o_l1a_ladders o_l1a_minutes o_l1a_echoFrom o_l1a_echoTo o_l1a_homes o_l1a_talls o_l1a_known o_v0f_deeds o_v0a_kinds o_v0a_firsts o_v0a_seconds o_v1f_deeds o_v1a_kinds o_v1a_firsts o_v1a_seconds o_s0f_facts o_s0a_heard o_s0a_huts o_s0a_minutes o_s1f_facts o_s1a_heard o_s1a_huts o_s1a_minutes o_c0f_voices o_c0f_step o_c0a_parts o_c0a_heights o_c1f_voices o_c1f_step o_c1a_parts o_c1a_heights (fun na_tape nf_length nf_fault nf_place na_counts nl0f_huts nl0f_singers nl0f_villages nl0f_dams nl0f_echoes nl0f_deep nl0f_slide nl0a_heights nl0a_ladders nl0a_minutes nl0a_echoFrom nl0a_echoTo nl0a_homes nl0a_talls nl0a_known nl1f_huts nl1f_singers nl1f_villages nl1f_dams nl1f_echoes nl1f_deep nl1f_slide nl1a_heights nl1a_ladders nl1a_minutes nl1a_echoFrom nl1a_echoTo nl1a_homes nl1a_talls nl1a_known nv0f_deeds nv0a_kinds nv0a_firsts nv0a_seconds nv1f_deeds nv1a_kinds nv1a_firsts nv1a_seconds ns0f_facts ns0a_heard ns0a_huts ns0a_minutes ns1f_facts ns1a_heard ns1a_huts ns1a_minutes nc0f_voices nc0f_step nc0a_parts nc0a_heights nc1f_voices nc1f_step nc1a_parts nc1a_heights z_a_tape z_f_length z_f_fault z_f_place z_a_counts z_l0f_huts z_l0f_singers z_l0f_villages z_l0f_dams z_l0f_echoes z_l0f_deep z_l0f_slide z_l0a_heights z_l0a_ladders z_l0a_minutes z_l0a_echoFrom z_l0a_echoTo z_l0a_homes z_l0a_talls z_l0a_known z_l1f_huts z_l1f_singers z_l1f_villages z_l1f_dams z_l1f_echoes z_l1f_deep z_l1f_slide z_l1a_heights z_l1a_ladders z_l1a_minutes z_l1a_echoFrom z_l1a_echoTo z_l1a_homes z_l1a_talls z_l1a_known z_v0f_deeds z_v0a_kinds z_v0a_firsts z_v0a_seconds z_v1f_deeds z_v1a_kinds z_v1a_firsts z_v1a_seconds z_s0f_facts z_s0a_heard z_s0a_huts z_s0a_minutes z_s1f_facts z_s1a_heard z_s1a_huts z_s1a_minutes z_c0f_voices z_c0f_step z_c0a_parts z_c0a_heights z_c1f_voices z_c1f_step z_c1a_parts z_c1a_heights => (show tG na_tape nf_length nf_fault nf_place na_counts nl0f_huts nl0f_singers nl0f_villages nl0f_dams nl0f_echoes nl0f_deep nl0f_slide nl0a_heights nl0a_ladders nl0a_minutes nl0a_echoFrom nl0a_echoTo nl0a_homes nl0a_talls nl0a_known nl1f_huts nl1f_singers nl1f_villages nl1f_dams nl1f_echoes nl1f_deep nl1f_slide nl1a_heights nl1a_ladders nl1a_minutes nl1a_echoFrom nl1a_echoTo nl1a_homes nl1a_talls nl1a_known nv0f_deeds nv0a_kinds nv0a_firsts nv0a_seconds nv1f_deeds nv1a_kinds nv1a_firsts nv1a_seconds ns0f_facts ns0a_heard ns0a_huts ns0a_minutes ns1f_facts ns1a_heard ns1a_huts ns1a_minutes nc0f_voices nc0f_step nc0a_parts nc0a_heights nc1f_voices nc1f_step nc1a_parts nc1a_heights from ⟨z_a_tape, z_f_length, z_f_fault, z_f_place, z_a_counts, z_l0f_huts, z_l0f_singers, z_l0f_villages, z_l0f_dams, z_l0f_echoes, z_l0f_deep, z_l0f_slide, z_l0a_heights, z_l0a_ladders, z_l0a_minutes, z_l0a_echoFrom, z_l0a_echoTo, z_l0a_homes, z_l0a_talls, z_l0a_known, z_l1f_huts, z_l1f_singers, z_l1f_villages, z_l1f_dams, z_l1f_echoes, z_l1f_deep, z_l1f_slide, z_l1a_heights, z_l1a_ladders, z_l1a_minutes, z_l1a_echoFrom, z_l1a_echoTo, z_l1a_homes, z_l1a_talls, z_l1a_known, z_v0f_deeds, z_v0a_kinds, z_v0a_firsts, z_v0a_seconds, z_v1f_deeds, z_v1a_kinds, z_v1a_firsts, z_v1a_seconds, z_s0f_facts, z_s0a_heard, z_s0a_huts, z_s0a_minutes, z_s1f_facts, z_s1a_heard, z_s1a_huts, z_s1a_minutes, z_c0f_voices, z_c0f_step, z_c0a_parts, z_c0a_heights, z_c1f_voices, z_c1f_step, z_c1a_parts, z_c1a_heights⟩))

set_option maxRecDepth 40000 in
set_option maxHeartbeats 4000000 in
theorem im_tail3 {p : Program} {l : Launch} {e : Env} {s : State} {m : MethodId} {args : Array Value} {below : List Frame} {meth : Method} {c : Code} {H : Heap} {locs : List Loc} {ls : Array Slot} {E : zE} {qx qi kc ks : Nat} {A : Nat → Prop} {x1 : Int32} {ta_tape : Nat → Int32} {tf_length : Int32} {tf_fault : Int32} {tf_place : Int32} {ta_counts : Nat → Int32} {tl0f_huts : Int32} {tl0f_singers : Int32} {tl0f_villages : Int32} {tl0f_dams : Int32} {tl0f_echoes : Int32} {tl0f_deep : Int32} {tl0f_slide : Int32} {tl0a_heights : Nat → Int32} {tl0a_ladders : Nat → Int32} {tl0a_minutes : Nat → Int32} {tl0a_echoFrom : Nat → Int32} {tl0a_echoTo : Nat → Int32} {tl0a_homes : Nat → Int32} {tl0a_talls : Nat → Int32} {tl0a_known : Nat → Int32} {tl1f_huts : Int32} {tl1f_singers : Int32} {tl1f_villages : Int32} {tl1f_dams : Int32} {tl1f_echoes : Int32} {tl1f_deep : Int32} {tl1f_slide : Int32} {tl1a_heights : Nat → Int32} {tl1a_ladders : Nat → Int32} {tl1a_minutes : Nat → Int32} {tl1a_echoFrom : Nat → Int32} {tl1a_echoTo : Nat → Int32} {tl1a_homes : Nat → Int32} {tl1a_talls : Nat → Int32} {tl1a_known : Nat → Int32} {tv0f_deeds : Int32} {tv0a_kinds : Nat → Int32} {tv0a_firsts : Nat → Int32} {tv0a_seconds : Nat → Int32} {tv1f_deeds : Int32} {tv1a_kinds : Nat → Int32} {tv1a_firsts : Nat → Int32} {tv1a_seconds : Nat → Int32} {ts0f_facts : Int32} {ts0a_heard : Nat → Int32} {ts0a_huts : Nat → Int32} {ts0a_minutes : Nat → Int32} {ts1f_facts : Int32} {ts1a_heard : Nat → Int32} {ts1a_huts : Nat → Int32} {ts1a_minutes : Nat → Int32} {tc0f_voices : Int32} {tc0f_step : Int32} {tc0a_parts : Nat → Int32} {tc0a_heights : Nat → Int32} {tc1f_voices : Int32} {tc1f_step : Int32} {tc1a_parts : Nat → Int32} {tc1a_heights : Nat → Int32} {m_images : Nat → Option Nat} {rlf_huts : Int32} {rlf_singers : Int32} {rlf_villages : Int32} {rlf_dams : Int32} {rlf_echoes : Int32} {rlf_deep : Int32} {rlf_slide : Int32} {rla_heights : Nat → Int32} {rla_ladders : Nat → Int32} {rla_minutes : Nat → Int32} {rla_echoFrom : Nat → Int32} {rla_echoTo : Nat → Int32} {rla_homes : Nat → Int32} {rla_talls : Nat → Int32} {rla_known : Nat → Int32} {rvf_deeds : Int32} {rva_kinds : Nat → Int32} {rva_firsts : Nat → Int32} {rva_seconds : Nat → Int32} {rsf_facts : Int32} {rsa_heard : Nat → Int32} {rsa_huts : Nat → Int32} {rsa_minutes : Nat → Int32} {rcf_voices : Int32} {rcf_step : Int32} {rca_parts : Nat → Int32} {rca_heights : Nat → Int32} {rf_fault : Int32} {rf_faultPlace : Int32} {ra_numbers : Nat → Int32} {ra_tape : Nat → Int32} {rf_length : Int32} {rf_behind : Int32} {rf_kind : Int32} {rf_first : Int32} {rf_value : Int32} {rf_hutsToldOf : Int32} {rf_singersToldOf : Int32} {nf_minute : Int32} {nf_avalanches : Int32} {nf_begun : Int32} {nf_climbed : Int32} {nf_seed : Int32} {na_huts : Nat → Int32} {na_known : Nat → Int32} {na_levels : Nat → Int32} {na_snow : Nat → Int32} {na_open : Nat → Int32} {pa_heard : Nat → Int32} {pa_walked : Nat → Int32} {pa_total : Nat → Int32} {pa_longest : Nat → Int32} {pa_next : Nat → Int32} {pa_cover : Nat → Int32} {pa_now : Nat → Int32} {pa_then : Nat → Int32} {ko_stands : Option Nat} {ka_gaps : Nat → Int32} {ka_behind : Nat → Int32} {ba_less : Nat → Int32} {ba_full : Nat → Int32} {ia_tape : Nat → Int32} {if_length : Int32} {if_fault : Int32} {if_place : Int32} {ia_counts : Nat → Int32} {il0f_huts : Int32} {il0f_singers : Int32} {il0f_villages : Int32} {il0f_dams : Int32} {il0f_echoes : Int32} {il0f_deep : Int32} {il0f_slide : Int32} {il0a_heights : Nat → Int32} {il0a_ladders : Nat → Int32} {il0a_minutes : Nat → Int32} {il0a_echoFrom : Nat → Int32} {il0a_echoTo : Nat → Int32} {il0a_homes : Nat → Int32} {il0a_talls : Nat → Int32} {il0a_known : Nat → Int32} {il1f_huts : Int32} {il1f_singers : Int32} {il1f_villages : Int32} {il1f_dams : Int32} {il1f_echoes : Int32} {il1f_deep : Int32} {il1f_slide : Int32} {il1a_heights : Nat → Int32} {il1a_ladders : Nat → Int32} {il1a_minutes : Nat → Int32} {il1a_echoFrom : Nat → Int32} {il1a_echoTo : Nat → Int32} {il1a_homes : Nat → Int32} {il1a_talls : Nat → Int32} {il1a_known : Nat → Int32} {iv0f_deeds : Int32} {iv0a_kinds : Nat → Int32} {iv0a_firsts : Nat → Int32} {iv0a_seconds : Nat → Int32} {iv1f_deeds : Int32} {iv1a_kinds : Nat → Int32} {iv1a_firsts : Nat → Int32} {iv1a_seconds : Nat → Int32} {is0f_facts : Int32} {is0a_heard : Nat → Int32} {is0a_huts : Nat → Int32} {is0a_minutes : Nat → Int32} {is1f_facts : Int32} {is1a_heard : Nat → Int32} {is1a_huts : Nat → Int32} {is1a_minutes : Nat → Int32} {ic0f_voices : Int32} {ic0f_step : Int32} {ic0a_parts : Nat → Int32} {ic0a_heights : Nat → Int32} {ic1f_voices : Int32} {ic1f_step : Int32} {ic1a_parts : Nat → Int32} {ic1a_heights : Nat → Int32} (zc : zC p s m args meth c cX10_image 2 RX10 (some .boolean)) (hK : zK E s) (hM : wxiW E qx qi ta_tape tf_length tf_fault tf_place ta_counts tl0f_huts tl0f_singers tl0f_villages tl0f_dams tl0f_echoes tl0f_deep tl0f_slide tl0a_heights tl0a_ladders tl0a_minutes tl0a_echoFrom tl0a_echoTo tl0a_homes tl0a_talls tl0a_known tl1f_huts tl1f_singers tl1f_villages tl1f_dams tl1f_echoes tl1f_deep tl1f_slide tl1a_heights tl1a_ladders tl1a_minutes tl1a_echoFrom tl1a_echoTo tl1a_homes tl1a_talls tl1a_known tv0f_deeds tv0a_kinds tv0a_firsts tv0a_seconds tv1f_deeds tv1a_kinds tv1a_firsts tv1a_seconds ts0f_facts ts0a_heard ts0a_huts ts0a_minutes ts1f_facts ts1a_heard ts1a_huts ts1a_minutes tc0f_voices tc0f_step tc0a_parts tc0a_heights tc1f_voices tc1f_step tc1a_parts tc1a_heights m_images rlf_huts rlf_singers rlf_villages rlf_dams rlf_echoes rlf_deep rlf_slide rla_heights rla_ladders rla_minutes rla_echoFrom rla_echoTo rla_homes rla_talls rla_known rvf_deeds rva_kinds rva_firsts rva_seconds rsf_facts rsa_heard rsa_huts rsa_minutes rcf_voices rcf_step rca_parts rca_heights rf_fault rf_faultPlace ra_numbers ra_tape rf_length rf_behind rf_kind rf_first rf_value rf_hutsToldOf rf_singersToldOf nf_minute nf_avalanches nf_begun nf_climbed nf_seed na_huts na_known na_levels na_snow na_open pa_heard pa_walked pa_total pa_longest pa_next pa_cover pa_now pa_then ko_stands ka_gaps ka_behind ba_less ba_full ia_tape if_length if_fault if_place ia_counts il0f_huts il0f_singers il0f_villages il0f_dams il0f_echoes il0f_deep il0f_slide il0a_heights il0a_ladders il0a_minutes il0a_echoFrom il0a_echoTo il0a_homes il0a_talls il0a_known il1f_huts il1f_singers il1f_villages il1f_dams il1f_echoes il1f_deep il1f_slide il1a_heights il1a_ladders il1a_minutes il1a_echoFrom il1a_echoTo il1a_homes il1a_talls il1a_known iv0f_deeds iv0a_kinds iv0a_firsts iv0a_seconds iv1f_deeds iv1a_kinds iv1a_firsts iv1a_seconds is0f_facts is0a_heard is0a_huts is0a_minutes is1f_facts is1a_heard is1a_huts is1a_minutes ic0f_voices ic0f_step ic0a_parts ic0a_heights ic1f_voices ic1f_step ic1a_parts ic1a_heights H) (hT : tG ta_tape tf_length tf_fault tf_place ta_counts tl0f_huts tl0f_singers tl0f_villages tl0f_dams tl0f_echoes tl0f_deep tl0f_slide tl0a_heights tl0a_ladders tl0a_minutes tl0a_echoFrom tl0a_echoTo tl0a_homes tl0a_talls tl0a_known tl1f_huts tl1f_singers tl1f_villages tl1f_dams tl1f_echoes tl1f_deep tl1f_slide tl1a_heights tl1a_ladders tl1a_minutes tl1a_echoFrom tl1a_echoTo tl1a_homes tl1a_talls tl1a_known tv0f_deeds tv0a_kinds tv0a_firsts tv0a_seconds tv1f_deeds tv1a_kinds tv1a_firsts tv1a_seconds ts0f_facts ts0a_heard ts0a_huts ts0a_minutes ts1f_facts ts1a_heard ts1a_huts ts1a_minutes tc0f_voices tc0f_step tc0a_parts tc0a_heights tc1f_voices tc1f_step tc1a_parts tc1a_heights) (hI : tG ia_tape if_length if_fault if_place ia_counts il0f_huts il0f_singers il0f_villages il0f_dams il0f_echoes il0f_deep il0f_slide il0a_heights il0a_ladders il0a_minutes il0a_echoFrom il0a_echoTo il0a_homes il0a_talls il0a_known il1f_huts il1f_singers il1f_villages il1f_dams il1f_echoes il1f_deep il1f_slide il1a_heights il1a_ladders il1a_minutes il1a_echoFrom il1a_echoTo il1a_homes il1a_talls il1a_known iv0f_deeds iv0a_kinds iv0a_firsts iv0a_seconds iv1f_deeds iv1a_kinds iv1a_firsts iv1a_seconds is0f_facts is0a_heard is0a_huts is0a_minutes is1f_facts is1a_heard is1a_huts is1a_minutes ic0f_voices ic0f_step ic0a_parts ic0a_heights ic1f_voices ic1f_step ic1a_parts ic1a_heights) (hin : vp_in x1 3) (hm : m_images (Int32.toNatClampNeg x1) = some qi) (hS : va_S A s.heap H locs) (hsub : ∀ q, wttA qi (qx + 1) q → A q) (hl : lv_has ls 2 [(0, .ref qx), (1, .int x1)]) :
    W p l e (rmI kc ks) s m args below meth c H locs kc ks (MQ below (zQi (S := Unit) (fun r _ => r = 1) (fun _ H => ∃ na_tape nf_length nf_fault nf_place na_counts nl0f_huts nl0f_singers nl0f_villages nl0f_dams nl0f_echoes nl0f_deep nl0f_slide nl0a_heights nl0a_ladders nl0a_minutes nl0a_echoFrom nl0a_echoTo nl0a_homes nl0a_talls nl0a_known nl1f_huts nl1f_singers nl1f_villages nl1f_dams nl1f_echoes nl1f_deep nl1f_slide nl1a_heights nl1a_ladders nl1a_minutes nl1a_echoFrom nl1a_echoTo nl1a_homes nl1a_talls nl1a_known nv0f_deeds nv0a_kinds nv0a_firsts nv0a_seconds nv1f_deeds nv1a_kinds nv1a_firsts nv1a_seconds ns0f_facts ns0a_heard ns0a_huts ns0a_minutes ns1f_facts ns1a_heard ns1a_huts ns1a_minutes nc0f_voices nc0f_step nc0a_parts nc0a_heights nc1f_voices nc1f_step nc1a_parts nc1a_heights, tG na_tape nf_length nf_fault nf_place na_counts nl0f_huts nl0f_singers nl0f_villages nl0f_dams nl0f_echoes nl0f_deep nl0f_slide nl0a_heights nl0a_ladders nl0a_minutes nl0a_echoFrom nl0a_echoTo nl0a_homes nl0a_talls nl0a_known nl1f_huts nl1f_singers nl1f_villages nl1f_dams nl1f_echoes nl1f_deep nl1f_slide nl1a_heights nl1a_ladders nl1a_minutes nl1a_echoFrom nl1a_echoTo nl1a_homes nl1a_talls nl1a_known nv0f_deeds nv0a_kinds nv0a_firsts nv0a_seconds nv1f_deeds nv1a_kinds nv1a_firsts nv1a_seconds ns0f_facts ns0a_heard ns0a_huts ns0a_minutes ns1f_facts ns1a_heard ns1a_huts ns1a_minutes nc0f_voices nc0f_step nc0a_parts nc0a_heights nc1f_voices nc1f_step nc1a_parts nc1a_heights ∧ tCP (tmk na_tape nf_length nf_fault nf_place na_counts nl0f_huts nl0f_singers nl0f_villages nl0f_dams nl0f_echoes nl0f_deep nl0f_slide nl0a_heights nl0a_ladders nl0a_minutes nl0a_echoFrom nl0a_echoTo nl0a_homes nl0a_talls nl0a_known nl1f_huts nl1f_singers nl1f_villages nl1f_dams nl1f_echoes nl1f_deep nl1f_slide nl1a_heights nl1a_ladders nl1a_minutes nl1a_echoFrom nl1a_echoTo nl1a_homes nl1a_talls nl1a_known nv0f_deeds nv0a_kinds nv0a_firsts nv0a_seconds nv1f_deeds nv1a_kinds nv1a_firsts nv1a_seconds ns0f_facts ns0a_heard ns0a_huts ns0a_minutes ns1f_facts ns1a_heard ns1a_huts ns1a_minutes nc0f_voices nc0f_step nc0a_parts nc0a_heights nc1f_voices nc1f_step nc1a_parts nc1a_heights) (tmk ta_tape tf_length tf_fault tf_place ta_counts tl0f_huts tl0f_singers tl0f_villages tl0f_dams tl0f_echoes tl0f_deep tl0f_slide tl0a_heights tl0a_ladders tl0a_minutes tl0a_echoFrom tl0a_echoTo tl0a_homes tl0a_talls tl0a_known tl1f_huts tl1f_singers tl1f_villages tl1f_dams tl1f_echoes tl1f_deep tl1f_slide tl1a_heights tl1a_ladders tl1a_minutes tl1a_echoFrom tl1a_echoTo tl1a_homes tl1a_talls tl1a_known tv0f_deeds tv0a_kinds tv0a_firsts tv0a_seconds tv1f_deeds tv1a_kinds tv1a_firsts tv1a_seconds ts0f_facts ts0a_heard ts0a_huts ts0a_minutes ts1f_facts ts1a_heard ts1a_huts ts1a_minutes tc0f_voices tc0f_step tc0a_parts tc0a_heights tc1f_voices tc1f_step tc1a_parts tc1a_heights) ∧ wxiW E qx qi ta_tape tf_length tf_fault tf_place ta_counts tl0f_huts tl0f_singers tl0f_villages tl0f_dams tl0f_echoes tl0f_deep tl0f_slide tl0a_heights tl0a_ladders tl0a_minutes tl0a_echoFrom tl0a_echoTo tl0a_homes tl0a_talls tl0a_known tl1f_huts tl1f_singers tl1f_villages tl1f_dams tl1f_echoes tl1f_deep tl1f_slide tl1a_heights tl1a_ladders tl1a_minutes tl1a_echoFrom tl1a_echoTo tl1a_homes tl1a_talls tl1a_known tv0f_deeds tv0a_kinds tv0a_firsts tv0a_seconds tv1f_deeds tv1a_kinds tv1a_firsts tv1a_seconds ts0f_facts ts0a_heard ts0a_huts ts0a_minutes ts1f_facts ts1a_heard ts1a_huts ts1a_minutes tc0f_voices tc0f_step tc0a_parts tc0a_heights tc1f_voices tc1f_step tc1a_parts tc1a_heights m_images rlf_huts rlf_singers rlf_villages rlf_dams rlf_echoes rlf_deep rlf_slide rla_heights rla_ladders rla_minutes rla_echoFrom rla_echoTo rla_homes rla_talls rla_known rvf_deeds rva_kinds rva_firsts rva_seconds rsf_facts rsa_heard rsa_huts rsa_minutes rcf_voices rcf_step rca_parts rca_heights rf_fault rf_faultPlace ra_numbers ra_tape rf_length rf_behind rf_kind rf_first rf_value rf_hutsToldOf rf_singersToldOf nf_minute nf_avalanches nf_begun nf_climbed nf_seed na_huts na_known na_levels na_snow na_open pa_heard pa_walked pa_total pa_longest pa_next pa_cover pa_now pa_then ko_stands ka_gaps ka_behind ba_less ba_full na_tape nf_length nf_fault nf_place na_counts nl0f_huts nl0f_singers nl0f_villages nl0f_dams nl0f_echoes nl0f_deep nl0f_slide nl0a_heights nl0a_ladders nl0a_minutes nl0a_echoFrom nl0a_echoTo nl0a_homes nl0a_talls nl0a_known nl1f_huts nl1f_singers nl1f_villages nl1f_dams nl1f_echoes nl1f_deep nl1f_slide nl1a_heights nl1a_ladders nl1a_minutes nl1a_echoFrom nl1a_echoTo nl1a_homes nl1a_talls nl1a_known nv0f_deeds nv0a_kinds nv0a_firsts nv0a_seconds nv1f_deeds nv1a_kinds nv1a_firsts nv1a_seconds ns0f_facts ns0a_heard ns0a_huts ns0a_minutes ns1f_facts ns1a_heard ns1a_huts ns1a_minutes nc0f_voices nc0f_step nc0a_parts nc0a_heights nc1f_voices nc1f_step nc1a_parts nc1a_heights H) A) args s kc ks A) (F0 m 33 ls []) := by
  have hx := zc.1
  have hb := zc.2.1
  have hMx := xi_x hM
  refine lv_aload_n hx hb dX10_image_33 rfl (lv_at hl 0 rfl) ?_
  refine va_get (D := E.1) (ci := 10) (v := .ref (qx + 48)) (C := RX10) (T := TX10) (N := 7) hx hb zc.2.2.2.2.1 uw10 zc.2.2.2.1 hK.1 hMx 0 rfl rfl 1 (by decide) (zc.2.2.2.2.1 _ kf_10_16) (fun _ h9 => h9) rfl dX10_image_34 ?_
  refine lv_iload_n hx hb dX10_image_37 rfl (lv_at hl 1 rfl) ?_
  refine va_aldq hx hb hK.1 hMx 48 8 rfl rfl hin dX10_image_38 ?_
  rw [hm]
  refine W.eq (g2 := F0 m 39 ls (.ref qi :: [])) rfl ?_
  refine lv_aload_n hx hb dX10_image_39 rfl (lv_at hl 0 rfl) ?_
  refine va_get (D := E.1) (ci := 10) (v := .ref (qx + 1)) (C := RX10) (T := TX10) (N := 7) hx hb zc.2.2.2.2.1 uw10 zc.2.2.2.1 hK.1 hMx 0 rfl rfl 0 (by decide) (zc.2.2.2.2.1 _ kf_10_10) (fun _ h9 => h9) rfl dX10_image_40 ?_
  refine zVa_v [.ref (qx + 1)] [] zc ky_X9_copyFrom kz_X9_copyFrom km_10_323 (c_wtt_X9_copyFrom_47 l (post := fun na_tape nf_length nf_fault nf_place na_counts nl0f_huts nl0f_singers nl0f_villages nl0f_dams nl0f_echoes nl0f_deep nl0f_slide nl0a_heights nl0a_ladders nl0a_minutes nl0a_echoFrom nl0a_echoTo nl0a_homes nl0a_talls nl0a_known nl1f_huts nl1f_singers nl1f_villages nl1f_dams nl1f_echoes nl1f_deep nl1f_slide nl1a_heights nl1a_ladders nl1a_minutes nl1a_echoFrom nl1a_echoTo nl1a_homes nl1a_talls nl1a_known nv0f_deeds nv0a_kinds nv0a_firsts nv0a_seconds nv1f_deeds nv1a_kinds nv1a_firsts nv1a_seconds ns0f_facts ns0a_heard ns0a_huts ns0a_minutes ns1f_facts ns1a_heard ns1a_huts ns1a_minutes nc0f_voices nc0f_step nc0a_parts nc0a_heights nc1f_voices nc1f_step nc1a_parts nc1a_heights => tG na_tape nf_length nf_fault nf_place na_counts nl0f_huts nl0f_singers nl0f_villages nl0f_dams nl0f_echoes nl0f_deep nl0f_slide nl0a_heights nl0a_ladders nl0a_minutes nl0a_echoFrom nl0a_echoTo nl0a_homes nl0a_talls nl0a_known nl1f_huts nl1f_singers nl1f_villages nl1f_dams nl1f_echoes nl1f_deep nl1f_slide nl1a_heights nl1a_ladders nl1a_minutes nl1a_echoFrom nl1a_echoTo nl1a_homes nl1a_talls nl1a_known nv0f_deeds nv0a_kinds nv0a_firsts nv0a_seconds nv1f_deeds nv1a_kinds nv1a_firsts nv1a_seconds ns0f_facts ns0a_heard ns0a_huts ns0a_minutes ns1f_facts ns1a_heard ns1a_huts ns1a_minutes nc0f_voices nc0f_step nc0a_parts nc0a_heights nc1f_voices nc1f_step nc1a_parts nc1a_heights ∧ tCP (tmk na_tape nf_length nf_fault nf_place na_counts nl0f_huts nl0f_singers nl0f_villages nl0f_dams nl0f_echoes nl0f_deep nl0f_slide nl0a_heights nl0a_ladders nl0a_minutes nl0a_echoFrom nl0a_echoTo nl0a_homes nl0a_talls nl0a_known nl1f_huts nl1f_singers nl1f_villages nl1f_dams nl1f_echoes nl1f_deep nl1f_slide nl1a_heights nl1a_ladders nl1a_minutes nl1a_echoFrom nl1a_echoTo nl1a_homes nl1a_talls nl1a_known nv0f_deeds nv0a_kinds nv0a_firsts nv0a_seconds nv1f_deeds nv1a_kinds nv1a_firsts nv1a_seconds ns0f_facts ns0a_heard ns0a_huts ns0a_minutes ns1f_facts ns1a_heard ns1a_huts ns1a_minutes nc0f_voices nc0f_step nc0a_parts nc0a_heights nc1f_voices nc1f_step nc1a_parts nc1a_heights) (tmk ta_tape tf_length tf_fault tf_place ta_counts tl0f_huts tl0f_singers tl0f_villages tl0f_dams tl0f_echoes tl0f_deep tl0f_slide tl0a_heights tl0a_ladders tl0a_minutes tl0a_echoFrom tl0a_echoTo tl0a_homes tl0a_talls tl0a_known tl1f_huts tl1f_singers tl1f_villages tl1f_dams tl1f_echoes tl1f_deep tl1f_slide tl1a_heights tl1a_ladders tl1a_minutes tl1a_echoFrom tl1a_echoTo tl1a_homes tl1a_talls tl1a_known tv0f_deeds tv0a_kinds tv0a_firsts tv0a_seconds tv1f_deeds tv1a_kinds tv1a_firsts tv1a_seconds ts0f_facts ts0a_heard ts0a_huts ts0a_minutes ts1f_facts ts1a_heard ts1a_huts ts1a_minutes tc0f_voices tc0f_step tc0a_parts tc0a_heights tc1f_voices tc1f_step tc1a_parts tc1a_heights)) (tG_copy3 hI hT (fun _ _ _ _ _ _ _ _ _ _ _ _ _ _ _ _ _ _ _ _ _ _ _ _ _ _ _ _ _ _ _ _ _ _ _ _ _ _ _ _ _ _ _ _ _ _ _ _ _ _ _ _ _ _ _ _ _ _ _ h1 h2 => ⟨h1, h2⟩))) (wttPreV0 hK (pj_wxi_wtt_93_1 hM)) hS hsub rfl rfl hl.1 (Nat.le_of_ble_eq_true rfl) ⟨rfl, rfl⟩ ⟨(Nat.le_of_ble_eq_true rfl), (Nat.le_of_ble_eq_true rfl)⟩ ⟨Nat.le_refl _, Nat.le_refl _⟩ dX10_image_43 (fun u H4 locs hw hB hsz hk hS => ?_)
  have hM := jn_wxi_wtt_93_1 hM hB hk
  refine lv_iconst (v := (1 : Int32)) hx hb dX10_image_46 (by decide) ?_
  exact zret_zw () zc hS rfl rfl ⟨_, _, _, _, _, _, _, _, _, _, _, _, _, _, _, _, _, _, _, _, _, _, _, _, _, _, _, _, _, _, _, _, _, _, _, _, _, _, _, _, _, _, _, _, _, _, _, _, _, _, _, _, _, _, _, _, _, _, _, hw.1, hw.2, hM⟩ dX10_image_47

set_option maxRecDepth 40000 in
set_option maxHeartbeats 4000000 in
theorem c3_image_old (l : Launch) {E : zE} {qx qi : Nat} {ta_tape : Nat → Int32} {tf_length : Int32} {tf_fault : Int32} {tf_place : Int32} {ta_counts : Nat → Int32} {tl0f_huts : Int32} {tl0f_singers : Int32} {tl0f_villages : Int32} {tl0f_dams : Int32} {tl0f_echoes : Int32} {tl0f_deep : Int32} {tl0f_slide : Int32} {tl0a_heights : Nat → Int32} {tl0a_ladders : Nat → Int32} {tl0a_minutes : Nat → Int32} {tl0a_echoFrom : Nat → Int32} {tl0a_echoTo : Nat → Int32} {tl0a_homes : Nat → Int32} {tl0a_talls : Nat → Int32} {tl0a_known : Nat → Int32} {tl1f_huts : Int32} {tl1f_singers : Int32} {tl1f_villages : Int32} {tl1f_dams : Int32} {tl1f_echoes : Int32} {tl1f_deep : Int32} {tl1f_slide : Int32} {tl1a_heights : Nat → Int32} {tl1a_ladders : Nat → Int32} {tl1a_minutes : Nat → Int32} {tl1a_echoFrom : Nat → Int32} {tl1a_echoTo : Nat → Int32} {tl1a_homes : Nat → Int32} {tl1a_talls : Nat → Int32} {tl1a_known : Nat → Int32} {tv0f_deeds : Int32} {tv0a_kinds : Nat → Int32} {tv0a_firsts : Nat → Int32} {tv0a_seconds : Nat → Int32} {tv1f_deeds : Int32} {tv1a_kinds : Nat → Int32} {tv1a_firsts : Nat → Int32} {tv1a_seconds : Nat → Int32} {ts0f_facts : Int32} {ts0a_heard : Nat → Int32} {ts0a_huts : Nat → Int32} {ts0a_minutes : Nat → Int32} {ts1f_facts : Int32} {ts1a_heard : Nat → Int32} {ts1a_huts : Nat → Int32} {ts1a_minutes : Nat → Int32} {tc0f_voices : Int32} {tc0f_step : Int32} {tc0a_parts : Nat → Int32} {tc0a_heights : Nat → Int32} {tc1f_voices : Int32} {tc1f_step : Int32} {tc1a_parts : Nat → Int32} {tc1a_heights : Nat → Int32} {m_images : Nat → Option Nat} {rlf_huts : Int32} {rlf_singers : Int32} {rlf_villages : Int32} {rlf_dams : Int32} {rlf_echoes : Int32} {rlf_deep : Int32} {rlf_slide : Int32} {rla_heights : Nat → Int32} {rla_ladders : Nat → Int32} {rla_minutes : Nat → Int32} {rla_echoFrom : Nat → Int32} {rla_echoTo : Nat → Int32} {rla_homes : Nat → Int32} {rla_talls : Nat → Int32} {rla_known : Nat → Int32} {rvf_deeds : Int32} {rva_kinds : Nat → Int32} {rva_firsts : Nat → Int32} {rva_seconds : Nat → Int32} {rsf_facts : Int32} {rsa_heard : Nat → Int32} {rsa_huts : Nat → Int32} {rsa_minutes : Nat → Int32} {rcf_voices : Int32} {rcf_step : Int32} {rca_parts : Nat → Int32} {rca_heights : Nat → Int32} {rf_fault : Int32} {rf_faultPlace : Int32} {ra_numbers : Nat → Int32} {ra_tape : Nat → Int32} {rf_length : Int32} {rf_behind : Int32} {rf_kind : Int32} {rf_first : Int32} {rf_value : Int32} {rf_hutsToldOf : Int32} {rf_singersToldOf : Int32} {nf_minute : Int32} {nf_avalanches : Int32} {nf_begun : Int32} {nf_climbed : Int32} {nf_seed : Int32} {na_huts : Nat → Int32} {na_known : Nat → Int32} {na_levels : Nat → Int32} {na_snow : Nat → Int32} {na_open : Nat → Int32} {pa_heard : Nat → Int32} {pa_walked : Nat → Int32} {pa_total : Nat → Int32} {pa_longest : Nat → Int32} {pa_next : Nat → Int32} {pa_cover : Nat → Int32} {pa_now : Nat → Int32} {pa_then : Nat → Int32} {ko_stands : Option Nat} {ka_gaps : Nat → Int32} {ka_behind : Nat → Int32} {ba_less : Nat → Int32} {ba_full : Nat → Int32} {ia_tape : Nat → Int32} {if_length : Int32} {if_fault : Int32} {if_place : Int32} {ia_counts : Nat → Int32} {il0f_huts : Int32} {il0f_singers : Int32} {il0f_villages : Int32} {il0f_dams : Int32} {il0f_echoes : Int32} {il0f_deep : Int32} {il0f_slide : Int32} {il0a_heights : Nat → Int32} {il0a_ladders : Nat → Int32} {il0a_minutes : Nat → Int32} {il0a_echoFrom : Nat → Int32} {il0a_echoTo : Nat → Int32} {il0a_homes : Nat → Int32} {il0a_talls : Nat → Int32} {il0a_known : Nat → Int32} {il1f_huts : Int32} {il1f_singers : Int32} {il1f_villages : Int32} {il1f_dams : Int32} {il1f_echoes : Int32} {il1f_deep : Int32} {il1f_slide : Int32} {il1a_heights : Nat → Int32} {il1a_ladders : Nat → Int32} {il1a_minutes : Nat → Int32} {il1a_echoFrom : Nat → Int32} {il1a_echoTo : Nat → Int32} {il1a_homes : Nat → Int32} {il1a_talls : Nat → Int32} {il1a_known : Nat → Int32} {iv0f_deeds : Int32} {iv0a_kinds : Nat → Int32} {iv0a_firsts : Nat → Int32} {iv0a_seconds : Nat → Int32} {iv1f_deeds : Int32} {iv1a_kinds : Nat → Int32} {iv1a_firsts : Nat → Int32} {iv1a_seconds : Nat → Int32} {is0f_facts : Int32} {is0a_heard : Nat → Int32} {is0a_huts : Nat → Int32} {is0a_minutes : Nat → Int32} {is1f_facts : Int32} {is1a_heard : Nat → Int32} {is1a_huts : Nat → Int32} {is1a_minutes : Nat → Int32} {ic0f_voices : Int32} {ic0f_step : Int32} {ic0a_parts : Nat → Int32} {ic0a_heights : Nat → Int32} {ic1f_voices : Int32} {ic1f_step : Int32} {ic1a_parts : Nat → Int32} {ic1a_heights : Nat → Int32} {x1 : Int32} (hr : ¬ x1 < 0 ∧ x1 < 3) (hm : m_images (Int32.toNatClampNeg x1) = some qi) (hT : tG ta_tape tf_length tf_fault tf_place ta_counts tl0f_huts tl0f_singers tl0f_villages tl0f_dams tl0f_echoes tl0f_deep tl0f_slide tl0a_heights tl0a_ladders tl0a_minutes tl0a_echoFrom tl0a_echoTo tl0a_homes tl0a_talls tl0a_known tl1f_huts tl1f_singers tl1f_villages tl1f_dams tl1f_echoes tl1f_deep tl1f_slide tl1a_heights tl1a_ladders tl1a_minutes tl1a_echoFrom tl1a_echoTo tl1a_homes tl1a_talls tl1a_known tv0f_deeds tv0a_kinds tv0a_firsts tv0a_seconds tv1f_deeds tv1a_kinds tv1a_firsts tv1a_seconds ts0f_facts ts0a_heard ts0a_huts ts0a_minutes ts1f_facts ts1a_heard ts1a_huts ts1a_minutes tc0f_voices tc0f_step tc0a_parts tc0a_heights tc1f_voices tc1f_step tc1a_parts tc1a_heights) (hI : tG ia_tape if_length if_fault if_place ia_counts il0f_huts il0f_singers il0f_villages il0f_dams il0f_echoes il0f_deep il0f_slide il0a_heights il0a_ladders il0a_minutes il0a_echoFrom il0a_echoTo il0a_homes il0a_talls il0a_known il1f_huts il1f_singers il1f_villages il1f_dams il1f_echoes il1f_deep il1f_slide il1a_heights il1a_ladders il1a_minutes il1a_echoFrom il1a_echoTo il1a_homes il1a_talls il1a_known iv0f_deeds iv0a_kinds iv0a_firsts iv0a_seconds iv1f_deeds iv1a_kinds iv1a_firsts iv1a_seconds is0f_facts is0a_heard is0a_huts is0a_minutes is1f_facts is1a_heard is1a_huts is1a_minutes ic0f_voices ic0f_step ic0a_parts ic0a_heights ic1f_voices ic1f_step ic1a_parts ic1a_heights) : Met l yX10_image (Cond.code yX10_image cX10_image 2 (some .boolean) :: zb) (rmI 0 0) (va_Pc [.ref qx, .int x1] (fun U => wxiW E qx qi ta_tape tf_length tf_fault tf_place ta_counts tl0f_huts tl0f_singers tl0f_villages tl0f_dams tl0f_echoes tl0f_deep tl0f_slide tl0a_heights tl0a_ladders tl0a_minutes tl0a_echoFrom tl0a_echoTo tl0a_homes tl0a_talls tl0a_known tl1f_huts tl1f_singers tl1f_villages tl1f_dams tl1f_echoes tl1f_deep tl1f_slide tl1a_heights tl1a_ladders tl1a_minutes tl1a_echoFrom tl1a_echoTo tl1a_homes tl1a_talls tl1a_known tv0f_deeds tv0a_kinds tv0a_firsts tv0a_seconds tv1f_deeds tv1a_kinds tv1a_firsts tv1a_seconds ts0f_facts ts0a_heard ts0a_huts ts0a_minutes ts1f_facts ts1a_heard ts1a_huts ts1a_minutes tc0f_voices tc0f_step tc0a_parts tc0a_heights tc1f_voices tc1f_step tc1a_parts tc1a_heights m_images rlf_huts rlf_singers rlf_villages rlf_dams rlf_echoes rlf_deep rlf_slide rla_heights rla_ladders rla_minutes rla_echoFrom rla_echoTo rla_homes rla_talls rla_known rvf_deeds rva_kinds rva_firsts rva_seconds rsf_facts rsa_heard rsa_huts rsa_minutes rcf_voices rcf_step rca_parts rca_heights rf_fault rf_faultPlace ra_numbers ra_tape rf_length rf_behind rf_kind rf_first rf_value rf_hutsToldOf rf_singersToldOf nf_minute nf_avalanches nf_begun nf_climbed nf_seed na_huts na_known na_levels na_snow na_open pa_heard pa_walked pa_total pa_longest pa_next pa_cover pa_now pa_then ko_stands ka_gaps ka_behind ba_less ba_full ia_tape if_length if_fault if_place ia_counts il0f_huts il0f_singers il0f_villages il0f_dams il0f_echoes il0f_deep il0f_slide il0a_heights il0a_ladders il0a_minutes il0a_echoFrom il0a_echoTo il0a_homes il0a_talls il0a_known il1f_huts il1f_singers il1f_villages il1f_dams il1f_echoes il1f_deep il1f_slide il1a_heights il1a_ladders il1a_minutes il1a_echoFrom il1a_echoTo il1a_homes il1a_talls il1a_known iv0f_deeds iv0a_kinds iv0a_firsts iv0a_seconds iv1f_deeds iv1a_kinds iv1a_firsts iv1a_seconds is0f_facts is0a_heard is0a_huts is0a_minutes is1f_facts is1a_heard is1a_huts is1a_minutes ic0f_voices ic0f_step ic0a_parts ic0a_heights ic1f_voices ic1f_step ic1a_parts ic1a_heights U.heap ∧ zK E U)) (zQi (S := Unit) (fun r _ => r = 1) (fun _ H => ∃ na_tape nf_length nf_fault nf_place na_counts nl0f_huts nl0f_singers nl0f_villages nl0f_dams nl0f_echoes nl0f_deep nl0f_slide nl0a_heights nl0a_ladders nl0a_minutes nl0a_echoFrom nl0a_echoTo nl0a_homes nl0a_talls nl0a_known nl1f_huts nl1f_singers nl1f_villages nl1f_dams nl1f_echoes nl1f_deep nl1f_slide nl1a_heights nl1a_ladders nl1a_minutes nl1a_echoFrom nl1a_echoTo nl1a_homes nl1a_talls nl1a_known nv0f_deeds nv0a_kinds nv0a_firsts nv0a_seconds nv1f_deeds nv1a_kinds nv1a_firsts nv1a_seconds ns0f_facts ns0a_heard ns0a_huts ns0a_minutes ns1f_facts ns1a_heard ns1a_huts ns1a_minutes nc0f_voices nc0f_step nc0a_parts nc0a_heights nc1f_voices nc1f_step nc1a_parts nc1a_heights, tG na_tape nf_length nf_fault nf_place na_counts nl0f_huts nl0f_singers nl0f_villages nl0f_dams nl0f_echoes nl0f_deep nl0f_slide nl0a_heights nl0a_ladders nl0a_minutes nl0a_echoFrom nl0a_echoTo nl0a_homes nl0a_talls nl0a_known nl1f_huts nl1f_singers nl1f_villages nl1f_dams nl1f_echoes nl1f_deep nl1f_slide nl1a_heights nl1a_ladders nl1a_minutes nl1a_echoFrom nl1a_echoTo nl1a_homes nl1a_talls nl1a_known nv0f_deeds nv0a_kinds nv0a_firsts nv0a_seconds nv1f_deeds nv1a_kinds nv1a_firsts nv1a_seconds ns0f_facts ns0a_heard ns0a_huts ns0a_minutes ns1f_facts ns1a_heard ns1a_huts ns1a_minutes nc0f_voices nc0f_step nc0a_parts nc0a_heights nc1f_voices nc1f_step nc1a_parts nc1a_heights ∧ tCP (tmk na_tape nf_length nf_fault nf_place na_counts nl0f_huts nl0f_singers nl0f_villages nl0f_dams nl0f_echoes nl0f_deep nl0f_slide nl0a_heights nl0a_ladders nl0a_minutes nl0a_echoFrom nl0a_echoTo nl0a_homes nl0a_talls nl0a_known nl1f_huts nl1f_singers nl1f_villages nl1f_dams nl1f_echoes nl1f_deep nl1f_slide nl1a_heights nl1a_ladders nl1a_minutes nl1a_echoFrom nl1a_echoTo nl1a_homes nl1a_talls nl1a_known nv0f_deeds nv0a_kinds nv0a_firsts nv0a_seconds nv1f_deeds nv1a_kinds nv1a_firsts nv1a_seconds ns0f_facts ns0a_heard ns0a_huts ns0a_minutes ns1f_facts ns1a_heard ns1a_huts ns1a_minutes nc0f_voices nc0f_step nc0a_parts nc0a_heights nc1f_voices nc1f_step nc1a_parts nc1a_heights) (tmk ta_tape tf_length tf_fault tf_place ta_counts tl0f_huts tl0f_singers tl0f_villages tl0f_dams tl0f_echoes tl0f_deep tl0f_slide tl0a_heights tl0a_ladders tl0a_minutes tl0a_echoFrom tl0a_echoTo tl0a_homes tl0a_talls tl0a_known tl1f_huts tl1f_singers tl1f_villages tl1f_dams tl1f_echoes tl1f_deep tl1f_slide tl1a_heights tl1a_ladders tl1a_minutes tl1a_echoFrom tl1a_echoTo tl1a_homes tl1a_talls tl1a_known tv0f_deeds tv0a_kinds tv0a_firsts tv0a_seconds tv1f_deeds tv1a_kinds tv1a_firsts tv1a_seconds ts0f_facts ts0a_heard ts0a_huts ts0a_minutes ts1f_facts ts1a_heard ts1a_huts ts1a_minutes tc0f_voices tc0f_step tc0a_parts tc0a_heights tc1f_voices tc1f_step tc1a_parts tc1a_heights) ∧ wxiW E qx qi ta_tape tf_length tf_fault tf_place ta_counts tl0f_huts tl0f_singers tl0f_villages tl0f_dams tl0f_echoes tl0f_deep tl0f_slide tl0a_heights tl0a_ladders tl0a_minutes tl0a_echoFrom tl0a_echoTo tl0a_homes tl0a_talls tl0a_known tl1f_huts tl1f_singers tl1f_villages tl1f_dams tl1f_echoes tl1f_deep tl1f_slide tl1a_heights tl1a_ladders tl1a_minutes tl1a_echoFrom tl1a_echoTo tl1a_homes tl1a_talls tl1a_known tv0f_deeds tv0a_kinds tv0a_firsts tv0a_seconds tv1f_deeds tv1a_kinds tv1a_firsts tv1a_seconds ts0f_facts ts0a_heard ts0a_huts ts0a_minutes ts1f_facts ts1a_heard ts1a_huts ts1a_minutes tc0f_voices tc0f_step tc0a_parts tc0a_heights tc1f_voices tc1f_step tc1a_parts tc1a_heights m_images rlf_huts rlf_singers rlf_villages rlf_dams rlf_echoes rlf_deep rlf_slide rla_heights rla_ladders rla_minutes rla_echoFrom rla_echoTo rla_homes rla_talls rla_known rvf_deeds rva_kinds rva_firsts rva_seconds rsf_facts rsa_heard rsa_huts rsa_minutes rcf_voices rcf_step rca_parts rca_heights rf_fault rf_faultPlace ra_numbers ra_tape rf_length rf_behind rf_kind rf_first rf_value rf_hutsToldOf rf_singersToldOf nf_minute nf_avalanches nf_begun nf_climbed nf_seed na_huts na_known na_levels na_snow na_open pa_heard pa_walked pa_total pa_longest pa_next pa_cover pa_now pa_then ko_stands ka_gaps ka_behind ba_less ba_full na_tape nf_length nf_fault nf_place na_counts nl0f_huts nl0f_singers nl0f_villages nl0f_dams nl0f_echoes nl0f_deep nl0f_slide nl0a_heights nl0a_ladders nl0a_minutes nl0a_echoFrom nl0a_echoTo nl0a_homes nl0a_talls nl0a_known nl1f_huts nl1f_singers nl1f_villages nl1f_dams nl1f_echoes nl1f_deep nl1f_slide nl1a_heights nl1a_ladders nl1a_minutes nl1a_echoFrom nl1a_echoTo nl1a_homes nl1a_talls nl1a_known nv0f_deeds nv0a_kinds nv0a_firsts nv0a_seconds nv1f_deeds nv1a_kinds nv1a_firsts nv1a_seconds ns0f_facts ns0a_heard ns0a_huts ns0a_minutes ns1f_facts ns1a_heard ns1a_huts ns1a_minutes nc0f_voices nc0f_step nc0a_parts nc0a_heights nc1f_voices nc1f_step nc1a_parts nc1a_heights H) (wttA qi (qx + 1))) 0 0 (wttA qi (qx + 1)) := by
  refine Met.ofW (cc := cX10_image) (maxL := 2) (ret := (some .boolean)) (by decide) rfl ?_
  intro p e s m args below meth c s₁ B hml hv
  obtain ⟨rfl, hM, hK⟩ := hv
  have zc := zc_of B hml
  have hx := zc.1
  have hb := zc.2.1
  have hl := lv_entry ([.ref qx, .int x1]) (n := 2) (Nat.le_of_ble_eq_true rfl)
  rw [lg_entry_eq]
  generalize (lg_sl ([.ref qx, .int x1]) ++ List.replicate (2 - (lg_sl ([.ref qx, .int x1])).length) Slot.unset).toArray = ls at hl ⊢
  have hl : lv_has ls 2 [(0, .ref qx), (1, .int x1)] := hl
  have hMx := xi_x hM
  have hin : vp_in x1 3 := iv_in (iv_lta (l := 0) (h := 2) (r_lt hr.2) (iv_leb (l := 0) (h := 2147483647) (r_nlt hr.1) (iv_lit (x := 0) (l := 0) (h := 0) (by decide)) (iv_top x1) (by decide)) (iv_lit (x := 3) (l := 3) (h := 3) (by decide)) (by decide)) (by decide)
  refine lv_iload_n hx hb dX10_image_0 rfl (lv_at hl 1 rfl) ?_
  refine lv_if_lt (tgt := 9) hx hb dX10_image_1 (by decide) (fun hc => absurd hc hr.1) (fun hc => ?_)
  refine lv_iload_n hx hb dX10_image_4 rfl (lv_at hl 1 rfl) ?_
  refine lv_iconst (v := (3 : Int32)) hx hb dX10_image_5 (by decide) ?_
  refine lv_icmp_lt (tgt := 11) hx hb dX10_image_6 (by decide) (fun hd => ?_) (fun hd => absurd hr.2 hd)
  refine lv_aload_n hx hb dX10_image_11 rfl (lv_at hl 0 rfl) ?_
  refine va_get (D := E.1) (ci := 10) (v := .ref (qx + 48)) (C := RX10) (T := TX10) (N := 7) hx hb zc.2.2.2.2.1 uw10 zc.2.2.2.1 hK.1 hMx 0 rfl rfl 1 (by decide) (zc.2.2.2.2.1 _ kf_10_16) (fun _ h9 => h9) rfl dX10_image_12 ?_
  refine lv_iload_n hx hb dX10_image_15 rfl (lv_at hl 1 rfl) ?_
  refine va_aldq hx hb hK.1 hMx 48 8 rfl rfl hin dX10_image_16 ?_
  rw [hm]
  refine W.eq (g2 := F0 m 17 ls (.ref qi :: [])) rfl ?_
  refine lv_ifnonnull (tgt := 33) hx hb dX10_image_17 (by decide) ?_
  exact im_tail3 zc hK hM hT hI hin hm va_S.rf (fun _ h => h) hl

set_option maxRecDepth 40000 in
set_option maxHeartbeats 4000000 in
theorem c3_image_new (l : Launch) {E : zE} {qx h : Nat} {ta_tape : Nat → Int32} {tf_length : Int32} {tf_fault : Int32} {tf_place : Int32} {ta_counts : Nat → Int32} {tl0f_huts : Int32} {tl0f_singers : Int32} {tl0f_villages : Int32} {tl0f_dams : Int32} {tl0f_echoes : Int32} {tl0f_deep : Int32} {tl0f_slide : Int32} {tl0a_heights : Nat → Int32} {tl0a_ladders : Nat → Int32} {tl0a_minutes : Nat → Int32} {tl0a_echoFrom : Nat → Int32} {tl0a_echoTo : Nat → Int32} {tl0a_homes : Nat → Int32} {tl0a_talls : Nat → Int32} {tl0a_known : Nat → Int32} {tl1f_huts : Int32} {tl1f_singers : Int32} {tl1f_villages : Int32} {tl1f_dams : Int32} {tl1f_echoes : Int32} {tl1f_deep : Int32} {tl1f_slide : Int32} {tl1a_heights : Nat → Int32} {tl1a_ladders : Nat → Int32} {tl1a_minutes : Nat → Int32} {tl1a_echoFrom : Nat → Int32} {tl1a_echoTo : Nat → Int32} {tl1a_homes : Nat → Int32} {tl1a_talls : Nat → Int32} {tl1a_known : Nat → Int32} {tv0f_deeds : Int32} {tv0a_kinds : Nat → Int32} {tv0a_firsts : Nat → Int32} {tv0a_seconds : Nat → Int32} {tv1f_deeds : Int32} {tv1a_kinds : Nat → Int32} {tv1a_firsts : Nat → Int32} {tv1a_seconds : Nat → Int32} {ts0f_facts : Int32} {ts0a_heard : Nat → Int32} {ts0a_huts : Nat → Int32} {ts0a_minutes : Nat → Int32} {ts1f_facts : Int32} {ts1a_heard : Nat → Int32} {ts1a_huts : Nat → Int32} {ts1a_minutes : Nat → Int32} {tc0f_voices : Int32} {tc0f_step : Int32} {tc0a_parts : Nat → Int32} {tc0a_heights : Nat → Int32} {tc1f_voices : Int32} {tc1f_step : Int32} {tc1a_parts : Nat → Int32} {tc1a_heights : Nat → Int32} {m_images : Nat → Option Nat} {rlf_huts : Int32} {rlf_singers : Int32} {rlf_villages : Int32} {rlf_dams : Int32} {rlf_echoes : Int32} {rlf_deep : Int32} {rlf_slide : Int32} {rla_heights : Nat → Int32} {rla_ladders : Nat → Int32} {rla_minutes : Nat → Int32} {rla_echoFrom : Nat → Int32} {rla_echoTo : Nat → Int32} {rla_homes : Nat → Int32} {rla_talls : Nat → Int32} {rla_known : Nat → Int32} {rvf_deeds : Int32} {rva_kinds : Nat → Int32} {rva_firsts : Nat → Int32} {rva_seconds : Nat → Int32} {rsf_facts : Int32} {rsa_heard : Nat → Int32} {rsa_huts : Nat → Int32} {rsa_minutes : Nat → Int32} {rcf_voices : Int32} {rcf_step : Int32} {rca_parts : Nat → Int32} {rca_heights : Nat → Int32} {rf_fault : Int32} {rf_faultPlace : Int32} {ra_numbers : Nat → Int32} {ra_tape : Nat → Int32} {rf_length : Int32} {rf_behind : Int32} {rf_kind : Int32} {rf_first : Int32} {rf_value : Int32} {rf_hutsToldOf : Int32} {rf_singersToldOf : Int32} {nf_minute : Int32} {nf_avalanches : Int32} {nf_begun : Int32} {nf_climbed : Int32} {nf_seed : Int32} {na_huts : Nat → Int32} {na_known : Nat → Int32} {na_levels : Nat → Int32} {na_snow : Nat → Int32} {na_open : Nat → Int32} {pa_heard : Nat → Int32} {pa_walked : Nat → Int32} {pa_total : Nat → Int32} {pa_longest : Nat → Int32} {pa_next : Nat → Int32} {pa_cover : Nat → Int32} {pa_now : Nat → Int32} {pa_then : Nat → Int32} {ko_stands : Option Nat} {ka_gaps : Nat → Int32} {ka_behind : Nat → Int32} {ba_less : Nat → Int32} {ba_full : Nat → Int32} {x1 : Int32} (hr : ¬ x1 < 0 ∧ x1 < 3) (hm : m_images (Int32.toNatClampNeg x1) = none) (hT : tG ta_tape tf_length tf_fault tf_place ta_counts tl0f_huts tl0f_singers tl0f_villages tl0f_dams tl0f_echoes tl0f_deep tl0f_slide tl0a_heights tl0a_ladders tl0a_minutes tl0a_echoFrom tl0a_echoTo tl0a_homes tl0a_talls tl0a_known tl1f_huts tl1f_singers tl1f_villages tl1f_dams tl1f_echoes tl1f_deep tl1f_slide tl1a_heights tl1a_ladders tl1a_minutes tl1a_echoFrom tl1a_echoTo tl1a_homes tl1a_talls tl1a_known tv0f_deeds tv0a_kinds tv0a_firsts tv0a_seconds tv1f_deeds tv1a_kinds tv1a_firsts tv1a_seconds ts0f_facts ts0a_heard ts0a_huts ts0a_minutes ts1f_facts ts1a_heard ts1a_huts ts1a_minutes tc0f_voices tc0f_step tc0a_parts tc0a_heights tc1f_voices tc1f_step tc1a_parts tc1a_heights) : Met l yX10_image (Cond.code yX10_image cX10_image 2 (some .boolean) :: zb) (rmI 47 1261) (va_Pc [.ref qx, .int x1] (fun U => (U.heap.size = h ∧ qx + 93 ≤ h) ∧ wxW E qx ta_tape tf_length tf_fault tf_place ta_counts tl0f_huts tl0f_singers tl0f_villages tl0f_dams tl0f_echoes tl0f_deep tl0f_slide tl0a_heights tl0a_ladders tl0a_minutes tl0a_echoFrom tl0a_echoTo tl0a_homes tl0a_talls tl0a_known tl1f_huts tl1f_singers tl1f_villages tl1f_dams tl1f_echoes tl1f_deep tl1f_slide tl1a_heights tl1a_ladders tl1a_minutes tl1a_echoFrom tl1a_echoTo tl1a_homes tl1a_talls tl1a_known tv0f_deeds tv0a_kinds tv0a_firsts tv0a_seconds tv1f_deeds tv1a_kinds tv1a_firsts tv1a_seconds ts0f_facts ts0a_heard ts0a_huts ts0a_minutes ts1f_facts ts1a_heard ts1a_huts ts1a_minutes tc0f_voices tc0f_step tc0a_parts tc0a_heights tc1f_voices tc1f_step tc1a_parts tc1a_heights m_images rlf_huts rlf_singers rlf_villages rlf_dams rlf_echoes rlf_deep rlf_slide rla_heights rla_ladders rla_minutes rla_echoFrom rla_echoTo rla_homes rla_talls rla_known rvf_deeds rva_kinds rva_firsts rva_seconds rsf_facts rsa_heard rsa_huts rsa_minutes rcf_voices rcf_step rca_parts rca_heights rf_fault rf_faultPlace ra_numbers ra_tape rf_length rf_behind rf_kind rf_first rf_value rf_hutsToldOf rf_singersToldOf nf_minute nf_avalanches nf_begun nf_climbed nf_seed na_huts na_known na_levels na_snow na_open pa_heard pa_walked pa_total pa_longest pa_next pa_cover pa_now pa_then ko_stands ka_gaps ka_behind ba_less ba_full U.heap ∧ zK E U ∧ zO U)) (zQi (S := Unit) (fun r _ => r = 1) (fun _ H => ∃ na_tape nf_length nf_fault nf_place na_counts nl0f_huts nl0f_singers nl0f_villages nl0f_dams nl0f_echoes nl0f_deep nl0f_slide nl0a_heights nl0a_ladders nl0a_minutes nl0a_echoFrom nl0a_echoTo nl0a_homes nl0a_talls nl0a_known nl1f_huts nl1f_singers nl1f_villages nl1f_dams nl1f_echoes nl1f_deep nl1f_slide nl1a_heights nl1a_ladders nl1a_minutes nl1a_echoFrom nl1a_echoTo nl1a_homes nl1a_talls nl1a_known nv0f_deeds nv0a_kinds nv0a_firsts nv0a_seconds nv1f_deeds nv1a_kinds nv1a_firsts nv1a_seconds ns0f_facts ns0a_heard ns0a_huts ns0a_minutes ns1f_facts ns1a_heard ns1a_huts ns1a_minutes nc0f_voices nc0f_step nc0a_parts nc0a_heights nc1f_voices nc1f_step nc1a_parts nc1a_heights, tG na_tape nf_length nf_fault nf_place na_counts nl0f_huts nl0f_singers nl0f_villages nl0f_dams nl0f_echoes nl0f_deep nl0f_slide nl0a_heights nl0a_ladders nl0a_minutes nl0a_echoFrom nl0a_echoTo nl0a_homes nl0a_talls nl0a_known nl1f_huts nl1f_singers nl1f_villages nl1f_dams nl1f_echoes nl1f_deep nl1f_slide nl1a_heights nl1a_ladders nl1a_minutes nl1a_echoFrom nl1a_echoTo nl1a_homes nl1a_talls nl1a_known nv0f_deeds nv0a_kinds nv0a_firsts nv0a_seconds nv1f_deeds nv1a_kinds nv1a_firsts nv1a_seconds ns0f_facts ns0a_heard ns0a_huts ns0a_minutes ns1f_facts ns1a_heard ns1a_huts ns1a_minutes nc0f_voices nc0f_step nc0a_parts nc0a_heights nc1f_voices nc1f_step nc1a_parts nc1a_heights ∧ tCP (tmk na_tape nf_length nf_fault nf_place na_counts nl0f_huts nl0f_singers nl0f_villages nl0f_dams nl0f_echoes nl0f_deep nl0f_slide nl0a_heights nl0a_ladders nl0a_minutes nl0a_echoFrom nl0a_echoTo nl0a_homes nl0a_talls nl0a_known nl1f_huts nl1f_singers nl1f_villages nl1f_dams nl1f_echoes nl1f_deep nl1f_slide nl1a_heights nl1a_ladders nl1a_minutes nl1a_echoFrom nl1a_echoTo nl1a_homes nl1a_talls nl1a_known nv0f_deeds nv0a_kinds nv0a_firsts nv0a_seconds nv1f_deeds nv1a_kinds nv1a_firsts nv1a_seconds ns0f_facts ns0a_heard ns0a_huts ns0a_minutes ns1f_facts ns1a_heard ns1a_huts ns1a_minutes nc0f_voices nc0f_step nc0a_parts nc0a_heights nc1f_voices nc1f_step nc1a_parts nc1a_heights) (tmk ta_tape tf_length tf_fault tf_place ta_counts tl0f_huts tl0f_singers tl0f_villages tl0f_dams tl0f_echoes tl0f_deep tl0f_slide tl0a_heights tl0a_ladders tl0a_minutes tl0a_echoFrom tl0a_echoTo tl0a_homes tl0a_talls tl0a_known tl1f_huts tl1f_singers tl1f_villages tl1f_dams tl1f_echoes tl1f_deep tl1f_slide tl1a_heights tl1a_ladders tl1a_minutes tl1a_echoFrom tl1a_echoTo tl1a_homes tl1a_talls tl1a_known tv0f_deeds tv0a_kinds tv0a_firsts tv0a_seconds tv1f_deeds tv1a_kinds tv1a_firsts tv1a_seconds ts0f_facts ts0a_heard ts0a_huts ts0a_minutes ts1f_facts ts1a_heard ts1a_huts ts1a_minutes tc0f_voices tc0f_step tc0a_parts tc0a_heights tc1f_voices tc1f_step tc1a_parts tc1a_heights) ∧ wxiW E qx h ta_tape tf_length tf_fault tf_place ta_counts tl0f_huts tl0f_singers tl0f_villages tl0f_dams tl0f_echoes tl0f_deep tl0f_slide tl0a_heights tl0a_ladders tl0a_minutes tl0a_echoFrom tl0a_echoTo tl0a_homes tl0a_talls tl0a_known tl1f_huts tl1f_singers tl1f_villages tl1f_dams tl1f_echoes tl1f_deep tl1f_slide tl1a_heights tl1a_ladders tl1a_minutes tl1a_echoFrom tl1a_echoTo tl1a_homes tl1a_talls tl1a_known tv0f_deeds tv0a_kinds tv0a_firsts tv0a_seconds tv1f_deeds tv1a_kinds tv1a_firsts tv1a_seconds ts0f_facts ts0a_heard ts0a_huts ts0a_minutes ts1f_facts ts1a_heard ts1a_huts ts1a_minutes tc0f_voices tc0f_step tc0a_parts tc0a_heights tc1f_voices tc1f_step tc1a_parts tc1a_heights (va_up m_images (Int32.toNatClampNeg x1) (some h)) rlf_huts rlf_singers rlf_villages rlf_dams rlf_echoes rlf_deep rlf_slide rla_heights rla_ladders rla_minutes rla_echoFrom rla_echoTo rla_homes rla_talls rla_known rvf_deeds rva_kinds rva_firsts rva_seconds rsf_facts rsa_heard rsa_huts rsa_minutes rcf_voices rcf_step rca_parts rca_heights rf_fault rf_faultPlace ra_numbers ra_tape rf_length rf_behind rf_kind rf_first rf_value rf_hutsToldOf rf_singersToldOf nf_minute nf_avalanches nf_begun nf_climbed nf_seed na_huts na_known na_levels na_snow na_open pa_heard pa_walked pa_total pa_longest pa_next pa_cover pa_now pa_then ko_stands ka_gaps ka_behind ba_less ba_full na_tape nf_length nf_fault nf_place na_counts nl0f_huts nl0f_singers nl0f_villages nl0f_dams nl0f_echoes nl0f_deep nl0f_slide nl0a_heights nl0a_ladders nl0a_minutes nl0a_echoFrom nl0a_echoTo nl0a_homes nl0a_talls nl0a_known nl1f_huts nl1f_singers nl1f_villages nl1f_dams nl1f_echoes nl1f_deep nl1f_slide nl1a_heights nl1a_ladders nl1a_minutes nl1a_echoFrom nl1a_echoTo nl1a_homes nl1a_talls nl1a_known nv0f_deeds nv0a_kinds nv0a_firsts nv0a_seconds nv1f_deeds nv1a_kinds nv1a_firsts nv1a_seconds ns0f_facts ns0a_heard ns0a_huts ns0a_minutes ns1f_facts ns1a_heard ns1a_huts ns1a_minutes nc0f_voices nc0f_step nc0a_parts nc0a_heights nc1f_voices nc1f_step nc1a_parts nc1a_heights H) (zImA qx h)) 47 1261 (zImA qx h) := by
  refine Met.ofW (cc := cX10_image) (maxL := 2) (ret := (some .boolean)) (by decide) rfl ?_
  intro p e s m args below meth c s₁ B hml hv
  obtain ⟨rfl, ⟨hsz, hqh⟩, hMx, hK, hO⟩ := hv
  have zc := zc_of B hml
  have hx := zc.1
  have hb := zc.2.1
  have hl := lv_entry ([.ref qx, .int x1]) (n := 2) (Nat.le_of_ble_eq_true rfl)
  rw [lg_entry_eq]
  generalize (lg_sl ([.ref qx, .int x1]) ++ List.replicate (2 - (lg_sl ([.ref qx, .int x1])).length) Slot.unset).toArray = ls at hl ⊢
  have hl : lv_has ls 2 [(0, .ref qx), (1, .int x1)] := hl
  have hS : va_S (zImA qx h) s.heap s.heap [] := va_S.rf
  have hin : vp_in x1 3 := iv_in (iv_lta (l := 0) (h := 2) (r_lt hr.2) (iv_leb (l := 0) (h := 2147483647) (r_nlt hr.1) (iv_lit (x := 0) (l := 0) (h := 0) (by decide)) (iv_top x1) (by decide)) (iv_lit (x := 3) (l := 3) (h := 3) (by decide)) (by decide)) (by decide)
  refine lv_iload_n hx hb dX10_image_0 rfl (lv_at hl 1 rfl) ?_
  refine lv_if_lt (tgt := 9) hx hb dX10_image_1 (by decide) (fun hc => absurd hc hr.1) (fun hc => ?_)
  refine lv_iload_n hx hb dX10_image_4 rfl (lv_at hl 1 rfl) ?_
  refine lv_iconst (v := (3 : Int32)) hx hb dX10_image_5 (by decide) ?_
  refine lv_icmp_lt (tgt := 11) hx hb dX10_image_6 (by decide) (fun hd => ?_) (fun hd => absurd hr.2 hd)
  refine lv_aload_n hx hb dX10_image_11 rfl (lv_at hl 0 rfl) ?_
  refine va_get (D := E.1) (ci := 10) (v := .ref (qx + 48)) (C := RX10) (T := TX10) (N := 7) hx hb zc.2.2.2.2.1 uw10 zc.2.2.2.1 hK.1 hMx 0 rfl rfl 1 (by decide) (zc.2.2.2.2.1 _ kf_10_16) (fun _ h9 => h9) rfl dX10_image_12 ?_
  refine lv_iload_n hx hb dX10_image_15 rfl (lv_at hl 1 rfl) ?_
  refine va_aldq hx hb hK.1 hMx 48 8 rfl rfl hin dX10_image_16 ?_
  rw [hm]
  refine W.eq (g2 := F0 m 17 ls (.null :: [])) rfl ?_
  refine lv_ifnonnullN hx hb dX10_image_17 ?_
  refine lv_aload_n hx hb dX10_image_20 rfl (lv_at hl 0 rfl) ?_
  refine va_get (D := E.1) (ci := 10) (v := .ref (qx + 48)) (C := RX10) (T := TX10) (N := 7) hx hb zc.2.2.2.2.1 uw10 zc.2.2.2.1 hK.1 hMx 0 rfl rfl 1 (by decide) (zc.2.2.2.2.1 _ kf_10_16) (fun _ h9 => h9) rfl dX10_image_21 ?_
  refine lv_iload_n hx hb dX10_image_24 rfl (lv_at hl 1 rfl) ?_
  refine zNew (ws := []) (C := RX9) (T := TX9) (N := 9) (ci := 9) zc hK (fun k q h => by simp at h) hS hsz uw9 tyX9 tyX9_ok kcl_10_7 kins_9 kinit_9 rfl [.null, .int 0, .int 0, .int 0, .null, .null, .null, .null, .null] (fun j hj => match j, hj with | 0, _ => rfl | 1, _ => rfl | 2, _ => rfl | 3, _ => rfl | 4, _ => rfl | 5, _ => rfl | 6, _ => rfl | 7, _ => rfl | 8, _ => rfl | j + 9, hj => absurd hj (by omega)) (Nat.le_of_ble_eq_true rfl) (Nat.le_of_ble_eq_true rfl) dX10_image_25 (fun H1 hN o1 hz1 hS => ?_)
  have hMx := wx_kp hMx (fun z _ _ h3 => o1 z (Nat.lt_of_lt_of_le h3 hqh))
  have g9 : va_P E.1 zcl [(h, .inr (9, [.null, .int 0, .int 0, .int 0, .null, .null, .null, .null, .null]))] H1 := hN
  refine W.cs (cells' := 1) (slots' := 9) rfl rfl ?_
  refine lv_dup hx hb dX10_image_28 rfl ?_
  refine zIc zc ky_X9_init kz_X9_init rfl km_10_9 (ci_X9_init l) (zIpre hK hO g9 hz1) hS (fun q (hq : h ≤ q) => Or.inr hq) hl.1 (Nat.le_of_ble_eq_true rfl) ⟨rfl, rfl⟩ ⟨(Nat.le_of_ble_eq_true rfl), (Nat.le_of_ble_eq_true rfl)⟩ ⟨(Nat.le_of_ble_eq_true rfl), (Nat.le_of_ble_eq_true rfl)⟩ dX10_image_29 (fun _ H2 locs _ hJ hk hS => ?_)
  have hMx := wx_kp hMx (fun z h1 _ h3 => hk z h1 (fun (hq : h ≤ z) => absurd (Nat.lt_of_lt_of_le h3 hqh) (Nat.not_lt.mpr hq)))
  have g9 := hJ.1
  refine W.cs (cells' := 47) (slots' := 1261) rfl rfl ?_
  refine zAast (t := 8) (r := (RX9, TX9, 9)) zc hK hMx ((wxD E qx ta_tape tf_length tf_fault tf_place ta_counts tl0f_huts tl0f_singers tl0f_villages tl0f_dams tl0f_echoes tl0f_deep tl0f_slide tl0a_heights tl0a_ladders tl0a_minutes tl0a_echoFrom tl0a_echoTo tl0a_homes tl0a_talls tl0a_known tl1f_huts tl1f_singers tl1f_villages tl1f_dams tl1f_echoes tl1f_deep tl1f_slide tl1a_heights tl1a_ladders tl1a_minutes tl1a_echoFrom tl1a_echoTo tl1a_homes tl1a_talls tl1a_known tv0f_deeds tv0a_kinds tv0a_firsts tv0a_seconds tv1f_deeds tv1a_kinds tv1a_firsts tv1a_seconds ts0f_facts ts0a_heard ts0a_huts ts0a_minutes ts1f_facts ts1a_heard ts1a_huts ts1a_minutes tc0f_voices tc0f_step tc0a_parts tc0a_heights tc1f_voices tc1f_step tc1a_parts tc1a_heights m_images rlf_huts rlf_singers rlf_villages rlf_dams rlf_echoes rlf_deep rlf_slide rla_heights rla_ladders rla_minutes rla_echoFrom rla_echoTo rla_homes rla_talls rla_known rvf_deeds rva_kinds rva_firsts rva_seconds rsf_facts rsa_heard rsa_huts rsa_minutes rcf_voices rcf_step rca_parts rca_heights rf_fault rf_faultPlace ra_numbers ra_tape rf_length rf_behind rf_kind rf_first rf_value rf_hutsToldOf rf_singersToldOf nf_minute nf_avalanches nf_begun nf_climbed nf_seed na_huts na_known na_levels na_snow na_open pa_heard pa_walked pa_total pa_longest pa_next pa_cover pa_now pa_then ko_stands ka_gaps ka_behind ba_less ba_full).weaken (fun _ _ _ h => Or.inl h)) hS 48 0 rfl rfl g9 rfl rfl hin dX10_image_32 (fun H3 locs hN oq hz3 hS => ?_)
  have hMx : wxW E qx ta_tape tf_length tf_fault tf_place ta_counts tl0f_huts tl0f_singers tl0f_villages tl0f_dams tl0f_echoes tl0f_deep tl0f_slide tl0a_heights tl0a_ladders tl0a_minutes tl0a_echoFrom tl0a_echoTo tl0a_homes tl0a_talls tl0a_known tl1f_huts tl1f_singers tl1f_villages tl1f_dams tl1f_echoes tl1f_deep tl1f_slide tl1a_heights tl1a_ladders tl1a_minutes tl1a_echoFrom tl1a_echoTo tl1a_homes tl1a_talls tl1a_known tv0f_deeds tv0a_kinds tv0a_firsts tv0a_seconds tv1f_deeds tv1a_kinds tv1a_firsts tv1a_seconds ts0f_facts ts0a_heard ts0a_huts ts0a_minutes ts1f_facts ts1a_heard ts1a_huts ts1a_minutes tc0f_voices tc0f_step tc0a_parts tc0a_heights tc1f_voices tc1f_step tc1a_parts tc1a_heights (va_up m_images (Int32.toNatClampNeg x1) (some h)) rlf_huts rlf_singers rlf_villages rlf_dams rlf_echoes rlf_deep rlf_slide rla_heights rla_ladders rla_minutes rla_echoFrom rla_echoTo rla_homes rla_talls rla_known rvf_deeds rva_kinds rva_firsts rva_seconds rsf_facts rsa_heard rsa_huts rsa_minutes rcf_voices rcf_step rca_parts rca_heights rf_fault rf_faultPlace ra_numbers ra_tape rf_length rf_behind rf_kind rf_first rf_value rf_hutsToldOf rf_singersToldOf nf_minute nf_avalanches nf_begun nf_climbed nf_seed na_huts na_known na_levels na_snow na_open pa_heard pa_walked pa_total pa_longest pa_next pa_cover pa_now pa_then ko_stands ka_gaps ka_behind ba_less ba_full H3 := hN
  have g9 := zkp g9 zrg_X9_init (fun q _ h2 _ => oq q (by omega))
  exact im_tail3 zc hK (xi_of hMx (wt_0 g9) hqh) hT tG_0 hin (va_up_self _ _ _) hS (fun q hq => by unfold wttA at hq; unfold zImA zR; omega) hl

set_option maxRecDepth 40000 in
set_option maxHeartbeats 4000000 in
theorem c3_again_yes (l : Launch) {E : zE} {qx qi : Nat} {ta_tape : Nat → Int32} {tf_length : Int32} {tf_fault : Int32} {tf_place : Int32} {ta_counts : Nat → Int32} {tl0f_huts : Int32} {tl0f_singers : Int32} {tl0f_villages : Int32} {tl0f_dams : Int32} {tl0f_echoes : Int32} {tl0f_deep : Int32} {tl0f_slide : Int32} {tl0a_heights : Nat → Int32} {tl0a_ladders : Nat → Int32} {tl0a_minutes : Nat → Int32} {tl0a_echoFrom : Nat → Int32} {tl0a_echoTo : Nat → Int32} {tl0a_homes : Nat → Int32} {tl0a_talls : Nat → Int32} {tl0a_known : Nat → Int32} {tl1f_huts : Int32} {tl1f_singers : Int32} {tl1f_villages : Int32} {tl1f_dams : Int32} {tl1f_echoes : Int32} {tl1f_deep : Int32} {tl1f_slide : Int32} {tl1a_heights : Nat → Int32} {tl1a_ladders : Nat → Int32} {tl1a_minutes : Nat → Int32} {tl1a_echoFrom : Nat → Int32} {tl1a_echoTo : Nat → Int32} {tl1a_homes : Nat → Int32} {tl1a_talls : Nat → Int32} {tl1a_known : Nat → Int32} {tv0f_deeds : Int32} {tv0a_kinds : Nat → Int32} {tv0a_firsts : Nat → Int32} {tv0a_seconds : Nat → Int32} {tv1f_deeds : Int32} {tv1a_kinds : Nat → Int32} {tv1a_firsts : Nat → Int32} {tv1a_seconds : Nat → Int32} {ts0f_facts : Int32} {ts0a_heard : Nat → Int32} {ts0a_huts : Nat → Int32} {ts0a_minutes : Nat → Int32} {ts1f_facts : Int32} {ts1a_heard : Nat → Int32} {ts1a_huts : Nat → Int32} {ts1a_minutes : Nat → Int32} {tc0f_voices : Int32} {tc0f_step : Int32} {tc0a_parts : Nat → Int32} {tc0a_heights : Nat → Int32} {tc1f_voices : Int32} {tc1f_step : Int32} {tc1a_parts : Nat → Int32} {tc1a_heights : Nat → Int32} {m_images : Nat → Option Nat} {rlf_huts : Int32} {rlf_singers : Int32} {rlf_villages : Int32} {rlf_dams : Int32} {rlf_echoes : Int32} {rlf_deep : Int32} {rlf_slide : Int32} {rla_heights : Nat → Int32} {rla_ladders : Nat → Int32} {rla_minutes : Nat → Int32} {rla_echoFrom : Nat → Int32} {rla_echoTo : Nat → Int32} {rla_homes : Nat → Int32} {rla_talls : Nat → Int32} {rla_known : Nat → Int32} {rvf_deeds : Int32} {rva_kinds : Nat → Int32} {rva_firsts : Nat → Int32} {rva_seconds : Nat → Int32} {rsf_facts : Int32} {rsa_heard : Nat → Int32} {rsa_huts : Nat → Int32} {rsa_minutes : Nat → Int32} {rcf_voices : Int32} {rcf_step : Int32} {rca_parts : Nat → Int32} {rca_heights : Nat → Int32} {rf_fault : Int32} {rf_faultPlace : Int32} {ra_numbers : Nat → Int32} {ra_tape : Nat → Int32} {rf_length : Int32} {rf_behind : Int32} {rf_kind : Int32} {rf_first : Int32} {rf_value : Int32} {rf_hutsToldOf : Int32} {rf_singersToldOf : Int32} {nf_minute : Int32} {nf_avalanches : Int32} {nf_begun : Int32} {nf_climbed : Int32} {nf_seed : Int32} {na_huts : Nat → Int32} {na_known : Nat → Int32} {na_levels : Nat → Int32} {na_snow : Nat → Int32} {na_open : Nat → Int32} {pa_heard : Nat → Int32} {pa_walked : Nat → Int32} {pa_total : Nat → Int32} {pa_longest : Nat → Int32} {pa_next : Nat → Int32} {pa_cover : Nat → Int32} {pa_now : Nat → Int32} {pa_then : Nat → Int32} {ko_stands : Option Nat} {ka_gaps : Nat → Int32} {ka_behind : Nat → Int32} {ba_less : Nat → Int32} {ba_full : Nat → Int32} {ia_tape : Nat → Int32} {if_length : Int32} {if_fault : Int32} {if_place : Int32} {ia_counts : Nat → Int32} {il0f_huts : Int32} {il0f_singers : Int32} {il0f_villages : Int32} {il0f_dams : Int32} {il0f_echoes : Int32} {il0f_deep : Int32} {il0f_slide : Int32} {il0a_heights : Nat → Int32} {il0a_ladders : Nat → Int32} {il0a_minutes : Nat → Int32} {il0a_echoFrom : Nat → Int32} {il0a_echoTo : Nat → Int32} {il0a_homes : Nat → Int32} {il0a_talls : Nat → Int32} {il0a_known : Nat → Int32} {il1f_huts : Int32} {il1f_singers : Int32} {il1f_villages : Int32} {il1f_dams : Int32} {il1f_echoes : Int32} {il1f_deep : Int32} {il1f_slide : Int32} {il1a_heights : Nat → Int32} {il1a_ladders : Nat → Int32} {il1a_minutes : Nat → Int32} {il1a_echoFrom : Nat → Int32} {il1a_echoTo : Nat → Int32} {il1a_homes : Nat → Int32} {il1a_talls : Nat → Int32} {il1a_known : Nat → Int32} {iv0f_deeds : Int32} {iv0a_kinds : Nat → Int32} {iv0a_firsts : Nat → Int32} {iv0a_seconds : Nat → Int32} {iv1f_deeds : Int32} {iv1a_kinds : Nat → Int32} {iv1a_firsts : Nat → Int32} {iv1a_seconds : Nat → Int32} {is0f_facts : Int32} {is0a_heard : Nat → Int32} {is0a_huts : Nat → Int32} {is0a_minutes : Nat → Int32} {is1f_facts : Int32} {is1a_heard : Nat → Int32} {is1a_huts : Nat → Int32} {is1a_minutes : Nat → Int32} {ic0f_voices : Int32} {ic0f_step : Int32} {ic0a_parts : Nat → Int32} {ic0a_heights : Nat → Int32} {ic1f_voices : Int32} {ic1f_step : Int32} {ic1a_parts : Nat → Int32} {ic1a_heights : Nat → Int32} {x1 : Int32} (hr : ¬ x1 < 0 ∧ x1 < 3) (hm : m_images (Int32.toNatClampNeg x1) = some qi) (hT : tG ta_tape tf_length tf_fault tf_place ta_counts tl0f_huts tl0f_singers tl0f_villages tl0f_dams tl0f_echoes tl0f_deep tl0f_slide tl0a_heights tl0a_ladders tl0a_minutes tl0a_echoFrom tl0a_echoTo tl0a_homes tl0a_talls tl0a_known tl1f_huts tl1f_singers tl1f_villages tl1f_dams tl1f_echoes tl1f_deep tl1f_slide tl1a_heights tl1a_ladders tl1a_minutes tl1a_echoFrom tl1a_echoTo tl1a_homes tl1a_talls tl1a_known tv0f_deeds tv0a_kinds tv0a_firsts tv0a_seconds tv1f_deeds tv1a_kinds tv1a_firsts tv1a_seconds ts0f_facts ts0a_heard ts0a_huts ts0a_minutes ts1f_facts ts1a_heard ts1a_huts ts1a_minutes tc0f_voices tc0f_step tc0a_parts tc0a_heights tc1f_voices tc1f_step tc1a_parts tc1a_heights) (hI : tG ia_tape if_length if_fault if_place ia_counts il0f_huts il0f_singers il0f_villages il0f_dams il0f_echoes il0f_deep il0f_slide il0a_heights il0a_ladders il0a_minutes il0a_echoFrom il0a_echoTo il0a_homes il0a_talls il0a_known il1f_huts il1f_singers il1f_villages il1f_dams il1f_echoes il1f_deep il1f_slide il1a_heights il1a_ladders il1a_minutes il1a_echoFrom il1a_echoTo il1a_homes il1a_talls il1a_known iv0f_deeds iv0a_kinds iv0a_firsts iv0a_seconds iv1f_deeds iv1a_kinds iv1a_firsts iv1a_seconds is0f_facts is0a_heard is0a_huts is0a_minutes is1f_facts is1a_heard is1a_huts is1a_minutes ic0f_voices ic0f_step ic0a_parts ic0a_heights ic1f_voices ic1f_step ic1a_parts ic1a_heights) : Met l yX10_again (Cond.code yX10_again cX10_again 2 (some .boolean) :: zb) (rmI 0 0) (va_Pc [.ref qx, .int x1] (fun U => wxiW E qx qi ta_tape tf_length tf_fault tf_place ta_counts tl0f_huts tl0f_singers tl0f_villages tl0f_dams tl0f_echoes tl0f_deep tl0f_slide tl0a_heights tl0a_ladders tl0a_minutes tl0a_echoFrom tl0a_echoTo tl0a_homes tl0a_talls tl0a_known tl1f_huts tl1f_singers tl1f_villages tl1f_dams tl1f_echoes tl1f_deep tl1f_slide tl1a_heights tl1a_ladders tl1a_minutes tl1a_echoFrom tl1a_echoTo tl1a_homes tl1a_talls tl1a_known tv0f_deeds tv0a_kinds tv0a_firsts tv0a_seconds tv1f_deeds tv1a_kinds tv1a_firsts tv1a_seconds ts0f_facts ts0a_heard ts0a_huts ts0a_minutes ts1f_facts ts1a_heard ts1a_huts ts1a_minutes tc0f_voices tc0f_step tc0a_parts tc0a_heights tc1f_voices tc1f_step tc1a_parts tc1a_heights m_images rlf_huts rlf_singers rlf_villages rlf_dams rlf_echoes rlf_deep rlf_slide rla_heights rla_ladders rla_minutes rla_echoFrom rla_echoTo rla_homes rla_talls rla_known rvf_deeds rva_kinds rva_firsts rva_seconds rsf_facts rsa_heard rsa_huts rsa_minutes rcf_voices rcf_step rca_parts rca_heights rf_fault rf_faultPlace ra_numbers ra_tape rf_length rf_behind rf_kind rf_first rf_value rf_hutsToldOf rf_singersToldOf nf_minute nf_avalanches nf_begun nf_climbed nf_seed na_huts na_known na_levels na_snow na_open pa_heard pa_walked pa_total pa_longest pa_next pa_cover pa_now pa_then ko_stands ka_gaps ka_behind ba_less ba_full ia_tape if_length if_fault if_place ia_counts il0f_huts il0f_singers il0f_villages il0f_dams il0f_echoes il0f_deep il0f_slide il0a_heights il0a_ladders il0a_minutes il0a_echoFrom il0a_echoTo il0a_homes il0a_talls il0a_known il1f_huts il1f_singers il1f_villages il1f_dams il1f_echoes il1f_deep il1f_slide il1a_heights il1a_ladders il1a_minutes il1a_echoFrom il1a_echoTo il1a_homes il1a_talls il1a_known iv0f_deeds iv0a_kinds iv0a_firsts iv0a_seconds iv1f_deeds iv1a_kinds iv1a_firsts iv1a_seconds is0f_facts is0a_heard is0a_huts is0a_minutes is1f_facts is1a_heard is1a_huts is1a_minutes ic0f_voices ic0f_step ic0a_parts ic0a_heights ic1f_voices ic1f_step ic1a_parts ic1a_heights U.heap ∧ zK E U)) (zQi (S := Unit) (fun r _ => r = 1) (fun _ H => ∃ na_tape nf_length nf_fault nf_place na_counts nl0f_huts nl0f_singers nl0f_villages nl0f_dams nl0f_echoes nl0f_deep nl0f_slide nl0a_heights nl0a_ladders nl0a_minutes nl0a_echoFrom nl0a_echoTo nl0a_homes nl0a_talls nl0a_known nl1f_huts nl1f_singers nl1f_villages nl1f_dams nl1f_echoes nl1f_deep nl1f_slide nl1a_heights nl1a_ladders nl1a_minutes nl1a_echoFrom nl1a_echoTo nl1a_homes nl1a_talls nl1a_known nv0f_deeds nv0a_kinds nv0a_firsts nv0a_seconds nv1f_deeds nv1a_kinds nv1a_firsts nv1a_seconds ns0f_facts ns0a_heard ns0a_huts ns0a_minutes ns1f_facts ns1a_heard ns1a_huts ns1a_minutes nc0f_voices nc0f_step nc0a_parts nc0a_heights nc1f_voices nc1f_step nc1a_parts nc1a_heights, tG na_tape nf_length nf_fault nf_place na_counts nl0f_huts nl0f_singers nl0f_villages nl0f_dams nl0f_echoes nl0f_deep nl0f_slide nl0a_heights nl0a_ladders nl0a_minutes nl0a_echoFrom nl0a_echoTo nl0a_homes nl0a_talls nl0a_known nl1f_huts nl1f_singers nl1f_villages nl1f_dams nl1f_echoes nl1f_deep nl1f_slide nl1a_heights nl1a_ladders nl1a_minutes nl1a_echoFrom nl1a_echoTo nl1a_homes nl1a_talls nl1a_known nv0f_deeds nv0a_kinds nv0a_firsts nv0a_seconds nv1f_deeds nv1a_kinds nv1a_firsts nv1a_seconds ns0f_facts ns0a_heard ns0a_huts ns0a_minutes ns1f_facts ns1a_heard ns1a_huts ns1a_minutes nc0f_voices nc0f_step nc0a_parts nc0a_heights nc1f_voices nc1f_step nc1a_parts nc1a_heights ∧ tCP (tmk na_tape nf_length nf_fault nf_place na_counts nl0f_huts nl0f_singers nl0f_villages nl0f_dams nl0f_echoes nl0f_deep nl0f_slide nl0a_heights nl0a_ladders nl0a_minutes nl0a_echoFrom nl0a_echoTo nl0a_homes nl0a_talls nl0a_known nl1f_huts nl1f_singers nl1f_villages nl1f_dams nl1f_echoes nl1f_deep nl1f_slide nl1a_heights nl1a_ladders nl1a_minutes nl1a_echoFrom nl1a_echoTo nl1a_homes nl1a_talls nl1a_known nv0f_deeds nv0a_kinds nv0a_firsts nv0a_seconds nv1f_deeds nv1a_kinds nv1a_firsts nv1a_seconds ns0f_facts ns0a_heard ns0a_huts ns0a_minutes ns1f_facts ns1a_heard ns1a_huts ns1a_minutes nc0f_voices nc0f_step nc0a_parts nc0a_heights nc1f_voices nc1f_step nc1a_parts nc1a_heights) (tmk ia_tape if_length if_fault if_place ia_counts il0f_huts il0f_singers il0f_villages il0f_dams il0f_echoes il0f_deep il0f_slide il0a_heights il0a_ladders il0a_minutes il0a_echoFrom il0a_echoTo il0a_homes il0a_talls il0a_known il1f_huts il1f_singers il1f_villages il1f_dams il1f_echoes il1f_deep il1f_slide il1a_heights il1a_ladders il1a_minutes il1a_echoFrom il1a_echoTo il1a_homes il1a_talls il1a_known iv0f_deeds iv0a_kinds iv0a_firsts iv0a_seconds iv1f_deeds iv1a_kinds iv1a_firsts iv1a_seconds is0f_facts is0a_heard is0a_huts is0a_minutes is1f_facts is1a_heard is1a_huts is1a_minutes ic0f_voices ic0f_step ic0a_parts ic0a_heights ic1f_voices ic1f_step ic1a_parts ic1a_heights) ∧ wxiW E qx qi na_tape nf_length nf_fault nf_place na_counts nl0f_huts nl0f_singers nl0f_villages nl0f_dams nl0f_echoes nl0f_deep nl0f_slide nl0a_heights nl0a_ladders nl0a_minutes nl0a_echoFrom nl0a_echoTo nl0a_homes nl0a_talls nl0a_known nl1f_huts nl1f_singers nl1f_villages nl1f_dams nl1f_echoes nl1f_deep nl1f_slide nl1a_heights nl1a_ladders nl1a_minutes nl1a_echoFrom nl1a_echoTo nl1a_homes nl1a_talls nl1a_known nv0f_deeds nv0a_kinds nv0a_firsts nv0a_seconds nv1f_deeds nv1a_kinds nv1a_firsts nv1a_seconds ns0f_facts ns0a_heard ns0a_huts ns0a_minutes ns1f_facts ns1a_heard ns1a_huts ns1a_minutes nc0f_voices nc0f_step nc0a_parts nc0a_heights nc1f_voices nc1f_step nc1a_parts nc1a_heights m_images rlf_huts rlf_singers rlf_villages rlf_dams rlf_echoes rlf_deep rlf_slide rla_heights rla_ladders rla_minutes rla_echoFrom rla_echoTo rla_homes rla_talls rla_known rvf_deeds rva_kinds rva_firsts rva_seconds rsf_facts rsa_heard rsa_huts rsa_minutes rcf_voices rcf_step rca_parts rca_heights rf_fault rf_faultPlace ra_numbers ra_tape rf_length rf_behind rf_kind rf_first rf_value rf_hutsToldOf rf_singersToldOf nf_minute nf_avalanches nf_begun nf_climbed nf_seed na_huts na_known na_levels na_snow na_open pa_heard pa_walked pa_total pa_longest pa_next pa_cover pa_now pa_then ko_stands ka_gaps ka_behind ba_less ba_full ia_tape if_length if_fault if_place ia_counts il0f_huts il0f_singers il0f_villages il0f_dams il0f_echoes il0f_deep il0f_slide il0a_heights il0a_ladders il0a_minutes il0a_echoFrom il0a_echoTo il0a_homes il0a_talls il0a_known il1f_huts il1f_singers il1f_villages il1f_dams il1f_echoes il1f_deep il1f_slide il1a_heights il1a_ladders il1a_minutes il1a_echoFrom il1a_echoTo il1a_homes il1a_talls il1a_known iv0f_deeds iv0a_kinds iv0a_firsts iv0a_seconds iv1f_deeds iv1a_kinds iv1a_firsts iv1a_seconds is0f_facts is0a_heard is0a_huts is0a_minutes is1f_facts is1a_heard is1a_huts is1a_minutes ic0f_voices ic0f_step ic0a_parts ic0a_heights ic1f_voices ic1f_step ic1a_parts ic1a_heights H) (wttA (qx + 1) qi)) 0 0 (wttA (qx + 1) qi) := by
  refine Met.ofW (cc := cX10_again) (maxL := 2) (ret := (some .boolean)) (by decide) rfl ?_
  intro p e s m args below meth c s₁ B hml hv
  obtain ⟨rfl, hM, hK⟩ := hv
  have zc := zc_of B hml
  have hx := zc.1
  have hb := zc.2.1
  have hl := lv_entry ([.ref qx, .int x1]) (n := 2) (Nat.le_of_ble_eq_true rfl)
  rw [lg_entry_eq]
  generalize (lg_sl ([.ref qx, .int x1]) ++ List.replicate (2 - (lg_sl ([.ref qx, .int x1])).length) Slot.unset).toArray = ls at hl ⊢
  have hl : lv_has ls 2 [(0, .ref qx), (1, .int x1)] := hl
  have hMx := xi_x hM
  have hS : va_S (wttA (qx + 1) qi) s.heap s.heap [] := va_S.rf
  have hsub : ∀ q, wttA (qx + 1) qi q → wttA (qx + 1) qi q := fun _ h => h
  have hin : vp_in x1 3 := iv_in (iv_lta (l := 0) (h := 2) (r_lt hr.2) (iv_leb (l := 0) (h := 2147483647) (r_nlt hr.1) (iv_lit (x := 0) (l := 0) (h := 0) (by decide)) (iv_top x1) (by decide)) (iv_lit (x := 3) (l := 3) (h := 3) (by decide)) (by decide)) (by decide)
  refine lv_iload_n hx hb dX10_again_0 rfl (lv_at hl 1 rfl) ?_
  refine lv_if_lt (tgt := 18) hx hb dX10_again_1 (by decide) (fun hc => absurd hc hr.1) (fun hc => ?_)
  refine lv_iload_n hx hb dX10_again_4 rfl (lv_at hl 1 rfl) ?_
  refine lv_iconst (v := (3 : Int32)) hx hb dX10_again_5 (by decide) ?_
  refine lv_icmp_ge (tgt := 18) hx hb dX10_again_6 (by decide) (fun hd => absurd hr.2 (Int32.not_lt.mpr hd)) (fun hd => ?_)
  refine lv_aload_n hx hb dX10_again_9 rfl (lv_at hl 0 rfl) ?_
  refine va_get (D := E.1) (ci := 10) (v := .ref (qx + 48)) (C := RX10) (T := TX10) (N := 7) hx hb zc.2.2.2.2.1 uw10 zc.2.2.2.1 hK.1 hMx 0 rfl rfl 1 (by decide) (zc.2.2.2.2.1 _ kf_10_16) (fun _ h9 => h9) rfl dX10_again_10 ?_
  refine lv_iload_n hx hb dX10_again_13 rfl (lv_at hl 1 rfl) ?_
  refine va_aldq hx hb hK.1 hMx 48 8 rfl rfl hin dX10_again_14 ?_
  rw [hm]
  refine W.eq (g2 := F0 m 15 ls (.ref qi :: [])) rfl ?_
  refine lv_ifnonnull (tgt := 20) hx hb dX10_again_15 (by decide) ?_
  refine lv_aload_n hx hb dX10_again_20 rfl (lv_at hl 0 rfl) ?_
  refine va_get (D := E.1) (ci := 10) (v := .ref (qx + 1)) (C := RX10) (T := TX10) (N := 7) hx hb zc.2.2.2.2.1 uw10 zc.2.2.2.1 hK.1 hMx 0 rfl rfl 0 (by decide) (zc.2.2.2.2.1 _ kf_10_10) (fun _ h9 => h9) rfl dX10_again_21 ?_
  refine lv_aload_n hx hb dX10_again_24 rfl (lv_at hl 0 rfl) ?_
  refine va_get (D := E.1) (ci := 10) (v := .ref (qx + 48)) (C := RX10) (T := TX10) (N := 7) hx hb zc.2.2.2.2.1 uw10 zc.2.2.2.1 hK.1 hMx 0 rfl rfl 1 (by decide) (zc.2.2.2.2.1 _ kf_10_16) (fun _ h9 => h9) rfl dX10_again_25 ?_
  refine lv_iload_n hx hb dX10_again_28 rfl (lv_at hl 1 rfl) ?_
  refine va_aldq hx hb hK.1 hMx 48 8 rfl rfl hin dX10_again_29 ?_
  rw [hm]
  refine W.eq (g2 := F0 m 30 ls (.ref qi :: .ref (qx + 1) :: [])) rfl ?_
  refine zVa_v [.ref qi] [] zc ky_X9_copyFrom kz_X9_copyFrom km_10_323 (c_wtt_X9_copyFrom_47 l (post := fun na_tape nf_length nf_fault nf_place na_counts nl0f_huts nl0f_singers nl0f_villages nl0f_dams nl0f_echoes nl0f_deep nl0f_slide nl0a_heights nl0a_ladders nl0a_minutes nl0a_echoFrom nl0a_echoTo nl0a_homes nl0a_talls nl0a_known nl1f_huts nl1f_singers nl1f_villages nl1f_dams nl1f_echoes nl1f_deep nl1f_slide nl1a_heights nl1a_ladders nl1a_minutes nl1a_echoFrom nl1a_echoTo nl1a_homes nl1a_talls nl1a_known nv0f_deeds nv0a_kinds nv0a_firsts nv0a_seconds nv1f_deeds nv1a_kinds nv1a_firsts nv1a_seconds ns0f_facts ns0a_heard ns0a_huts ns0a_minutes ns1f_facts ns1a_heard ns1a_huts ns1a_minutes nc0f_voices nc0f_step nc0a_parts nc0a_heights nc1f_voices nc1f_step nc1a_parts nc1a_heights => tG na_tape nf_length nf_fault nf_place na_counts nl0f_huts nl0f_singers nl0f_villages nl0f_dams nl0f_echoes nl0f_deep nl0f_slide nl0a_heights nl0a_ladders nl0a_minutes nl0a_echoFrom nl0a_echoTo nl0a_homes nl0a_talls nl0a_known nl1f_huts nl1f_singers nl1f_villages nl1f_dams nl1f_echoes nl1f_deep nl1f_slide nl1a_heights nl1a_ladders nl1a_minutes nl1a_echoFrom nl1a_echoTo nl1a_homes nl1a_talls nl1a_known nv0f_deeds nv0a_kinds nv0a_firsts nv0a_seconds nv1f_deeds nv1a_kinds nv1a_firsts nv1a_seconds ns0f_facts ns0a_heard ns0a_huts ns0a_minutes ns1f_facts ns1a_heard ns1a_huts ns1a_minutes nc0f_voices nc0f_step nc0a_parts nc0a_heights nc1f_voices nc1f_step nc1a_parts nc1a_heights ∧ tCP (tmk na_tape nf_length nf_fault nf_place na_counts nl0f_huts nl0f_singers nl0f_villages nl0f_dams nl0f_echoes nl0f_deep nl0f_slide nl0a_heights nl0a_ladders nl0a_minutes nl0a_echoFrom nl0a_echoTo nl0a_homes nl0a_talls nl0a_known nl1f_huts nl1f_singers nl1f_villages nl1f_dams nl1f_echoes nl1f_deep nl1f_slide nl1a_heights nl1a_ladders nl1a_minutes nl1a_echoFrom nl1a_echoTo nl1a_homes nl1a_talls nl1a_known nv0f_deeds nv0a_kinds nv0a_firsts nv0a_seconds nv1f_deeds nv1a_kinds nv1a_firsts nv1a_seconds ns0f_facts ns0a_heard ns0a_huts ns0a_minutes ns1f_facts ns1a_heard ns1a_huts ns1a_minutes nc0f_voices nc0f_step nc0a_parts nc0a_heights nc1f_voices nc1f_step nc1a_parts nc1a_heights) (tmk ia_tape if_length if_fault if_place ia_counts il0f_huts il0f_singers il0f_villages il0f_dams il0f_echoes il0f_deep il0f_slide il0a_heights il0a_ladders il0a_minutes il0a_echoFrom il0a_echoTo il0a_homes il0a_talls il0a_known il1f_huts il1f_singers il1f_villages il1f_dams il1f_echoes il1f_deep il1f_slide il1a_heights il1a_ladders il1a_minutes il1a_echoFrom il1a_echoTo il1a_homes il1a_talls il1a_known iv0f_deeds iv0a_kinds iv0a_firsts iv0a_seconds iv1f_deeds iv1a_kinds iv1a_firsts iv1a_seconds is0f_facts is0a_heard is0a_huts is0a_minutes is1f_facts is1a_heard is1a_huts is1a_minutes ic0f_voices ic0f_step ic0a_parts ic0a_heights ic1f_voices ic1f_step ic1a_parts ic1a_heights)) (tG_copy3 hT hI (fun _ _ _ _ _ _ _ _ _ _ _ _ _ _ _ _ _ _ _ _ _ _ _ _ _ _ _ _ _ _ _ _ _ _ _ _ _ _ _ _ _ _ _ _ _ _ _ _ _ _ _ _ _ _ _ _ _ _ _ h1 h2 => ⟨h1, h2⟩))) (wttPreV0 hK (pj_wxi_wtt_1_93 hM)) hS hsub rfl rfl hl.1 (Nat.le_of_ble_eq_true rfl) ⟨rfl, rfl⟩ ⟨(Nat.le_of_ble_eq_true rfl), (Nat.le_of_ble_eq_true rfl)⟩ ⟨Nat.le_refl _, Nat.le_refl _⟩ dX10_again_30 (fun u H4 locs hw hB hsz hk hS => ?_)
  have hM := jn_wxi_wtt_1_93 hM hB hk
  refine lv_iconst (v := (1 : Int32)) hx hb dX10_again_33 (by decide) ?_
  exact zret_zw () zc hS rfl rfl ⟨_, _, _, _, _, _, _, _, _, _, _, _, _, _, _, _, _, _, _, _, _, _, _, _, _, _, _, _, _, _, _, _, _, _, _, _, _, _, _, _, _, _, _, _, _, _, _, _, _, _, _, _, _, _, _, _, _, _, _, hw.1, hw.2, hM⟩ dX10_again_34
end
section
/-- bits of a number -/
def hb (s : Int32) (k : Nat) : Bool := s.toBitVec.getLsbD k
theorem sm_tab : ∀ k, k < 31 → ((nI k).toBitVec.smod 32).toNat = k := by decide +kernel
theorem hb_sh {s : Int32} {k : Nat} (hk : k < 31) : (s >>> (nI k &&& 31)) &&& 1 = if hb s k = true then 1 else 0 := by
  have e : (nI k &&& 31 : Int32) = nI k := by
    rw [pk_andN (n := k) (by omega) (m := 31) 5 (by decide), Nat.mod_eq_of_lt (by omega)]
  have sh : (s >>> nI k).toBitVec = s.toBitVec.sshiftRight k := by
    have h3 : (s >>> nI k).toBitVec = s.toBitVec.sshiftRight' ((nI k).toBitVec.smod 32) := rfl
    rw [h3, BitVec.sshiftRight_eq', sm_tab k hk]
  have g0 : (s >>> nI k).toBitVec.getLsbD 0 = hb s k := by
    unfold hb
    rw [sh, BitVec.getLsbD_sshiftRight]
    simp [show k < 32 by omega]
  have t0 : (s >>> nI k).toBitVec.getLsbD 0 = decide ((s >>> nI k).toBitVec.toNat % 2 = 1) := by
    rw [BitVec.getLsbD, Nat.testBit_zero]
  rw [e, pk_and (s >>> nI k) (m := 1) 1 (by decide), ← g0, t0]
  by_cases h : (s >>> nI k).toBitVec.toNat % 2 = 1
  · rw [decide_eq_true h, if_pos rfl, show (2 : Nat) ^ 1 = 2 from rfl, h]; rfl
  · have h2 : (s >>> nI k).toBitVec.toNat % 2 = 0 := by omega
    rw [decide_eq_false h, if_neg (by decide), show (2 : Nat) ^ 1 = 2 from rfl, h2]; rfl
theorem e_hasX {s : Int32} {k : Nat} {post : Int32 → Prop} (hk : k < 31) (h0 : hb s k = false → post 0) (h1 : hb s k = true → post 1) : q_z_X10_has_0 s (nI k) post := by
  unfold q_z_X10_has_0
  rw [hb_sh hk]
  cases h : hb s k with
  | true => rw [if_pos rfl]; exact ⟨fun h9 => absurd h9 (by decide), fun _ => h1 h⟩
  | false => rw [if_neg (by decide)]; exact ⟨fun _ => h0 h, fun h9 => absurd rfl h9⟩
theorem e_damX {s : Int32} {k : Nat} {post : Int32 → Prop} (hk : k < 31) (h0 : hb s k = false → post 0) (h1 : hb s k = true → post 1) : q_wl_X2_isDam_0 s (nI k) post := by
  unfold q_wl_X2_isDam_0
  rw [hb_sh hk]
  cases h : hb s k with
  | true => rw [if_pos rfl]; exact ⟨fun h9 => absurd h9 (by decide), fun _ => h1 h⟩
  | false => rw [if_neg (by decide)]; exact ⟨fun _ => h0 h, fun h9 => absurd rfl h9⟩
theorem e_hasM {s : Int32} {k : Nat} {post : Int32 → Prop} (hk : k < 31) (h0 : hb s k = false → post 0) (h1 : hb s k = true → post 1) : q_m_has_0 s (nI k) post := by
  unfold q_m_has_0
  rw [hb_sh hk]
  cases h : hb s k with
  | true =>
    rw [if_pos rfl]
    first | exact ⟨fun h9 => absurd rfl h9, fun _ => h1 h⟩ | exact ⟨fun _ => h1 h, fun h9 => absurd rfl h9⟩
  | false =>
    rw [if_neg (by decide)]
    first | exact ⟨fun _ => h0 h, fun h9 => absurd h9 (by decide)⟩ | exact ⟨fun h9 => absurd h9 (by decide), fun _ => h0 h⟩
theorem hb_0 (k : Nat) : hb 0 k = false := by
  unfold hb
  rw [show (0 : Int32).toBitVec = 0#32 from rfl, BitVec.getLsbD_zero]
theorem hb_or (s t : Int32) (k : Nat) : hb (s ||| t) k = (hb s k || hb t k) := by
  unfold hb
  rw [Int32.toBitVec_or, BitVec.getLsbD_or]
theorem hb_and (s t : Int32) (k : Nat) : hb (s &&& t) k = (hb s k && hb t k) := by
  unfold hb
  rw [Int32.toBitVec_and, BitVec.getLsbD_and]
theorem hb_not (t : Int32) {k : Nat} (hk : k < 32) : hb (t ^^^ (-1)) k = !hb t k := by
  unfold hb
  rw [Int32.toBitVec_xor, BitVec.getLsbD_xor, show (-1 : Int32).toBitVec = BitVec.allOnes 32 from by decide, BitVec.getLsbD_allOnes]
  simp [hk]
theorem hb_bit_tab : ((List.range 31).all fun i => (List.range 31).all fun k => hb ((1 : Int32) <<< (nI i &&& 31)) k == decide (i = k)) = true := by decide +kernel
theorem hb_bit {i k : Nat} (hi : i < 31) (hk : k < 31) : hb ((1 : Int32) <<< (nI i &&& 31)) k = decide (i = k) := by
  have h := List.all_eq_true.mp (List.all_eq_true.mp hb_bit_tab i (List.mem_range.mpr hi)) k (List.mem_range.mpr hk)
  exact eq_of_beq h
/-- a set of bits below n -/
theorem hb_ext {s t : Int32} {n : Nat} (hs : iv 0 (2 ^ n - 1 : Nat) s) (ht : iv 0 (2 ^ n - 1 : Nat) t) (hn : n ≤ 30) (h : ∀ k, k < n → hb s k = hb t k) : s = t := by
  obtain ⟨a, rfl, -, ha, -⟩ := iv_nI hs (by decide)
  obtain ⟨b, rfl, -, hb', -⟩ := iv_nI ht (by decide)
  have h2 : 2 ^ n ≤ 2 ^ 30 := Nat.pow_le_pow_right (by decide) hn
  have h0 : 0 < 2 ^ n := Nat.two_pow_pos n
  have tb : ∀ (m k : Nat), m < 2 ^ 31 → hb (nI m) k = m.testBit k := by
    intro m k hm
    unfold hb
    rw [BitVec.getLsbD, iv_tn hm]
  have e : a = b := by
    apply Nat.eq_of_testBit_eq
    intro k
    by_cases hk : k < n
    · rw [← tb a k (by omega), ← tb b k (by omega)]
      exact h k hk
    · have ha2 : a < 2 ^ k := Nat.lt_of_lt_of_le (by omega) (Nat.pow_le_pow_right (by decide) (Nat.le_of_not_lt hk))
      have hb2 : b < 2 ^ k := Nat.lt_of_lt_of_le (by omega) (Nat.pow_le_pow_right (by decide) (Nat.le_of_not_lt hk))
      rw [Nat.testBit_lt_two_pow ha2, Nat.testBit_lt_two_pow hb2]
  rw [e]
end
section
/-- a state of an evening: rows 0 at, 1 knows, 2 climbed, 3 snow, 4 level, 5 (begun, minute, avalanches) -/
def smk (at_ kn cl sn lv : Nat → Int32) (be mi av : Int32) : Nat → Nat → Int32 := fun r => match r with | 0 => at_ | 1 => kn | 2 => cl | 3 => sn | 4 => lv | 5 => (fun j => if j = 0 then be else if j = 1 then mi else av) | _ => fun _ => 0
def bitI (k : Nat) : Int32 := (1 : Int32) <<< (nI k &&& 31)
def cN (x : Int32) : Nat := x.toNatClampNeg
/-- how high a singer is -/
def hgh (td : Nat → Int32) (at_ cl : Nat → Int32) (s : Nat) : Int32 := (td (7 + cN (at_ s)) - td (31 + s)) + cl s * td (16 + cN (at_ s))
def dam (td : Nat → Int32) (h : Nat) : Bool := hb (td 3) h
def ech (td : Nat → Int32) (h x : Nat) : Nat → Bool
  | 0 => false
  | k + 1 => ech td h x k || (decide (td (43 + 2 * k) = nI h) && decide (td (44 + 2 * k) = nI x))
/-- whether a song that sounds in h is heard in x -/
def hear (td : Nat → Int32) (h x : Nat) : Bool := !dam td x && (decide (x = h) || ech td h x (cN (td 4)))
def knS (td at_ kn : Nat → Int32) (s t : Nat) : Nat → Int32 := fun o => if o < cN (td 1) ∧ hear td (cN (at_ s)) (cN (at_ o)) = true then kn o ||| bitI t else kn o
/-- begin, sing, whistle: who may -/
def mayR (td at_ kn : Nat → Int32) (be : Int32) (s : Nat) (x : Int32) (b : Bool) : Bool := decide (0 ≤ x ∧ x < 5) && hb (kn s) (cN x) && (hb be (cN x) == b) && !dam td (cN (at_ s))
def wrongR (td at_ cl lv : Nat → Int32) (s t : Nat) (whi : Bool) : Bool := decide (lv t < hgh td at_ cl s) || (!whi && decide (hgh td at_ cl s = lv t))
def rais (td at_ kn cl sn lv : Nat → Int32) (be mi av : Int32) (s t : Nat) (w : Bool) : Nat → Nat → Int32 :=
  smk at_ (knS td at_ kn s t) cl (upd sn (cN (at_ s)) (sn (cN (at_ s)) + (if w = true then 1 else 0))) (upd lv t (hgh td at_ cl s)) (be ||| bitI t) mi (av + (if w = true then 1 else 0))
def mayW (td at_ cl sn : Nat → Int32) (s : Nat) (x : Int32) : Bool := decide (0 ≤ x ∧ x < td 0) && !decide (td (51 + 9 * cN (at_ s) + cN x) = 0) && !decide (cl s = 1) && decide (sn (cN (at_ s)) < td 5) && decide (sn (cN x) < td 5)
/-- a deed: whether it can be, and the state behind it -/
def act (td : Nat → Int32) (k s x : Int32) (at_ kn cl sn lv : Nat → Int32) (be mi av : Int32) : Bool × (Nat → Nat → Int32) :=
  if ¬ (0 ≤ s ∧ s < td 1) then (false, smk at_ kn cl sn lv be mi av)
  else if k = 0 then (if mayR td at_ kn be (cN s) x false = true then (true, smk at_ (knS td at_ kn (cN s) (cN x)) cl sn (upd lv (cN x) (hgh td at_ cl (cN s))) (be ||| bitI (cN x)) mi av) else (false, smk at_ kn cl sn lv be mi av))
  else if k = 1 ∨ k = 2 then (if mayR td at_ kn be (cN s) x true = true then (true, rais td at_ kn cl sn lv be mi av (cN s) (cN x) (wrongR td at_ cl lv (cN s) (cN x) (decide (k = 2)))) else (false, smk at_ kn cl sn lv be mi av))
  else if k = 3 then (if mayW td at_ cl sn (cN s) x = true then (true, smk (upd at_ (cN s) x) kn cl sn lv be (mi + td (51 + 9 * cN (at_ (cN s)) + cN x)) av) else (false, smk at_ kn cl sn lv be mi av))
  else if k = 4 then (if ¬ td (16 + cN (at_ (cN s))) = 0 ∧ ¬ cl (cN s) = 1 then (true, smk at_ kn (upd cl (cN s) 1) sn lv be mi av) else (false, smk at_ kn cl sn lv be mi av))
  else (if ¬ cl (cN s) = 0 then (true, smk at_ kn (upd cl (cN s) 0) sn lv be mi av) else (false, smk at_ kn cl sn lv be mi av))
end
section
/-- the land's row of the reference -/
abbrev tdM (M : Nat → Nat → Int32) (k : Nat) : Nat → Int32 := rowM M 0 (nI k)
theorem cN_nI {n : Nat} (h : n < 2 ^ 31) : cN (nI n) = n := nI_clamp h
theorem e_highM {M : Nat → Nat → Int32} {at_ cl : Nat → Int32} {k s : Nat} {post : Int32 → Prop} (hk : k < 2) (hs : s < 6) (ha : iv 0 8 (at_ s)) (hp : post (hgh (tdM M k) at_ cl s)) : q_m_high_0 (M 5) (nI k) at_ cl (nI s) post := by
  have hin : vp_in (nI s) 6 := vp_in_nI hs (by omega)
  obtain ⟨a, ea, -, ha8, -⟩ := iv_nI ha (by decide)
  unfold hgh at hp
  rw [ea, cN_nI (by omega)] at hp
  refine ⟨hin, ?_⟩
  rw [nI_clamp (by omega), ea]
  refine e_of (i := 7 + a) hk (by omega) (jx 7 a) ?_
  refine e_of (i := 31 + s) hk (by omega) (jx 31 s) ⟨hin, hin, ?_⟩
  exact e_of (i := 16 + a) hk (by omega) (jx 16 a) hp
theorem e_damM {M : Nat → Nat → Int32} {k h : Nat} {post : Int32 → Prop} (hk : k < 2) (hh : h < 31) (h0 : dam (tdM M k) h = false → post 0) (h1 : dam (tdM M k) h = true → post 1) : q_m_isDam_0 (M 5) (nI k) (nI h) post :=
  e_of (i := 3) hk (by omega) rfl (e_hasM hh (fun e => ⟨rfl, h0 e⟩) (fun e => ⟨rfl, h1 e⟩))
theorem e_cutM {M : Nat → Nat → Int32} {sn : Nat → Int32} {k h : Nat} {post : Int32 → Prop} (hk : k < 2) (hh : h < 9) (h0 : sn h < tdM M k 5 → post 0) (h1 : ¬ sn h < tdM M k 5 → post 1) : q_m_isCut_0 (M 5) (nI k) sn (nI h) post := by
  refine ⟨vp_in_nI hh (by omega), e_of (i := 5) hk (by omega) rfl ?_⟩
  rw [nI_clamp (by omega)]
  exact ⟨h0, h1⟩
theorem e_hearM {M : Nat → Nat → Int32} {k h : Nat} {post : Int32 → Prop} (hk : k < 2) (hh : h < 9) (hL : mLand (M 5)) (hp : ∀ set, (∀ x, x < 31 → hb set x = hear (tdM M k) h x) → post set) : q_m_hearing_0 (M 5) (nI k) (nI h) post := by
  have h4 : iv 0 4 (tdM M k 4) := row_iv hL hk (by omega)
  obtain ⟨c, hc, -, hc4, -⟩ := iv_nI h4 (by decide)
  intro v ev P hP
  have loop : ∀ m j (x2 : Int32), m + j = c → (∀ x, x < 31 → hb x2 x = (decide (x = h) || ech (tdM M k) h x j)) → P x2 (nI j) := by
    intro m
    induction m with
    | zero =>
      intro j x2 hj hx
      apply hP
      refine e_of (i := 4) hk (by omega) rfl ?_
      rw [show rowM M 0 (nI k) 4 = nI c from hc]
      refine pk_le c j (fun _ => e_of (i := 3) hk (by omega) rfl (hp _ (fun x hx9 => ?_))) (fun h9 => absurd h9 (by omega))
      rw [hb_and, hb_not _ (by omega), hx x hx9]
      unfold hear
      rw [hc, cN_nI (by omega), show c = j by omega, Bool.and_comm]
      rfl
    | succ m ih =>
      intro j x2 hj hx
      apply hP
      refine e_of (i := 4) hk (by omega) rfl ?_
      rw [show rowM M 0 (nI k) 4 = nI c from hc]
      refine pk_le c j (fun h9 => absurd h9 (by omega)) (fun _ => ?_)
      have hi : (43 : Int32) + 2 * nI j = nI (43 + 2 * j) := by rw [show (43 : Int32) = nI 43 from rfl, show (2 : Int32) = nI 2 from rfl, pk_mul, nI_add]
      have st : ∀ y : Int32, (∀ x, x < 31 → hb y x = (decide (tdM M k (43 + 2 * j) = nI h) && decide (tdM M k (44 + 2 * j) = nI x))) → q_m_hearing_48 P (M 5) (nI k) (nI h) (nI j) x2 y post := by
        intro y hy v1 e1 v2 e2
        rw [e1, e2, nI_1]
        refine ih (j + 1) _ (by omega) (fun x hx9 => ?_)
        rw [hb_or, hx x hx9, hy x hx9]
        show _ = (decide (x = h) || (ech (tdM M k) h x j || _))
        rw [Bool.or_assoc]
      refine e_of (i := 43 + 2 * j) hk (by omega) hi ⟨fun hne => st 0 (fun x hx9 => ?_), fun he => ?_⟩
      · rw [hb_0, decide_eq_false hne]; rfl
      · have hy8 : iv 0 8 (tdM M k (44 + 2 * j)) := iv_w (row_iv hL hk (by omega)) (by
          have : mRh (44 + 2 * j) = 8 := by
            have hj4 : j < 4 := by omega
            have hc : j = 0 ∨ j = 1 ∨ j = 2 ∨ j = 3 := by omega
            rcases hc with rfl | rfl | rfl | rfl <;> decide
          rw [this]; decide)
        obtain ⟨y, ey, -, hy, -⟩ := iv_nI hy8 (by decide)
        refine e_of (i := 44 + 2 * j) hk (by omega) (by rw [hi, nI_1, show 43 + 2 * j + 1 = 44 + 2 * j by omega]) (st _ (fun x hx9 => ?_))
        rw [show rowM M 0 (nI k) (44 + 2 * j) = nI y from ey, ey, hb_bit (by omega) hx9, decide_eq_true (show tdM M k (43 + 2 * j) = nI h from he), Bool.true_and]
        by_cases hxy : y = x
        · subst hxy; rw [decide_eq_true rfl, decide_eq_true rfl]
        · rw [decide_eq_false hxy, decide_eq_false (fun h9 => hxy ((nI_eq (by omega) (by omega)).mp h9))]
  have h0 := loop c 0 v (by omega) (fun x hx => ?_)
  · exact h0
  · rw [ev, hb_bit (by omega) hx]
    show decide (h = x) = (decide (x = h) || false)
    rw [Bool.or_false]
    by_cases hxh : h = x
    · rw [decide_eq_true hxh, decide_eq_true hxh.symm]
    · rw [decide_eq_false hxh, decide_eq_false (fun h9 => hxh h9.symm)]
/-- the state's ranges -/
def nR (at_ kn cl sn lv : Nat → Int32) : Prop := (∀ j, j < 6 → iv 0 8 (at_ j)) ∧ (∀ j, j < 6 → cl j = 0 ∨ cl j = 1)
theorem e_soundsM {M : Nat → Nat → Int32} {at_ kn cl lv : Nat → Int32} {be : Int32} {k s t : Nat} {post : (Nat → Int32) → (Nat → Int32) → Int32 → Prop} (hk : k < 2) (hs : s < 6) (ht : t < 5) (hL : mLand (M 5)) (ha : ∀ j, j < 6 → iv 0 8 (at_ j)) (hp : post (knS (tdM M k) at_ kn s t) (upd lv t (hgh (tdM M k) at_ cl s)) (be ||| bitI t)) : q_m_sounds_0 (M 5) (nI k) (tdM M k 1) at_ kn cl lv be (nI s) (nI t) post := by
  have h1 : iv 0 6 (tdM M k 1) := row_iv hL hk (by omega)
  obtain ⟨c, hc, -, hc6, -⟩ := iv_nI h1 (by decide)
  obtain ⟨a, ea, -, ha8, -⟩ := iv_nI (ha s hs) (by decide)
  refine ⟨vp_in_nI hs (by omega), ?_⟩
  rw [nI_clamp (by omega), ea]
  refine e_hearM hk (by omega) hL (fun set hset => e_highM hk hs (ha s hs) ⟨vp_in_nI ht (by omega), fun lv1 e1 v e2 => ?_⟩)
  rw [nI_clamp (by omega)] at e1
  subst e1
  have e3 : v = be ||| bitI t := e2
  subst e3
  intro P hP
  have loop : ∀ m o (kn1 : Nat → Int32), m + o = c → (∀ j, kn1 j = if j < o ∧ hear (tdM M k) a (cN (at_ j)) = true then kn j ||| bitI t else kn j) → P (nI o) kn1 := by
    intro m
    induction m with
    | zero =>
      intro o kn1 ho hq
      apply hP
      rw [hc]
      refine pk_le c o (fun _ => ?_) (fun h9 => absurd h9 (by omega))
      have e : kn1 = knS (tdM M k) at_ kn s t := by
        funext j
        rw [hq j]
        unfold knS
        rw [hc, cN_nI (by omega), ea, cN_nI (by omega), show c = o by omega]
      rw [e]
      exact hp
    | succ m ih =>
      intro o kn1 ho hq
      apply hP
      have hin : vp_in (nI o) 6 := vp_in_nI (by omega) (by omega)
      rw [hc]
      refine pk_le c o (fun h9 => absurd h9 (by omega)) (fun _ => ⟨hin, hin, ?_⟩)
      rw [nI_clamp (by omega)]
      obtain ⟨b, eb, -, hb8, -⟩ := iv_nI (ha o (by omega)) (by decide)
      have hko : kn1 o = kn o := by rw [hq o, if_neg (fun h9 => by omega)]
      have st : ∀ y : Int32, (kn1 o ||| y) = (if hear (tdM M k) a b = true then kn o ||| bitI t else kn o) → q_m_sounds_75 P (M 5) (nI k) (nI c) at_ kn1 cl (upd lv t (hgh (tdM M k) at_ cl s)) (be ||| bitI t) (nI t) set (nI o) (nI o) (kn1 o) y post := by
        intro y hy v1 e1
        refine ⟨hin, fun k1 e2 v2 e3 => ?_⟩
        rw [nI_clamp (by omega), e1, hy] at e2
        rw [e3, nI_1, e2]
        refine ih (o + 1) _ (by omega) (fun j => ?_)
        by_cases hjo : j = o
        · subst hjo
          rw [up_s, eb, cN_nI (by omega)]
          by_cases hh : hear (tdM M k) a b = true
          · rw [if_pos hh, if_pos ⟨by omega, hh⟩]
          · rw [if_neg hh, if_neg (fun h9 => hh h9.2)]
        · rw [up_n hjo, hq j]
          by_cases hh : hear (tdM M k) a (cN (at_ j)) = true
          · by_cases hlt : j < o
            · rw [if_pos ⟨hlt, hh⟩, if_pos ⟨by omega, hh⟩]
            · rw [if_neg (fun h9 => hlt h9.1), if_neg (fun h9 => by omega)]
          · rw [if_neg (fun h9 => hh h9.2), if_neg (fun h9 => hh h9.2)]
      rw [eb]
      refine e_hasM (by omega) (fun h9 => iz (st 0 ?_)) (fun h9 => oi (st _ ?_))
      · rw [hset b (by omega)] at h9
        rw [if_neg (by rw [h9]; decide), hko]
        simp
      · rw [hset b (by omega)] at h9
        rw [if_pos h9, hko]
        rfl
  exact loop c 0 kn (by omega) (fun j => by rw [if_neg (fun h9 => by omega)])
theorem kn_hi : ((List.range 32).all fun m => (List.range 31).all fun x => decide (x < 5) || !hb (nI m) x) = true := by decide +kernel
theorem kn_m1 : ∀ m, m < 32 → ((nI m >>> ((-1 : Int32) &&& 31)) &&& 1) = 0 := by decide +kernel
theorem e_hasK {kn x : Int32} {post : Int32 → Prop} (hkn : iv 0 31 kn) (hx : iv (-1) 8 x) (h0 : (decide (0 ≤ x ∧ x < 5) && hb kn (cN x)) = false → post 0) (h1 : ∀ t, t < 5 → x = nI t → hb kn t = true → post 1) : q_m_has_0 kn x post := by
  obtain ⟨m, rfl, -, hm, -⟩ := iv_nI hkn (by decide)
  by_cases hneg : x < 0
  · have e : x = -1 := by
      apply Int32.toInt_inj.mp
      have := r_lt hneg
      have e0 : (0 : Int32).toInt = 0 := rfl
      have em : (-1 : Int32).toInt = -1 := rfl
      have := hx.1
      omega
    have hf := h0 (by rw [decide_eq_false (fun h9 => absurd hneg (Int32.not_lt.mpr h9.1))]; rfl)
    subst e
    unfold q_m_has_0
    rw [kn_m1 m (by omega)]
    exact ⟨fun _ => hf, fun h9 => absurd h9 (by decide)⟩
  · obtain ⟨t, ht, rfl⟩ := nI_of hneg
    have ht8 : t ≤ 8 := by
      have := hx.2
      rw [nI_toInt ht] at this
      omega
    rw [cN_nI ht] at h0
    refine e_hasM (by omega) (fun h9 => h0 (by rw [h9, Bool.and_false])) (fun h9 => ?_)
    have h5 : t < 5 := by
      have g := List.all_eq_true.mp (List.all_eq_true.mp kn_hi m (List.mem_range.mpr (by omega))) t (List.mem_range.mpr (by omega))
      rw [h9] at g
      simpa using g
    exact h1 t h5 rfl h9
theorem e_mayBeginM {M : Nat → Nat → Int32} {at_ kn : Nat → Int32} {be x : Int32} {k s : Nat} {post : Int32 → Prop} (hk : k < 2) (hs : s < 6) (ha : iv 0 8 (at_ s)) (hkn : iv 0 31 (kn s)) (hx : iv (-1) 8 x) (h0 : mayR (tdM M k) at_ kn be s x false = false → post 0) (h1 : mayR (tdM M k) at_ kn be s x false = true → post 1) : q_m_mayBegin_0 (M 5) (nI k) at_ kn be (nI s) x post := by
  have hin : vp_in (nI s) 6 := vp_in_nI hs (by omega)
  obtain ⟨a, ea, -, ha8, -⟩ := iv_nI ha (by decide)
  unfold mayR at h0 h1
  refine ⟨hin, ?_⟩
  rw [nI_clamp (by omega)]
  refine e_hasK hkn hx (fun h9 => iz (h0 (by rw [h9]; rfl))) (fun t ht ex h9 => oi ?_)
  subst ex
  rw [cN_nI (by omega), h9, decide_eq_true (show 0 ≤ nI t ∧ nI t < 5 from ⟨nI_pos' (by omega), nI_lt (b := 5) ht (by omega)⟩), ea, cN_nI (by omega)] at h0 h1
  refine e_hasM (by omega) (fun hb0 => zi ⟨hin, ?_⟩) (fun hb1 => io (h0 (by rw [hb1]; rfl)))
  rw [ea]
  rw [hb0] at h0 h1
  exact e_damM hk (by omega) (fun hd => zi (h1 (by rw [hd]; rfl))) (fun hd => io (h0 (by rw [hd]; rfl)))
theorem e_maySingM {M : Nat → Nat → Int32} {at_ kn : Nat → Int32} {be x : Int32} {k s : Nat} {post : Int32 → Prop} (hk : k < 2) (hs : s < 6) (ha : iv 0 8 (at_ s)) (hkn : iv 0 31 (kn s)) (hx : iv (-1) 8 x) (h0 : mayR (tdM M k) at_ kn be s x true = false → post 0) (h1 : mayR (tdM M k) at_ kn be s x true = true → post 1) : q_m_maySing_0 (M 5) (nI k) at_ kn be (nI s) x post := by
  have hin : vp_in (nI s) 6 := vp_in_nI hs (by omega)
  obtain ⟨a, ea, -, ha8, -⟩ := iv_nI ha (by decide)
  unfold mayR at h0 h1
  refine ⟨hin, ?_⟩
  rw [nI_clamp (by omega)]
  refine e_hasK hkn hx (fun h9 => iz (h0 (by rw [h9]; rfl))) (fun t ht ex h9 => oi ?_)
  subst ex
  rw [cN_nI (by omega), h9, decide_eq_true (show 0 ≤ nI t ∧ nI t < 5 from ⟨nI_pos' (by omega), nI_lt (b := 5) ht (by omega)⟩), ea, cN_nI (by omega)] at h0 h1
  refine e_hasM (by omega) (fun hb0 => iz (h0 (by rw [hb0]; rfl))) (fun hb1 => oi ⟨hin, ?_⟩)
  rw [ea]
  rw [hb1] at h0 h1
  exact e_damM hk (by omega) (fun hd => zi (h1 (by rw [hd]; rfl))) (fun hd => io (h0 (by rw [hd]; rfl)))
theorem mayR_x {td at_ kn : Nat → Int32} {be x : Int32} {s : Nat} {b : Bool} (h : mayR td at_ kn be s x b = true) : ∃ t, t < 5 ∧ x = nI t := by
  unfold mayR at h
  simp only [Bool.and_eq_true, decide_eq_true_eq] at h
  exact lt_nI (c := 5) (m := 5) (iv_lit (by decide)) h.1.1.1
theorem e_singsM {M : Nat → Nat → Int32} {at_ kn cl sn lv : Nat → Int32} {be av : Int32} {k s t : Nat} {w : Bool} {wi : Int32} {post : (Nat → Int32) → (Nat → Int32) → (Nat → Int32) → Int32 → Int32 → Prop} (hk : k < 2) (hs : s < 6) (ht : t < 5) (hL : mLand (M 5)) (ha : ∀ j, j < 6 → iv 0 8 (at_ j)) (hw : wi = if w = true then 1 else 0)
    (hp : ∀ g, g = wrongR (tdM M k) at_ cl lv s t w → post (knS (tdM M k) at_ kn s t) (upd sn (cN (at_ s)) (sn (cN (at_ s)) + (if g = true then 1 else 0))) (upd lv t (hgh (tdM M k) at_ cl s)) (be ||| bitI t) (av + (if g = true then 1 else 0))) : q_m_sings_0 (M 5) (nI k) (tdM M k 1) at_ kn cl sn lv be av (nI s) (nI t) wi post := by
  obtain ⟨a, ea, -, ha8, -⟩ := iv_nI (ha s hs) (by decide)
  have hin : vp_in (nI s) 6 := vp_in_nI hs (by omega)
  have hin5 : vp_in (nI t) 5 := vp_in_nI ht (by omega)
  have s37 : ∀ (g : Bool) (y : Int32), y = (if g = true then 1 else 0) → g = wrongR (tdM M k) at_ cl lv s t w → q_m_sings_37 (M 5) (nI k) (tdM M k 1) at_ kn cl sn lv be av (nI s) (nI t) y post := by
    intro g y hy hg
    have hq := hp g hg
    rw [ea, cN_nI (by omega)] at hq
    have s61 : q_m_sings_61 (M 5) (nI k) (tdM M k 1) at_ kn cl sn lv be av (nI s) (nI t) y (nI a) (sn a) (if g = true then 1 else 0) post := by
      intro v1 e1
      refine ⟨vp_in_nI (by omega) (by omega), fun sn1 e2 => ?_⟩
      rw [nI_clamp (by omega), e1] at e2
      have s78 : q_m_sings_78 (M 5) (nI k) (tdM M k 1) at_ kn cl sn1 lv be av (nI s) (nI t) av (if g = true then 1 else 0) post := by
        intro v2 e3
        refine e_soundsM hk hs ht hL ha ?_
        rw [e3, e2]
        exact hq
      cases g with
      | true =>
        rw [if_pos rfl] at hy s78
        subst hy
        exact ⟨fun h9 => absurd h9 (by decide), fun _ => s78⟩
      | false =>
        rw [if_neg (by decide)] at hy s78
        subst hy
        exact ⟨fun _ => s78, fun h9 => absurd rfl h9⟩
    refine ⟨hin, ?_⟩
    rw [nI_clamp (by omega), ea]
    refine ⟨vp_in_nI (by omega) (by omega), ?_⟩
    rw [nI_clamp (by omega)]
    cases g with
    | true =>
      rw [if_pos rfl] at hy s61
      subst hy
      exact ⟨fun h9 => absurd h9 (by decide), fun _ => s61⟩
    | false =>
      rw [if_neg (by decide)] at hy s61
      subst hy
      exact ⟨fun _ => s61, fun h9 => absurd rfl h9⟩
  refine e_highM hk hs (ha s hs) ⟨hin5, ?_⟩
  rw [nI_clamp (by omega)]
  unfold wrongR at s37
  refine ⟨fun hlt => s37 true 1 rfl (by rw [decide_eq_true hlt]; rfl), fun hlt => ⟨fun hw1 => s37 false 0 rfl ?_, fun hw0 => ?_⟩⟩
  · have e : w = true := by
      cases w with
      | true => rfl
      | false => rw [if_neg (by decide)] at hw; exact absurd hw hw1
    rw [decide_eq_false hlt, e]; rfl
  · have e : w = false := by
      cases w with
      | true => rw [if_pos rfl] at hw; rw [hw] at hw0; exact absurd hw0 (by decide)
      | false => rfl
    refine e_highM hk hs (ha s hs) ⟨hin5, ?_⟩
    refine ⟨fun hne => s37 false 0 rfl (by rw [decide_eq_false hlt, decide_eq_false hne, e]; rfl), fun he => s37 true 1 rfl (by rw [decide_eq_true he, e]; simp)⟩
end
section
theorem e_walksM {M : Nat → Nat → Int32} {at_ cl sn : Nat → Int32} {mi x : Int32} {k s : Nat} {post : Int32 → (Nat → Int32) → Int32 → Prop} (hk : k < 2) (hs : s < 6) (hL : mLand (M 5)) (ha : iv 0 8 (at_ s)) (h0 : mayW (tdM M k) at_ cl sn s x = false → post 0 at_ mi) (h1 : mayW (tdM M k) at_ cl sn s x = true → post 1 (upd at_ s x) (mi + tdM M k (51 + 9 * cN (at_ s) + cN x))) : q_m_walks_0 (M 5) (nI k) (tdM M k 0) at_ cl sn mi (nI s) x post := by
  obtain ⟨a, ea, -, ha8, -⟩ := iv_nI ha (by decide)
  have hin : vp_in (nI s) 6 := vp_in_nI hs (by omega)
  have b0 : iv 0 9 (tdM M k 0) := row_iv hL hk (by omega)
  unfold mayW at h0 h1
  unfold q_m_walks_0 q_m_isHut_0
  refine sp_in (fun hn => ⟨rfl, iz ?_⟩) (fun g1 g2 => ⟨rfl, oi ⟨hin, ?_⟩⟩)
  · refine ⟨fun _ => h0 ?_, fun h9 => absurd rfl h9⟩
    rw [decide_eq_false (fun h9 => hn ((in_lt (iv_w b0 (by decide))).mpr h9))]
    simp
  · have hlt := (in_lt (iv_w b0 (by decide) : iv 0 1000 (tdM M k 0))).mp ⟨g1, g2⟩
    obtain ⟨y, hy, ex⟩ := lt_nI (m := 9) b0 hlt
    rw [decide_eq_true hlt] at h0 h1
    rw [ea, ex, cN_nI (by omega), cN_nI (by omega)] at h0 h1
    rw [nI_clamp (by omega), ea, ex]
    refine e_of (i := 51 + 9 * a + y) hk (by omega) (ix9 a y) ?_
    refine ⟨fun hz => h0 ?_, fun hz => ⟨hin, ?_⟩⟩
    · rw [decide_eq_true hz]; simp
    · rw [decide_eq_false hz] at h0 h1
      rw [nI_clamp (by omega)]
      refine ⟨fun hc => h0 (by rw [decide_eq_true hc]; simp), fun hc => ⟨hin, ?_⟩⟩
      rw [decide_eq_false hc] at h0 h1
      rw [ea]
      refine e_cutM hk (by omega) (fun hc1 => zi ?_) (fun hc1 => io (h0 (by rw [decide_eq_false hc1]; simp)))
      rw [decide_eq_true hc1] at h0 h1
      refine e_cutM hk (by omega) (fun hc2 => iz ⟨hin, fun at1 e1 v e2 => ?_⟩) (fun hc2 => oi (h0 (by rw [decide_eq_false hc2]; simp)))
      rw [decide_eq_true hc2] at h1
      rw [e1, e2]
      exact h1 (by simp)
/-- the evening's row of the reference: deed j, number i -/
theorem e_deedOfM {M : Nat → Nat → Int32} {e j i : Nat} {x : Int32} {post : Int32 → Prop} (he : e < 2) (hj : j < 40) (hi : i < 3) (hx : x = nI i) (hp : post (rowM M 1 (nI e) (1 + 3 * j + i))) : q_m_deedOf_0 (M 6) (nI e) (nI j) x post := by
  have e9 : (((121 * nI e) + 1) + (3 * nI j)) + x = nI (121 * e + 1 + 3 * j + i) := by rw [hx]; exact ix3 121
  refine ⟨by rw [e9]; exact vp_in_nI (by omega) (by omega), ?_⟩
  rw [e9, nI_clamp (by omega)]
  unfold rowM at hp
  rw [nI_clamp (by omega)] at hp
  rw [show 121 * e + 1 + 3 * j + i = wD 1 * e + (1 + 3 * j + i) from by show _ = 121 * e + (1 + 3 * j + i); omega]
  exact hp
abbrev NT : Type := Int32 → (Nat → Int32) → (Nat → Int32) → (Nat → Int32) → (Nat → Int32) → (Nat → Int32) → Int32 → Int32 → Int32 → Prop
/-- a post of a state -/
def nP (post : NT) (r : Int32) (S : Nat → Nat → Int32) : Prop := post r (S 0) (S 1) (S 2) (S 3) (S 4) (S 5 0) (S 5 1) (S 5 2)
def bI (b : Bool) : Int32 := if b = true then 1 else 0
/-- deed j of an evening's row -/
def actR (td ev : Nat → Int32) (j : Nat) (at_ kn cl sn lv : Nat → Int32) (be mi av : Int32) : Bool × (Nat → Nat → Int32) := act td (ev (1 + 3 * j)) (ev (2 + 3 * j)) (ev (3 + 3 * j)) at_ kn cl sn lv be mi av
end
section
theorem de_ne {a b : Nat} (h : ¬ b = a) : decide (a = b) = false := decide_eq_false (fun h2 => h h2.symm)
theorem eve_iv {M : Nat → Nat → Int32} {e j : Nat} (hE : mEve (M 6)) (he : e < 2) (hj : j < 40) : iv 0 5 (rowM M 1 (nI e) (1 + 3 * j)) ∧ iv 0 5 (rowM M 1 (nI e) (2 + 3 * j)) ∧ iv (-1) 8 (rowM M 1 (nI e) (3 + 3 * j)) := by
  have g := (hE e (by omega)).2 j hj
  have w : ∀ i, rowM M 1 (nI e) i = M 6 (121 * e + i) := by
    intro i
    unfold rowM
    rw [nI_clamp (by omega)]
    rfl
  rw [w, w, w]
  rw [show 121 * e + (1 + 3 * j) = 121 * e + 1 + 3 * j by omega, show 121 * e + (2 + 3 * j) = 121 * e + 1 + 3 * j + 1 by omega, show 121 * e + (3 + 3 * j) = 121 * e + 1 + 3 * j + 2 by omega]
  exact g
theorem iv_k5 {K : Int32} (hK : iv 0 5 K) (h : K.toInt < 0 ∨ 4 < K.toInt) : K = 5 := by
  apply Int32.toInt_inj.mp
  have := hK.1
  have := hK.2
  have e5 : (5 : Int32).toInt = 5 := rfl
  omega
theorem e_beginM {M : Nat → Nat → Int32} {at_ kn cl sn : Nat → Int32} {be mi av : Int32} {k : Nat} {post : (Nat → Int32) → (Nat → Int32) → (Nat → Int32) → (Nat → Int32) → Int32 → Int32 → Int32 → Prop} (hk : k < 2)
    (hp : ∀ at1 kn1 cl1 sn1, (∀ j, j < 6 → at1 j = tdM M k (25 + j) ∧ kn1 j = tdM M k (37 + j) ∧ cl1 j = 0) → (∀ j, j < 9 → sn1 j = 0) → post at1 kn1 cl1 sn1 0 0 0) : q_m_begin_0 (M 5) (nI k) at_ kn cl sn be mi av post := by
  intro P hP
  have loop : ∀ m i (at1 kn1 cl1 : Nat → Int32), m = 6 - i → i ≤ 6 → (∀ j, j < i → at1 j = tdM M k (25 + j) ∧ kn1 j = tdM M k (37 + j) ∧ cl1 j = 0) → P (nI i) at1 kn1 cl1 := by
    intro m
    induction m using Nat.strongRecOn with
    | ind m ih =>
      intro i at1 kn1 cl1 hm hi hI
      apply hP
      refine pk_le 6 i (fun h6 => ?_) (fun h6 => ?_)
      · have e6 : i = 6 := by omega
        subst e6
        intro P2 hP2
        have loop2 : ∀ m i (sn1 : Nat → Int32), m = 9 - i → i ≤ 9 → (∀ j, j < i → sn1 j = 0) → P2 (nI i) sn1 := by
          intro m
          induction m using Nat.strongRecOn with
          | ind m ih2 =>
            intro i sn1 hm hi hS
            apply hP2
            refine pk_le 9 i (fun h9 => ?_) (fun h9 => ⟨vp_in_nI h9 (by omega), fun sn2 e1 v e2 => ?_⟩)
            · exact hp at1 kn1 cl1 sn1 hI (fun j hj => hS j (by omega))
            · rw [e2, nI_1]
              refine ih2 (9 - (i + 1)) (by omega) (i + 1) sn2 rfl (by omega) (fun j hj => ?_)
              rw [e1, nI_clamp (by omega)]
              by_cases hji : j = i
              · rw [hji, up_s]
              · rw [up_n hji]; exact hS j (by omega)
        exact loop2 _ 0 sn rfl (by omega) (fun j hj => absurd hj (by omega))
      · have hin : vp_in (nI i) 6 := vp_in_nI h6 (by omega)
        refine e_of (i := 25 + i) hk (by omega) (jx 25 i) ⟨hin, fun at2 e1 => ?_⟩
        refine e_of (i := 37 + i) hk (by omega) (jx 37 i) ⟨hin, fun kn2 e2 => ⟨hin, fun cl2 e3 v e4 => ?_⟩⟩
        rw [nI_clamp (by omega)] at e1 e2 e3
        rw [e4, nI_1]
        refine ih (6 - (i + 1)) (by omega) (i + 1) at2 kn2 cl2 rfl (by omega) (fun j hj => ?_)
        by_cases hji : j = i
        · subst hji
          rw [e1, e2, e3, up_s, up_s, up_s]
          exact ⟨rfl, rfl, rfl⟩
        · rw [e1, e2, e3, up_n hji, up_n hji, up_n hji]
          exact hI j (by omega)
  exact loop _ 0 at_ kn cl rfl (by omega) (fun j hj => absurd hj (by omega))
theorem e_doesM {M : Nat → Nat → Int32} {k e j : Nat} {at_ kn cl sn lv : Nat → Int32} {be mi av : Int32} {post : NT} (hk : k < 2) (he : e < 2) (hj : j < 40) (hL : mLand (M 5)) (hE : mEve (M 6)) (ha : ∀ j, j < 6 → iv 0 8 (at_ j)) (hkn : ∀ j, j < 6 → iv 0 31 (kn j))
    (hp : nP post (bI (actR (tdM M k) (rowM M 1 (nI e)) j at_ kn cl sn lv be mi av).1) (actR (tdM M k) (rowM M 1 (nI e)) j at_ kn cl sn lv be mi av).2) : q_m_does_0 (M 5) (M 6) (nI k) (tdM M k 0) (tdM M k 1) (nI e) at_ kn cl sn lv be mi av (nI j) post := by
  have hs1 : iv 0 6 (tdM M k 1) := row_iv hL hk (by omega)
  obtain ⟨hK, hS, hX⟩ := eve_iv hE he hj
  unfold actR at hp
  generalize eK : rowM M 1 (nI e) (1 + 3 * j) = K at hp hK
  generalize eS : rowM M 1 (nI e) (2 + 3 * j) = s at hp hS
  generalize eX : rowM M 1 (nI e) (3 + 3 * j) = x at hp hX
  have dK : ∀ {post : Int32 → Prop}, post K → q_m_deedOf_0 (M 6) (nI e) (nI j) 0 post := fun h => e_deedOfM he hj (i := 0) (by omega) rfl (by rw [Nat.add_zero, eK]; exact h)
  have dS : ∀ {post : Int32 → Prop}, post s → q_m_deedOf_0 (M 6) (nI e) (nI j) 1 post := fun h => e_deedOfM he hj (i := 1) (by omega) rfl (by rw [show 1 + 3 * j + 1 = 2 + 3 * j by omega, eS]; exact h)
  have dX : ∀ {post : Int32 → Prop}, post x → q_m_deedOf_0 (M 6) (nI e) (nI j) 2 post := fun h => e_deedOfM he hj (i := 2) (by omega) rfl (by rw [show 1 + 3 * j + 2 = 3 + 3 * j by omega, eX]; exact h)
  clear eS eX
  refine dS (dX ?_)
  unfold q_m_isSinger_0
  unfold act at hp
  refine sp_in (fun hn => ⟨rfl, zi ?_⟩) (fun g1 g2 => ⟨rfl, io ?_⟩)
  · rw [if_pos (fun h9 => hn ((in_lt (iv_w hs1 (by decide))).mpr h9))] at hp
    exact hp
  · have hlt := (in_lt (iv_w hs1 (by decide))).mp ⟨g1, g2⟩
    rw [if_neg (fun h9 => h9 hlt)] at hp
    obtain ⟨s', hs', es⟩ := lt_nI (m := 6) hs1 hlt
    subst es
    rw [cN_nI (by omega)] at hp
    have hin : vp_in (nI s') 6 := vp_in_nI hs' (by omega)
    refine dK ⟨fun hd => ?_, fun h0 => ?_, fun h1 => ?_, fun h2 => ?_, fun h3 => ?_, fun h4 => ?_⟩
    · have h5 : K = 5 := iv_k5 hK hd
      subst h5
      rw [if_neg (by decide), if_neg (by decide), if_neg (by decide), if_neg (by decide)] at hp
      refine ⟨hin, ?_⟩
      rw [nI_clamp (by omega)]
      refine ⟨fun hne => ⟨hin, fun c2 e2 => ?_⟩, fun he0 => ?_⟩
      · rw [if_pos hne] at hp
        rw [e2]
        exact hp
      · rw [if_neg (fun h9 => h9 he0)] at hp
        exact hp
    · subst h0
      rw [if_pos rfl] at hp
      refine e_mayBeginM hk hs' (ha s' hs') (hkn s' hs') hX (fun hf => zi ?_) (fun ht => io ?_)
      · rw [if_neg (by rw [hf]; decide)] at hp
        exact hp
      · rw [if_pos ht] at hp
        obtain ⟨t, ht5, ex⟩ := mayR_x ht
        subst ex
        rw [cN_nI (by omega)] at hp
        exact e_soundsM hk hs' ht5 hL ha hp
    · subst h1
      rw [if_neg (by decide), if_pos (Or.inl rfl)] at hp
      refine e_maySingM hk hs' (ha s' hs') (hkn s' hs') hX (fun hf => zi ?_) (fun ht => io ?_)
      · rw [if_neg (by rw [hf]; decide)] at hp
        exact hp
      · rw [if_pos ht] at hp
        obtain ⟨t, ht5, ex⟩ := mayR_x ht
        subst ex
        rw [cN_nI (by omega)] at hp
        refine dK ⟨fun _ => ?_, fun h9 => absurd h9 (by decide)⟩
        exact e_singsM (w := false) hk hs' ht5 hL ha rfl (fun g eg => by rw [eg]; exact hp)
    · subst h2
      rw [if_neg (by decide), if_pos (Or.inr rfl)] at hp
      refine e_maySingM hk hs' (ha s' hs') (hkn s' hs') hX (fun hf => zi ?_) (fun ht => io ?_)
      · rw [if_neg (by rw [hf]; decide)] at hp
        exact hp
      · rw [if_pos ht] at hp
        obtain ⟨t, ht5, ex⟩ := mayR_x ht
        subst ex
        rw [cN_nI (by omega)] at hp
        refine dK ⟨fun h9 => absurd rfl h9, fun _ => ?_⟩
        exact e_singsM (w := true) hk hs' ht5 hL ha rfl (fun g eg => by rw [eg]; exact hp)
    · subst h3
      rw [if_neg (by decide), if_neg (by decide), if_pos rfl] at hp
      refine e_walksM hk hs' hL (ha s' hs') (fun hf => ⟨rfl, ?_⟩) (fun ht => ⟨rfl, ?_⟩)
      · rw [if_neg (by rw [hf]; decide)] at hp
        exact hp
      · rw [if_pos ht] at hp
        exact hp
    · subst h4
      rw [if_neg (by decide), if_neg (by decide), if_neg (by decide), if_pos rfl] at hp
      obtain ⟨a, ea, -, ha8, -⟩ := iv_nI (ha s' hs') (by decide)
      rw [ea, cN_nI (by omega)] at hp
      refine ⟨hin, ?_⟩
      rw [nI_clamp (by omega), ea]
      refine e_of (i := 16 + a) hk (by omega) (jx 16 a) ⟨fun hz => ?_, fun hz => ⟨hin, fun hc => ⟨hin, fun c2 e2 => ?_⟩, fun hc => ?_⟩⟩
      · rw [if_neg (fun h9 => h9.1 hz)] at hp
        exact hp
      · rw [if_pos ⟨hz, hc⟩] at hp
        rw [e2]
        exact hp
      · rw [if_neg (fun h9 => h9.2 hc)] at hp
        exact hp
/-- a state, packed -/
def actS (td : Nat → Int32) (k s x : Int32) (S : Nat → Nat → Int32) : Bool × (Nat → Nat → Int32) := act td k s x (S 0) (S 1) (S 2) (S 3) (S 4) (S 5 0) (S 5 1) (S 5 2)
/-- a land's row, as told -/
def RNG (td : Nat → Int32) : Prop := ∀ j, j < 132 → iv 0 (mRh j) (td j)
def LOK (td : Nat → Int32) : Prop := (∀ s : Nat, s < 6 → nI s < td 1 → td (25 + s) < td 0) ∧ (∀ k : Nat, k < 4 → nI k < td 4 → td (43 + 2 * k) < td 0 ∧ td (44 + 2 * k) < td 0) ∧ ∀ h : Nat, h < 32 → hb (td 2) h = true → nI h < td 0
/-- a state's ranges -/
def NOK (td : Nat → Int32) (S : Nat → Nat → Int32) : Prop := (∀ j, j < 6 → iv 0 8 (S 0 j)) ∧ (∀ j, j < 6 → iv 0 31 (S 1 j)) ∧ (∀ j, j < 6 → S 2 j = 0 ∨ S 2 j = 1) ∧ iv 0 31 (S 5 0) ∧ (∀ j, j < 6 → nI j < td 1 → S 0 j < td 0) ∧ (∀ t, t < 5 → iv (-9) 108 (S 4 t)) ∧ (∀ t, t < 5 → hb (S 5 0) t = false → S 4 t = -1)
/-- two states are alike in what they show -/
def AGs (S' S : Nat → Nat → Int32) : Prop := (∀ j, j < 6 → S' 0 j = S 0 j ∧ S' 1 j = S 1 j ∧ S' 2 j = S 2 j) ∧ (∀ j, j < 9 → S' 3 j = S 3 j) ∧ (∀ t, t < 5 → hb (S 5 0) t = true → S' 4 t = S 4 t) ∧ S' 5 0 = S 5 0 ∧ S' 5 1 = S 5 1 ∧ S' 5 2 = S 5 2
theorem bit5 : ∀ t, t < 5 → iv 0 31 (bitI t) := by
  intro t ht
  have : t = 0 ∨ t = 1 ∨ t = 2 ∨ t = 3 ∨ t = 4 := by omega
  rcases this with rfl | rfl | rfl | rfl | rfl <;> exact iv_lit (by decide)
theorem hgh_iv {td : Nat → Int32} {at_ cl : Nat → Int32} {s : Nat} (hR : RNG td) (hs : s < 6) (ha : iv 0 8 (at_ s)) (hc : cl s = 0 ∨ cl s = 1) : iv (-9) 108 (hgh td at_ cl s) := by
  obtain ⟨a, ea, -, ha8, -⟩ := iv_nI ha (by decide)
  unfold hgh
  rw [ea, cN_nI (by omega)]
  have r1 : iv 0 99 (td (7 + a)) := iv_w (hR (7 + a) (by omega)) (by
    have h2 : a = 0 ∨ a = 1 ∨ a = 2 ∨ a = 3 ∨ a = 4 ∨ a = 5 ∨ a = 6 ∨ a = 7 ∨ a = 8 := by omega
    rcases h2 with rfl | rfl | rfl | rfl | rfl | rfl | rfl | rfl | rfl <;> decide)
  have r2 : iv 0 9 (td (31 + s)) := iv_w (hR (31 + s) (by omega)) (by
    have h2 : s = 0 ∨ s = 1 ∨ s = 2 ∨ s = 3 ∨ s = 4 ∨ s = 5 := by omega
    rcases h2 with rfl | rfl | rfl | rfl | rfl | rfl <;> decide)
  have r3 : iv 0 9 (td (16 + a)) := iv_w (hR (16 + a) (by omega)) (by
    have h2 : a = 0 ∨ a = 1 ∨ a = 2 ∨ a = 3 ∨ a = 4 ∨ a = 5 ∨ a = 6 ∨ a = 7 ∨ a = 8 := by omega
    rcases h2 with rfl | rfl | rfl | rfl | rfl | rfl | rfl | rfl | rfl <;> decide)
  have r4 : iv 0 9 (cl s * td (16 + a)) := by
    rcases hc with e | e
    · rw [e, Int32.zero_mul]; exact iv_lit (by decide)
    · rw [e, Int32.one_mul]; exact r3
  exact iv_add (l := -9) (h := 108) (iv_sub (l := -9) (h := 99) r1 r2 (by decide)) r4 (by decide)
end
section
theorem hb_bitI {i k : Nat} (hi : i < 31) (hk : k < 31) : hb (bitI i) k = decide (i = k) := hb_bit hi hk
theorem NOK_snd {td : Nat → Int32} {S : Nat → Nat → Int32} {s t : Nat} {sn : Nat → Int32} {mi av : Int32} (hR : RNG td) (h : NOK td S) (hs : s < 6) (ht : t < 5) : NOK td (smk (S 0) (knS td (S 0) (S 1) s t) (S 2) sn (upd (S 4) t (hgh td (S 0) (S 2) s)) (S 5 0 ||| bitI t) mi av) := by
  refine ⟨h.1, fun j hj => ?_, h.2.2.1, ?_, h.2.2.2.2.1, fun t' ht' => ?_, fun t' ht' hf => ?_⟩
  · show iv 0 31 (knS td (S 0) (S 1) s t j)
    unfold knS
    split
    · exact iv_or 5 (h.2.1 j hj) (bit5 t ht) (by decide)
    · exact h.2.1 j hj
  · show iv 0 31 (S 5 0 ||| bitI t)
    exact iv_or 5 h.2.2.2.1 (bit5 t ht) (by decide)
  · show iv (-9) 108 (upd (S 4) t (hgh td (S 0) (S 2) s) t')
    by_cases e : t' = t
    · rw [e, up_s]
      exact hgh_iv hR hs (h.1 s hs) (h.2.2.1 s hs)
    · rw [up_n e]
      exact h.2.2.2.2.2.1 t' ht'
  · show upd (S 4) t (hgh td (S 0) (S 2) s) t' = -1
    have hf' : hb (S 5 0 ||| bitI t) t' = false := hf
    rw [hb_or, Bool.or_eq_false_iff, hb_bitI (by omega) (by omega)] at hf'
    have e : ¬ t' = t := fun e => by
      rw [e] at hf'
      simp at hf'
    rw [up_n e]
    exact h.2.2.2.2.2.2 t' ht' hf'.1
theorem act_ok {td : Nat → Int32} {S : Nat → Nat → Int32} {k s x : Int32} (hR : RNG td) (h : NOK td S) : NOK td (actS td k s x S).2 := by
  have base : NOK td (smk (S 0) (S 1) (S 2) (S 3) (S 4) (S 5 0) (S 5 1) (S 5 2)) := h
  have h1 : iv 0 6 (td 1) := hR 1 (by omega)
  have h0 : iv 0 9 (td 0) := hR 0 (by omega)
  unfold actS act
  by_cases hs : ¬ (0 ≤ s ∧ s < td 1)
  · rw [if_pos hs]; exact base
  rw [if_neg hs]
  obtain ⟨s', hs', es⟩ := lt_nI (m := 6) h1 (Decidable.not_not.mp hs)
  subst es
  rw [cN_nI (by omega)]
  by_cases k0 : k = 0
  · rw [if_pos k0]
    by_cases hm : mayR td (S 0) (S 1) (S 5 0) s' x false = true
    · rw [if_pos hm]
      obtain ⟨t, ht5, ex⟩ := mayR_x hm
      subst ex
      rw [cN_nI (by omega)]
      exact NOK_snd hR h hs' ht5
    · rw [if_neg hm]; exact base
  rw [if_neg k0]
  by_cases k1 : k = 1 ∨ k = 2
  · rw [if_pos k1]
    by_cases hm : mayR td (S 0) (S 1) (S 5 0) s' x true = true
    · rw [if_pos hm]
      obtain ⟨t, ht5, ex⟩ := mayR_x hm
      subst ex
      rw [cN_nI (by omega)]
      exact NOK_snd hR h hs' ht5
    · rw [if_neg hm]; exact base
  rw [if_neg k1]
  by_cases k3 : k = 3
  · rw [if_pos k3]
    by_cases hm : mayW td (S 0) (S 2) (S 3) s' x = true
    · rw [if_pos hm]
      unfold mayW at hm
      simp only [Bool.and_eq_true, decide_eq_true_eq] at hm
      have hx := hm.1.1.1.1
      obtain ⟨y, hy, ex⟩ := lt_nI (m := 9) h0 hx
      refine ⟨fun j hj => ?_, h.2.1, h.2.2.1, h.2.2.2.1, fun j hj hl => ?_, h.2.2.2.2.2⟩
      · show iv 0 8 (upd (S 0) s' x j)
        by_cases e : j = s'
        · rw [e, up_s, ex]; exact iv_ofN (by omega) (by omega) (by omega)
        · rw [up_n e]; exact h.1 j hj
      · show upd (S 0) s' x j < td 0
        by_cases e : j = s'
        · rw [e, up_s]; exact hx.2
        · rw [up_n e]; exact h.2.2.2.2.1 j hj hl
    · rw [if_neg hm]; exact base
  rw [if_neg k3]
  have cl : ∀ v : Int32, v = 0 ∨ v = 1 → NOK td (smk (S 0) (S 1) (upd (S 2) s' v) (S 3) (S 4) (S 5 0) (S 5 1) (S 5 2)) := by
    intro v hv
    refine ⟨h.1, h.2.1, fun j hj => ?_, h.2.2.2⟩
    show upd (S 2) s' v j = 0 ∨ upd (S 2) s' v j = 1
    by_cases e : j = s'
    · rw [e, up_s]; exact hv
    · rw [up_n e]; exact h.2.2.1 j hj
  by_cases k4 : k = 4
  · rw [if_pos k4]
    split
    · exact cl 1 (Or.inr rfl)
    · exact base
  rw [if_neg k4]
  split
  · exact cl 0 (Or.inl rfl)
  · exact base
theorem hgh_ag {td : Nat → Int32} {S' S : Nat → Nat → Int32} {s : Nat} (H : AGs S' S) (hs : s < 6) : hgh td (S' 0) (S' 2) s = hgh td (S 0) (S 2) s := by
  unfold hgh
  rw [(H.1 s hs).1, (H.1 s hs).2.2]
theorem mayR_ag {td : Nat → Int32} {S' S : Nat → Nat → Int32} {s : Nat} {x : Int32} {b : Bool} (H : AGs S' S) (hs : s < 6) : mayR td (S' 0) (S' 1) (S' 5 0) s x b = mayR td (S 0) (S 1) (S 5 0) s x b := by
  unfold mayR
  rw [(H.1 s hs).1, (H.1 s hs).2.1, H.2.2.2.1]
theorem knS_ag {td : Nat → Int32} {S' S : Nat → Nat → Int32} {s t : Nat} (H : AGs S' S) (hs : s < 6) (j : Nat) (hj : j < 6) : knS td (S' 0) (S' 1) s t j = knS td (S 0) (S 1) s t j := by
  unfold knS
  rw [(H.1 s hs).1, (H.1 j hj).1, (H.1 j hj).2.1]
theorem mayR_b {td at_ kn : Nat → Int32} {be : Int32} {s t : Nat} {b : Bool} (ht : t < 5) (h : mayR td at_ kn be s (nI t) b = true) : hb be t = b := by
  unfold mayR at h
  simp only [Bool.and_eq_true, decide_eq_true_eq, beq_iff_eq] at h
  rw [← cN_nI (n := t) (by omega)]
  exact h.1.2
theorem AG_snd {td : Nat → Int32} {S' S : Nat → Nat → Int32} {s t : Nat} {sn' sn : Nat → Int32} {av' av : Int32} (H : AGs S' S) (hs : s < 6) (ht : t < 5) (hsn : ∀ j, j < 9 → sn' j = sn j) (hav : av' = av) : AGs (smk (S' 0) (knS td (S' 0) (S' 1) s t) (S' 2) sn' (upd (S' 4) t (hgh td (S' 0) (S' 2) s)) (S' 5 0 ||| bitI t) (S' 5 1) av') (smk (S 0) (knS td (S 0) (S 1) s t) (S 2) sn (upd (S 4) t (hgh td (S 0) (S 2) s)) (S 5 0 ||| bitI t) (S 5 1) av) := by
  refine ⟨fun j hj => ⟨(H.1 j hj).1, knS_ag H hs j hj, (H.1 j hj).2.2⟩, hsn, fun t' ht' hb' => ?_, ?_, H.2.2.2.2.1, hav⟩
  · show upd (S' 4) t (hgh td (S' 0) (S' 2) s) t' = upd (S 4) t (hgh td (S 0) (S 2) s) t'
    by_cases e : t' = t
    · rw [e, up_s, up_s, hgh_ag H hs]
    · rw [up_n e, up_n e]
      have h2 : hb (S 5 0 ||| bitI t) t' = true := hb'
      rw [hb_or, hb_bitI (by omega) (by omega), de_ne e, Bool.or_false] at h2
      exact H.2.2.1 t' ht' h2
  · show S' 5 0 ||| bitI t = S 5 0 ||| bitI t
    rw [H.2.2.2.1]
theorem mayW_ag {td : Nat → Int32} {S' S : Nat → Nat → Int32} {s : Nat} {x : Int32} (hR : RNG td) (hN : NOK td S) (H : AGs S' S) (hs : s < 6) : mayW td (S' 0) (S' 2) (S' 3) s x = mayW td (S 0) (S 2) (S 3) s x := by
  unfold mayW
  by_cases hx : 0 ≤ x ∧ x < td 0
  · obtain ⟨y, hy, ex⟩ := lt_nI (m := 9) (hR 0 (by omega)) hx
    obtain ⟨a, ea, -, ha8, -⟩ := iv_nI (hN.1 s hs) (by decide)
    rw [(H.1 s hs).1, (H.1 s hs).2.2, ea, ex, cN_nI (by omega), cN_nI (by omega), H.2.1 a (by omega), H.2.1 y hy]
  · rw [decide_eq_false hx]
    simp only [Bool.false_and]
theorem actS_ag {td : Nat → Int32} {S' S : Nat → Nat → Int32} {k s x : Int32} (hR : RNG td) (hN : NOK td S) (H : AGs S' S) : (actS td k s x S').1 = (actS td k s x S).1 ∧ AGs (actS td k s x S').2 (actS td k s x S).2 := by
  have base : AGs (smk (S' 0) (S' 1) (S' 2) (S' 3) (S' 4) (S' 5 0) (S' 5 1) (S' 5 2)) (smk (S 0) (S 1) (S 2) (S 3) (S 4) (S 5 0) (S 5 1) (S 5 2)) := H
  have h1 : iv 0 6 (td 1) := hR 1 (by omega)
  unfold actS act
  by_cases hs : ¬ (0 ≤ s ∧ s < td 1)
  · rw [if_pos hs, if_pos hs]; exact ⟨rfl, base⟩
  rw [if_neg hs, if_neg hs]
  obtain ⟨s', hs', es⟩ := lt_nI (m := 6) h1 (Decidable.not_not.mp hs)
  subst es
  rw [cN_nI (by omega)]
  by_cases k0 : k = 0
  · rw [if_pos k0, if_pos k0, mayR_ag H hs']
    by_cases hm : mayR td (S 0) (S 1) (S 5 0) s' x false = true
    · rw [if_pos hm, if_pos hm]
      obtain ⟨t, ht5, ex⟩ := mayR_x hm
      subst ex
      rw [cN_nI (by omega)]
      exact ⟨rfl, AG_snd H hs' ht5 H.2.1 H.2.2.2.2.2⟩
    · rw [if_neg hm, if_neg hm]; exact ⟨rfl, base⟩
  rw [if_neg k0, if_neg k0]
  by_cases k1 : k = 1 ∨ k = 2
  · rw [if_pos k1, if_pos k1, mayR_ag H hs']
    by_cases hm : mayR td (S 0) (S 1) (S 5 0) s' x true = true
    · rw [if_pos hm, if_pos hm]
      obtain ⟨t, ht5, ex⟩ := mayR_x hm
      subst ex
      rw [cN_nI (by omega)]
      obtain ⟨a, ea, -, ha8, -⟩ := iv_nI (hN.1 s' hs') (by decide)
      have hbt : hb (S 5 0) t = true := mayR_b ht5 hm
      have ew : ∀ w, wrongR td (S' 0) (S' 2) (S' 4) s' t w = wrongR td (S 0) (S 2) (S 4) s' t w := by
        intro w
        unfold wrongR
        rw [hgh_ag H hs', H.2.2.1 t ht5 hbt]
      unfold rais
      rw [ew]
      refine ⟨rfl, AG_snd H hs' ht5 (fun j hj => ?_) (by rw [H.2.2.2.2.2])⟩
      rw [(H.1 s' hs').1, ea, cN_nI (by omega), H.2.1 a (by omega)]
      by_cases e : j = a
      · rw [e, up_s, up_s]
      · rw [up_n e, up_n e]; exact H.2.1 j hj
    · rw [if_neg hm, if_neg hm]; exact ⟨rfl, base⟩
  rw [if_neg k1, if_neg k1]
  by_cases k3 : k = 3
  · rw [if_pos k3, if_pos k3, mayW_ag hR hN H hs']
    by_cases hm : mayW td (S 0) (S 2) (S 3) s' x = true
    · rw [if_pos hm, if_pos hm]
      refine ⟨rfl, fun j hj => ⟨?_, (H.1 j hj).2⟩, H.2.1, H.2.2.1, H.2.2.2.1, ?_, H.2.2.2.2.2⟩
      · show upd (S' 0) s' x j = upd (S 0) s' x j
        by_cases e : j = s'
        · rw [e, up_s, up_s]
        · rw [up_n e, up_n e]; exact (H.1 j hj).1
      · show S' 5 1 + _ = S 5 1 + _
        rw [(H.1 s' hs').1, H.2.2.2.2.1]
    · rw [if_neg hm, if_neg hm]; exact ⟨rfl, base⟩
  rw [if_neg k3, if_neg k3]
  have cl : ∀ v : Int32, AGs (smk (S' 0) (S' 1) (upd (S' 2) s' v) (S' 3) (S' 4) (S' 5 0) (S' 5 1) (S' 5 2)) (smk (S 0) (S 1) (upd (S 2) s' v) (S 3) (S 4) (S 5 0) (S 5 1) (S 5 2)) := by
    intro v
    refine ⟨fun j hj => ⟨(H.1 j hj).1, (H.1 j hj).2.1, ?_⟩, H.2⟩
    show upd (S' 2) s' v j = upd (S 2) s' v j
    by_cases e : j = s'
    · rw [e, up_s, up_s]
    · rw [up_n e, up_n e]; exact (H.1 j hj).2.2
  rw [(H.1 s' hs').1, (H.1 s' hs').2.2]
  by_cases k4 : k = 4
  · rw [if_pos k4, if_pos k4]
    split
    · exact ⟨rfl, cl 1⟩
    · exact ⟨rfl, base⟩
  rw [if_neg k4, if_neg k4]
  split
  · exact ⟨rfl, cl 0⟩
  · exact ⟨rfl, base⟩
/-- an evening from its deed j on, at most m deeds: how many there are, the state behind them -/
def plays (td ev : Nat → Int32) : Nat → Nat → (Nat → Nat → Int32) → Nat × (Nat → Nat → Int32)
  | 0, j, S => (j, S)
  | m + 1, j, S => if (actS td (ev (1 + 3 * j)) (ev (2 + 3 * j)) (ev (3 + 3 * j)) S).1 = true then plays td ev m (j + 1) (actS td (ev (1 + 3 * j)) (ev (2 + 3 * j)) (ev (3 + 3 * j)) S).2 else (j, (actS td (ev (1 + 3 * j)) (ev (2 + 3 * j)) (ev (3 + 3 * j)) S).2)
def S0 (td : Nat → Int32) : Nat → Nat → Int32 := smk (fun j => td (25 + j)) (fun j => td (37 + j)) (fun _ => 0) (fun _ => 0) (fun _ => -1) 0 0 0
theorem S0_ok {td : Nat → Int32} (hR : RNG td) (hL : LOK td) : NOK td (S0 td) := by
  refine ⟨fun j hj => ?_, fun j hj => ?_, fun j hj => Or.inl rfl, iv_lit (l := 0) (h := 31) (x := 0) (by decide), fun j hj hl => hL.1 j hj hl, fun t ht => iv_lit (l := -9) (h := 108) (x := -1) (by decide), fun t ht _ => rfl⟩
  · refine iv_w (hR (25 + j) (by omega)) ?_
    have h2 : j = 0 ∨ j = 1 ∨ j = 2 ∨ j = 3 ∨ j = 4 ∨ j = 5 := by omega
    rcases h2 with rfl | rfl | rfl | rfl | rfl | rfl <;> decide
  · refine iv_w (hR (37 + j) (by omega)) ?_
    have h2 : j = 0 ∨ j = 1 ∨ j = 2 ∨ j = 3 ∨ j = 4 ∨ j = 5 := by omega
    rcases h2 with rfl | rfl | rfl | rfl | rfl | rfl <;> decide
theorem plays_ok {td ev : Nat → Int32} (hR : RNG td) : ∀ m j S, NOK td S → NOK td (plays td ev m j S).2 := by
  intro m
  induction m with
  | zero => intro j S h; exact h
  | succ m ih =>
    intro j S h
    unfold plays
    split
    · exact ih _ _ (act_ok hR h)
    · exact act_ok hR h
theorem plays_le {td ev : Nat → Int32} : ∀ m j S, j ≤ (plays td ev m j S).1 ∧ (plays td ev m j S).1 ≤ j + m := by
  intro m
  induction m with
  | zero => intro j S; exact ⟨Nat.le_refl _, Nat.le_refl _⟩
  | succ m ih =>
    intro j S
    unfold plays
    split
    · have := ih (j + 1) (actS td (ev (1 + 3 * j)) (ev (2 + 3 * j)) (ev (3 + 3 * j)) S).2
      omega
    · exact ⟨Nat.le_refl _, by show j ≤ _; omega⟩
theorem e_playM {M : Nat → Nat → Int32} {k e n : Nat} {at_ kn cl sn lv : Nat → Int32} {be mi av : Int32} {post : NT} (hk : k < 2) (he : e < 2) (hn : n ≤ 40) (hL : mLand (M 5)) (hE : mEve (M 6)) (hO : LOK (tdM M k))
    (hp : ∀ S', AGs S' (plays (tdM M k) (rowM M 1 (nI e)) n 0 (S0 (tdM M k))).2 → nP post (nI (plays (tdM M k) (rowM M 1 (nI e)) n 0 (S0 (tdM M k))).1) S') : q_m_play_0 (M 5) (M 6) (nI k) (tdM M k 0) (tdM M k 1) (nI e) at_ kn cl sn lv be mi av (nI n) post := by
  have hR : RNG (tdM M k) := fun j hj => row_iv hL hk hj
  refine e_beginM hk (fun at1 kn1 cl1 sn1 hI hS => ?_)
  intro P hP
  have loop : ∀ m j (S' S : Nat → Nat → Int32), m = n - j → j ≤ n → NOK (tdM M k) S → AGs S' S → (∀ S2, AGs S2 (plays (tdM M k) (rowM M 1 (nI e)) m j S).2 → nP post (nI (plays (tdM M k) (rowM M 1 (nI e)) m j S).1) S2) → P (nI j) (S' 0) (S' 1) (S' 2) (S' 3) (S' 4) (S' 5 0) (S' 5 1) (S' 5 2) := by
    intro m
    induction m with
    | zero =>
      intro j S' S hm hj hN hA hq
      apply hP
      have e1 : j = n := by omega
      subst e1
      exact pk_le j j (fun _ => hq S' hA) (fun h9 => absurd h9 (by omega))
    | succ m ih =>
      intro j S' S hm hj hN hA hq
      apply hP
      refine pk_le n j (fun h9 => absurd h9 (by omega)) (fun h9 => ?_)
      have g := actS_ag (k := rowM M 1 (nI e) (1 + 3 * j)) (s := rowM M 1 (nI e) (2 + 3 * j)) (x := rowM M 1 (nI e) (3 + 3 * j)) hR hN hA
      have ok := act_ok (k := rowM M 1 (nI e) (1 + 3 * j)) (s := rowM M 1 (nI e) (2 + 3 * j)) (x := rowM M 1 (nI e) (3 + 3 * j)) hR hN
      refine e_doesM hk he (by omega) hL hE (fun i hi => by rw [(hA.1 i hi).1]; exact hN.1 i hi) (fun i hi => by rw [(hA.1 i hi).2.1]; exact hN.2.1 i hi) ?_
      unfold plays at hq
      show nP _ (bI (actS (tdM M k) (rowM M 1 (nI e) (1 + 3 * j)) (rowM M 1 (nI e) (2 + 3 * j)) (rowM M 1 (nI e) (3 + 3 * j)) S').1) (actS (tdM M k) (rowM M 1 (nI e) (1 + 3 * j)) (rowM M 1 (nI e) (2 + 3 * j)) (rowM M 1 (nI e) (3 + 3 * j)) S').2
      rw [g.1]
      by_cases hb1 : (actS (tdM M k) (rowM M 1 (nI e) (1 + 3 * j)) (rowM M 1 (nI e) (2 + 3 * j)) (rowM M 1 (nI e) (3 + 3 * j)) S).1 = true
      · rw [hb1]
        rw [if_pos hb1] at hq
        refine ⟨fun h8 => absurd h8 (by decide), fun _ v ev => ?_⟩
        rw [ev, nI_1]
        exact ih (j + 1) _ _ (by omega) (by omega) ok g.2 hq
      · rw [Bool.not_eq_true] at hb1
        rw [hb1]
        rw [if_neg (by rw [hb1]; decide)] at hq
        exact ⟨fun _ => hq _ g.2, fun h8 => absurd rfl h8⟩
  refine loop n 0 (smk at1 kn1 cl1 sn1 lv 0 0 0) (S0 (tdM M k)) (by omega) (by omega) (S0_ok hR hO) ?_ hp
  exact ⟨hI, hS, fun t ht h9 => absurd (show hb 0 t = true from h9) (by rw [hb_0]; decide), rfl, rfl, rfl⟩
end
section
/-- the class's night is as a state -/
def XG (td : Nat → Int32) (S : Nat → Nat → Int32) (mi av be cl : Int32) (hu kn lv sn : Nat → Int32) : Prop := (∀ j, j < 6 → hb cl j = decide (S 2 j = 1)) ∧ (∀ j, j < 6 → nI j < td 1 → hu j = S 0 j) ∧ (∀ j, j < 6 → kn j = S 1 j) ∧ (∀ t, t < 5 → lv t = S 4 t) ∧ (∀ j, j < 9 → sn j = S 3 j) ∧ be = S 5 0 ∧ mi = S 5 1 ∧ av = S 5 2
/-- the class's land is as a row; its heights, homes, talls in their places -/
def LX (td : Nat → Int32) (huts singers dams echoes deep : Int32) (heights ladders minutes echoFrom echoTo talls : Nat → Int32) : Prop := huts = td 0 ∧ singers = td 1 ∧ dams = td 3 ∧ echoes = td 4 ∧ deep = td 5 ∧ (∀ j : Nat, j < 9 → nI j < td 0 → heights j = td (7 + j)) ∧ (∀ j, j < 9 → ladders j = td (16 + j)) ∧ (∀ j, j < 81 → minutes j = td (51 + j)) ∧ (∀ j : Nat, j < 4 → nI j < td 4 → echoFrom j = td (43 + 2 * j) ∧ echoTo j = td (44 + 2 * j)) ∧ (∀ j : Nat, j < 6 → nI j < td 1 → talls j = td (31 + j))
theorem lt_cln {j m : Nat} {x : Int32} (hx : iv 0 m x) (hm : m < 1000) (h : nI j < x) (hj : j < 1000) : j < x.toNatClampNeg := by
  obtain ⟨n, rfl, -, hn, hn2⟩ := iv_nI hx (by decide)
  rw [nI_clamp hn2]
  exact (nI_ltI (by omega) hn2).mp h
theorem LX_of {td : Nat → Int32} {huts singers villages dams echoes deep slide : Int32} {heights ladders minutes echoFrom echoTo homes talls known : Nat → Int32} (hR : RNG td) (h : LDR huts singers villages dams echoes deep slide heights ladders minutes echoFrom echoTo homes talls known td) : LX td huts singers dams echoes deep heights ladders minutes echoFrom echoTo talls := by
  obtain ⟨e0, e1, e2, e3, e4, e5, e6, f1, f2, f3, f4, f5, f6⟩ := h
  have b0 : iv 0 (9 : Nat) (td 0) := hR 0 (by omega)
  have b1 : iv 0 (6 : Nat) (td 1) := hR 1 (by omega)
  have b4 : iv 0 (4 : Nat) (td 4) := hR 4 (by omega)
  exact ⟨e0, e1, e3, e4, e5, fun j hj hl => f1 j (lt_cln b0 (by omega) hl (by omega)), f2, f3, fun j hj hl => f4 j (lt_cln b4 (by omega) hl (by omega)), fun j hj hl => (f5 j (lt_cln b1 (by omega) hl (by omega))).2⟩
section
variable {td : Nat → Int32} {S : Nat → Nat → Int32} {mi av be cl : Int32} {hu kn lv sn : Nat → Int32} {huts singers dams echoes deep : Int32} {heights ladders minutes echoFrom echoTo talls : Nat → Int32}
theorem e_highX {s : Nat} {post : Int32 → Prop} (hR : RNG td) (hN : NOK td S) (hG : XG td S mi av be cl hu kn lv sn) (hD : LX td huts singers dams echoes deep heights ladders minutes echoFrom echoTo talls) (hs : s < 6) (hl : nI s < td 1) (hp : post (hgh td (S 0) (S 2) s)) : q_wn_X3_high_6_0 cl hu heights ladders talls (nI s) post := by
  obtain ⟨a, ea, -, ha8, -⟩ := iv_nI (hN.1 s hs) (by decide)
  have hin : vp_in (nI s) 6 := vp_in_nI hs (by omega)
  have ha0 : nI a < td 0 := by rw [← ea]; exact hN.2.2.2.2.1 s hs hl
  unfold hgh at hp
  rw [ea, cN_nI (by omega)] at hp
  refine ⟨hin, fun v1 e1 => ?_⟩
  rw [nI_clamp (by omega), hG.2.1 s hs hl, ea] at e1
  subst e1
  have hin9 : vp_in (nI a) 9 := vp_in_nI (by omega) (by omega)
  refine ⟨hin9, hin, fun v2 e2 => ?_⟩
  rw [nI_clamp (by omega), nI_clamp (by omega), hD.2.2.2.2.2.1 a (by omega) ha0, hD.2.2.2.2.2.2.2.2.2 s hs hl] at e2
  subst e2
  refine e_hasX (by omega) (fun h0 => iz ?_) (fun h1 => oi ⟨hin9, ?_⟩)
  · rw [hG.1 s hs] at h0
    have hz : S 2 s = 0 := by
      rcases hN.2.2.1 s hs with h | h
      · exact h
      · rw [h] at h0; exact absurd h0 (by decide)
    rw [hz, Int32.zero_mul, Int32.add_zero] at hp
    exact hp
  · rw [hG.1 s hs] at h1
    rw [of_decide_eq_true h1, Int32.one_mul] at hp
    rw [nI_clamp (by omega), hD.2.2.2.2.2.2.1 a (by omega)]
    exact hp
theorem e_earX {h : Nat} {post : Int32 → Prop} (hR : RNG td) (hd : dams = td 3) (he : echoes = td 4) (hf : ∀ j : Nat, j < 4 → nI j < td 4 → echoFrom j = td (43 + 2 * j) ∧ echoTo j = td (44 + 2 * j)) (hh : h < 9) (hp : ∀ set, (∀ x, x < 31 → hb set x = hear td h x) → post set) : q_wl_X2_earshot_0 dams echoes echoFrom echoTo (nI h) post := by
  have h4 : iv 0 4 (td 4) := hR 4 (by omega)
  obtain ⟨c, hc, -, hc4, -⟩ := iv_nI h4 (by decide)
  have st : ∀ y : Int32, (∀ x, x < 31 → hb y x = (!dam td x && decide (x = h))) → q_wl_X2_earshot_15 dams echoes echoFrom echoTo (nI h) y post := by
    intro y hy P hP
    have loop : ∀ m j (x2 : Int32), m = c - j → j ≤ c → (∀ x, x < 31 → hb x2 x = (!dam td x && (decide (x = h) || ech td h x j))) → P x2 (nI j) := by
      intro m
      induction m using Nat.strongRecOn with
      | ind m ih =>
        intro j x2 hm hj hx
        apply hP
        rw [he, hc]
        refine pk_le c j (fun h9 => ?_) (fun h9 => ?_)
        · refine hp x2 (fun x hx9 => ?_)
          rw [hx x hx9]
          unfold hear
          rw [hc, cN_nI (by omega), show j = c by omega]
        · have hin : vp_in (nI j) 4 := vp_in_nI (by omega) (by omega)
          have hl4 : nI j < td 4 := by rw [hc]; exact nI_lt h9 (by omega)
          obtain ⟨f1, f2⟩ := hf j (by omega) hl4
          have nx : ∀ x2' : Int32, (∀ x, x < 31 → hb x2' x = (!dam td x && (decide (x = h) || ech td h x (j + 1)))) → q_wl_X2_earshot_60 P dams (nI c) echoFrom echoTo (nI h) x2' (nI j) post := by
            intro x2' h2 v ev
            rw [ev, nI_1]
            exact ih (c - (j + 1)) (by omega) (j + 1) x2' rfl (by omega) h2
          have st1 : ∀ x, ech td h x (j + 1) = (ech td h x j || (decide (td (43 + 2 * j) = nI h) && decide (td (44 + 2 * j) = nI x))) := fun x => rfl
          refine ⟨hin, ?_⟩
          rw [nI_clamp (by omega), f1, f2]
          refine ⟨fun hne => nx x2 (fun x hx9 => ?_), fun heq => ⟨hin, ?_⟩⟩
          · rw [hx x hx9, st1, decide_eq_false hne, Bool.false_and, Bool.or_false]
          · have hy8 : iv 0 8 (td (44 + 2 * j)) := iv_w (hR (44 + 2 * j) (by omega)) (by
              have hcs : j = 0 ∨ j = 1 ∨ j = 2 ∨ j = 3 := by omega
              rcases hcs with rfl | rfl | rfl | rfl <;> decide)
            obtain ⟨y2, ey, -, hy2, -⟩ := iv_nI hy8 (by decide)
            rw [ey]
            have ex : ∀ x, x < 31 → (decide (td (43 + 2 * j) = nI h) && decide (td (44 + 2 * j) = nI x)) = decide (y2 = x) := by
              intro x hx9
              rw [decide_eq_true heq, Bool.true_and, ey]
              by_cases e : y2 = x
              · subst e; rw [decide_eq_true rfl, decide_eq_true rfl]
              · rw [decide_eq_false e, decide_eq_false (fun h8 => e ((nI_eq (by omega) (by omega)).mp h8))]
            refine e_damX (by omega) (fun hd0 => zi ⟨hin, fun v ev => nx v (fun x hx9 => ?_)⟩) (fun hd1 => io (nx x2 (fun x hx9 => ?_)))
            · rw [ev, hb_or, hx x hx9, hb_bit (by omega) hx9, st1, ex x hx9]
              rw [hd] at hd0
              by_cases e : y2 = x
              · subst e
                unfold dam
                rw [hd0, decide_eq_true rfl]
                simp
              · rw [decide_eq_false e, Bool.or_false, Bool.or_false]
            · rw [hx x hx9, st1, ex x hx9]
              rw [hd] at hd1
              by_cases e : y2 = x
              · subst e
                unfold dam
                rw [hd1]
                rfl
              · rw [decide_eq_false e, Bool.or_false]
    exact loop _ 0 y rfl (by omega) (fun x hx9 => by rw [hy x hx9]; show _ = (!dam td x && (decide (x = h) || false)); rw [Bool.or_false])
  refine e_damX (by omega) (fun hd0 => iz (st _ (fun x hx9 => ?_))) (fun hd1 => oi (st 0 (fun x hx9 => ?_)))
  · rw [hb_bit (by omega) hx9]
    rw [hd] at hd0
    by_cases e : h = x
    · subst e
      unfold dam
      rw [hd0, decide_eq_true rfl]
      rfl
    · rw [decide_eq_false e, de_ne e, Bool.and_false]
  · rw [hb_0]
    rw [hd] at hd1
    by_cases e : h = x
    · subst e
      unfold dam
      rw [hd1]
      rfl
    · rw [de_ne e, Bool.and_false]
theorem e_singersInX {bits : Int32} {post : Int32 → Prop} (hR : RNG td) (hN : NOK td S) (hG : XG td S mi av be cl hu kn lv sn) (hd : singers = td 1) (hp : ∀ set, (∀ o, o < 31 → hb set o = (decide (nI o < td 1) && hb bits (cN (S 0 o)))) → post set) : q_wn_X3_singersIn_6_0 hu singers bits post := by
  have h1 : iv 0 6 (td 1) := hR 1 (by omega)
  obtain ⟨c, hc, -, hc6, -⟩ := iv_nI h1 (by decide)
  intro P hP
  have loop : ∀ m j (x3 : Int32), m = c - j → j ≤ c → (∀ o, o < 31 → hb x3 o = (decide (o < j) && hb bits (cN (S 0 o)))) → P x3 (nI j) := by
    intro m
    induction m using Nat.strongRecOn with
    | ind m ih =>
      intro j x3 hm hj hx
      apply hP
      rw [hd, hc]
      refine pk_le c j (fun h9 => ?_) (fun h9 => ?_)
      · refine hp x3 (fun o ho => ?_)
        rw [hx o ho, hc, show j = c by omega]
        by_cases e : o < c
        · rw [decide_eq_true e, decide_eq_true (nI_lt e (by omega))]
        · rw [decide_eq_false e, decide_eq_false (fun h8 => e ((nI_ltI (by omega) (by omega)).mp h8))]
      · have hin : vp_in (nI j) 6 := vp_in_nI (by omega) (by omega)
        have hl : nI j < td 1 := by rw [hc]; exact nI_lt h9 (by omega)
        obtain ⟨a, ea, -, ha8, -⟩ := iv_nI (hN.1 j (by omega)) (by decide)
        have nx : ∀ x3' : Int32, (∀ o, o < 31 → hb x3' o = (decide (o < j + 1) && hb bits (cN (S 0 o)))) → q_wn_X3_singersIn_6_35 P hu (nI c) bits x3' (nI j) post := by
          intro x3' h2 v ev
          rw [ev, nI_1]
          exact ih (c - (j + 1)) (by omega) (j + 1) x3' rfl (by omega) h2
        have ex : ∀ o, ¬ o = j → decide (o < j + 1) = decide (o < j) := by
          intro o ho
          by_cases e : o < j
          · rw [decide_eq_true e, decide_eq_true (by omega)]
          · rw [decide_eq_false e, decide_eq_false (by omega)]
        refine ⟨hin, ?_⟩
        rw [nI_clamp (by omega), hG.2.1 j (by omega) hl, ea]
        refine e_hasX (by omega) (fun h0 => iz (nx x3 (fun o ho => ?_))) (fun h0 => oi (fun v ev => nx v (fun o ho => ?_)))
        · rw [hx o ho]
          by_cases e : o = j
          · subst e
            rw [ea, cN_nI (by omega), h0, Bool.and_false, Bool.and_false]
          · rw [ex o e]
        · rw [ev, hb_or, hx o ho, hb_bit (by omega) ho]
          by_cases e : o = j
          · subst e
            rw [ea, cN_nI (by omega), h0, decide_eq_true rfl, decide_eq_true (show o < o + 1 by omega)]
            simp
          · rw [ex o e, de_ne e, Bool.or_false]
  exact loop _ 0 0 rfl (by omega) (fun o ho => by rw [hb_0, decide_eq_false (by omega)]; rfl)
theorem i_le {x y : Int32} : (x ≤ y) ↔ ¬ y < x := by
  rw [Int32.le_iff_toInt_le, Int32.lt_iff_toInt_lt]; omega
theorem i_eq {x y : Int32} : (x = y) ↔ (¬ y < x ∧ ¬ x < y) := by
  rw [Int32.lt_iff_toInt_lt, Int32.lt_iff_toInt_lt, ← Int32.toInt_inj]; omega
/-- whether it is wrong -/
theorem e_wrongX {K h l : Int32} {post : Int32 → Prop} (hK : K = 0 ∨ K = 1 ∨ K = 2) (hp : ∀ w : Bool, w = (!decide (K = 0) && (decide (l < h) || (!decide (K = 2) && decide (h = l)))) → post (bI w)) : q_z_X3_isWrong_0 K h l post := by
  rcases hK with rfl | rfl | rfl
  · exact ⟨fun _ => ⟨fun _ => hp false (by rfl), fun h9 => absurd h9 (by decide)⟩, fun h9 => absurd h9 (by decide)⟩
  · refine ⟨fun h9 => absurd rfl h9, fun _ => ⟨fun hlt => hp false ?_, fun hlt => hp true ?_⟩⟩
    · rw [decide_eq_false (fun h9 : l < h => by have := r_lt h9; have := r_lt hlt; omega), decide_eq_false (fun h9 : h = l => by rw [h9] at hlt; have := r_lt hlt; omega)]
      rfl
    · by_cases e : l < h
      · rw [decide_eq_true e]; rfl
      · rw [decide_eq_true (i_eq.mpr ⟨e, hlt⟩)]
        rw [decide_eq_false e]; rfl
  · refine ⟨fun _ => ⟨fun h9 => absurd rfl h9, fun _ => ⟨fun hle => hp false ?_, fun hle => hp true ?_⟩⟩, fun h9 => absurd h9 (by decide)⟩
    · rw [decide_eq_false (i_le.mp hle)]
      rfl
    · rw [decide_eq_true (Decidable.not_not.mp (fun h9 => hle (i_le.mpr h9)))]
      rfl
def wI (b : Bool) : Int32 := if b = true then 1 else 0
theorem e_raiseX {K x : Int32} {s : Nat} {b : Bool} {post : Int32 → Int32 → Int32 → (Nat → Int32) → (Nat → Int32) → (Nat → Int32) → Prop} (hR : RNG td) (hN : NOK td S) (hG : XG td S mi av be cl hu kn lv sn) (hD : LX td huts singers dams echoes deep heights ladders minutes echoFrom echoTo talls) (hs : s < 6) (hl : nI s < td 1) (hK : K = 0 ∨ K = 1 ∨ K = 2) (hb1 : b = !decide (K = 0))
    (h0 : mayR td (S 0) (S 1) (S 5 0) s x b = false → post 0 av be kn lv sn)
    (h1 : ∀ t, t < 5 → x = nI t → mayR td (S 0) (S 1) (S 5 0) s (nI t) b = true → ∀ w, w = (!decide (K = 0) && wrongR td (S 0) (S 2) (S 4) s t (decide (K = 2))) → ∀ kn' lv' sn', (∀ j, j < 6 → kn' j = knS td (S 0) (S 1) s t j) → (∀ j, j < 5 → lv' j = upd (S 4) t (hgh td (S 0) (S 2) s) j) → (∀ j, j < 9 → sn' j = upd (S 3) (cN (S 0 s)) (S 3 (cN (S 0 s)) + wI w) j) → post 1 (S 5 2 + wI w) (S 5 0 ||| bitI t) kn' lv' sn') :
    q_wn_X3_raise_6_0 av be cl hu kn lv sn singers dams echoes heights ladders echoFrom echoTo talls K (nI s) x post := by
  obtain ⟨a, ea, -, ha8, -⟩ := iv_nI (hN.1 s hs) (by decide)
  have hin : vp_in (nI s) 6 := vp_in_nI hs (by omega)
  have hin9 : vp_in (nI a) 9 := vp_in_nI (by omega) (by omega)
  refine ⟨hin, fun v1 e1 => ?_⟩
  rw [nI_clamp (by omega), hG.2.1 s hs hl, ea] at e1
  subst e1
  refine ⟨fun hneg => h0 ?_, fun hneg => ⟨fun h5 => h0 ?_, fun h5 => ⟨hin, ?_⟩⟩⟩
  · unfold mayR
    rw [decide_eq_false (fun h9 => absurd hneg (Int32.not_lt.mpr h9.1))]
    rfl
  · unfold mayR
    rw [decide_eq_false (fun h9 => absurd h9.2 (Int32.not_lt.mpr h5))]
    rfl
  obtain ⟨t, ht, rfl⟩ := lt_nI (c := 5) (m := 5) (iv_lit (by decide)) ⟨Int32.not_lt.mp hneg, Int32.not_le.mp h5⟩
  have em : ∀ b, mayR td (S 0) (S 1) (S 5 0) s (nI t) b = (hb (S 1 s) t && (hb (S 5 0) t == b) && !dam td a) := by
    intro b
    unfold mayR
    rw [decide_eq_true ⟨nI_pos' (by omega), nI_lt (b := 5) ht (by omega)⟩, cN_nI (by omega), ea, cN_nI (by omega), Bool.true_and]
  rw [em] at h0
  rw [nI_clamp (by omega), hG.2.2.1 s hs]
  refine e_hasX (by omega) (fun hk0 => iz (h0 (by rw [hk0]; rfl))) (fun hk1 => oi ?_)
  rw [hD.2.2.1]
  refine e_damX (by omega) (fun hd0 => iz ?_) (fun hd1 => oi (h0 (by unfold dam; rw [hd1, Bool.not_true, Bool.and_false])))
  rw [hG.2.2.2.2.2.1]
  have hd0' : dam td a = false := hd0
  -- the sound itself
  have go : ∀ y0 y1 : Int32, ¬ y0 = y1 → (hb (S 5 0) t == b) = true → q_wn_X3_raise_6_62 av (S 5 0) cl hu kn lv sn singers (td 3) echoes heights ladders echoFrom echoTo talls K (nI s) (nI t) (nI a) y0 y1 post := by
    intro y0 y1 hy hbb
    refine ⟨fun _ => ?_, fun h9 => absurd h9 hy⟩
    have hm : mayR td (S 0) (S 1) (S 5 0) s (nI t) b = true := by rw [em, hk1, hbb, hd0']; rfl
    refine e_highX hR hN hG hD hs hl ⟨vp_in_nI ht (by omega), ?_⟩
    rw [nI_clamp (by omega), hG.2.2.2.1 t ht]
    refine e_wrongX hK (fun w ew => ?_)
    have h1' := h1 t ht rfl hm w (by rw [ew]; rfl)
    rw [ea, cN_nI (by omega)] at h1'
    have s112 : ∀ sn' : Nat → Int32, (∀ j, j < 9 → sn' j = upd (S 3) a (S 3 a + wI w) j) → q_wn_X3_raise_6_112 (S 5 2 + wI w) (S 5 0) cl hu kn lv sn' singers (td 3) echoes heights ladders echoFrom echoTo talls (nI t) (nI a) (hgh td (S 0) (S 2) s) post := by
      intro sn' hsn v1 e1
      refine ⟨vp_in_nI ht (by omega), fun lv1 e2 => ?_⟩
      rw [nI_clamp (by omega)] at e2
      refine e_earX hR rfl hD.2.2.2.1 hD.2.2.2.2.2.2.2.2.1 (by omega) (fun set hset => ?_)
      refine e_singersInX hR hN hG hD.2.1 (fun set2 hset2 => ?_)
      have b1 : iv 0 6 (td 1) := hR 1 (by omega)
      obtain ⟨c, hc, -, hc6, -⟩ := iv_nI b1 (by decide)
      have e1' : v1 = S 5 0 ||| bitI t := e1
      have e2' : ∀ j, j < 5 → lv1 j = upd (S 4) t (hgh td (S 0) (S 2) s) j := by
        intro j hj
        rw [e2]
        by_cases e : j = t
        · rw [e, up_s, up_s]
        · rw [up_n e, up_n e]; exact hG.2.2.2.1 j hj
      intro P hP
      have loop : ∀ m j (kn1 : Nat → Int32), m = c - j → j ≤ c → (∀ o, o < 6 → kn1 o = if o < j ∧ hear td a (cN (S 0 o)) = true then S 1 o ||| bitI t else S 1 o) → P (nI j) kn1 := by
        intro m
        induction m using Nat.strongRecOn with
        | ind m ih =>
          intro j kn1 hm2 hj hx
          apply hP
          rw [hD.2.1, hc]
          refine pk_le c j (fun h9 => ?_) (fun h9 => ?_)
          · rw [e1']
            refine h1' kn1 lv1 sn' (fun o ho => ?_) e2' hsn
            rw [hx o ho]
            unfold knS
            rw [hc, cN_nI (by omega), ea, cN_nI (by omega), show j = c by omega]
          · have hinj : vp_in (nI j) 6 := vp_in_nI (by omega) (by omega)
            have hlj : nI j < td 1 := by rw [hc]; exact nI_lt h9 (by omega)
            obtain ⟨a2, ea2, -, ha28, -⟩ := iv_nI (hN.1 j (by omega)) (by decide)
            have hs2 : hb set2 j = hear td a a2 := by
              rw [hset2 j (by omega), decide_eq_true hlj, Bool.true_and, ea2, cN_nI (by omega), hset a2 (by omega)]
            have nx : ∀ kn2 : Nat → Int32, (∀ o, o < 6 → kn2 o = if o < j + 1 ∧ hear td a (cN (S 0 o)) = true then S 1 o ||| bitI t else S 1 o) → q_wn_X3_raise_6_183 P (S 5 2 + wI w) v1 cl hu kn2 lv1 sn' (nI c) (td 3) echoes heights ladders echoFrom echoTo talls (nI t) set2 (nI j) post := by
              intro kn2 h2 v ev
              rw [ev, nI_1]
              exact ih (c - (j + 1)) (by omega) (j + 1) kn2 rfl (by omega) h2
            have ot : ∀ o, o < 6 → ¬ o = j → (if o < j + 1 ∧ hear td a (cN (S 0 o)) = true then S 1 o ||| bitI t else S 1 o) = (if o < j ∧ hear td a (cN (S 0 o)) = true then S 1 o ||| bitI t else S 1 o) := by
              intro o ho hoj
              by_cases e : o < j ∧ hear td a (cN (S 0 o)) = true
              · rw [if_pos e, if_pos ⟨by omega, e.2⟩]
              · rw [if_neg e, if_neg (fun h8 => e ⟨by omega, h8.2⟩)]
            refine e_hasX (by omega) (fun hh0 => iz (nx kn1 (fun o ho => ?_))) (fun hh1 => oi ⟨hinj, fun v ev => ⟨hinj, fun kn2 ek => nx kn2 (fun o ho => ?_)⟩⟩)
            · by_cases e : o = j
              · subst e
                rw [hx o ho, if_neg (fun h8 => absurd h8.1 (by omega)), if_neg (fun h8 => ?_)]
                rw [ea2, cN_nI (by omega), ← hs2, hh0] at h8
                exact absurd h8.2 (by decide)
              · rw [hx o ho, ot o ho e]
            · rw [nI_clamp (by omega)] at ev ek
              rw [ek]
              by_cases e : o = j
              · subst e
                rw [up_s, ev, hx o ho, if_neg (fun h8 => absurd h8.1 (by omega)), if_pos ⟨by omega, by rw [ea2, cN_nI (by omega), ← hs2, hh1]⟩]
                rfl
              · rw [up_n e, hx o ho, ot o ho e]
      exact loop _ 0 kn rfl (by omega) (fun o ho => by rw [if_neg (fun h8 => absurd h8.1 (by omega))]; exact hG.2.2.1 o ho)
    cases w with
    | false =>
      refine iz ?_
      have e9 : av = S 5 2 + wI false := by rw [hG.2.2.2.2.2.2.2]; show S 5 2 = S 5 2 + 0; rw [Int32.add_zero]
      rw [e9]
      refine s112 sn (fun j hj => ?_)
      show sn j = upd (S 3) a (S 3 a + 0) j
      rw [Int32.add_zero, hG.2.2.2.2.1 j hj]
      by_cases e : j = a
      · rw [e, up_s]
      · rw [up_n e]
    | true =>
      refine oi (fun v2 e2 => ⟨hin9, fun v3 e3 => ⟨hin9, fun sn1 e4 => ?_⟩⟩)
      rw [nI_clamp (by omega)] at e3 e4
      have e9 : v2 = S 5 2 + wI true := by rw [e2, hG.2.2.2.2.2.2.2]; rfl
      rw [e9]
      refine s112 sn1 (fun j hj => ?_)
      rw [e4, e3]
      by_cases e : j = a
      · rw [e, up_s, up_s, hG.2.2.2.2.1 a (by omega)]; rfl
      · rw [up_n e, up_n e]; exact hG.2.2.2.2.1 j hj
  have no : ∀ y : Int32, (hb (S 5 0) t == b) = false → q_wn_X3_raise_6_62 av (S 5 0) cl hu kn lv sn singers (td 3) echoes heights ladders echoFrom echoTo talls K (nI s) (nI t) (nI a) y y post := by
    intro y hbb
    refine ⟨fun h9 => absurd rfl h9, fun _ => ?_⟩
    have := h0 (by rw [hbb, Bool.and_false]; rfl)
    rw [hG.2.2.2.2.2.1] at this
    exact this
  refine e_hasX (by omega) (fun hb0 => ⟨fun hk0 => no 0 ?_, fun hk0 => go 0 1 (by decide) ?_⟩) (fun hb0 => ⟨fun hk0 => go 1 0 (by decide) ?_, fun hk0 => no 1 ?_⟩)
  · rw [hb0, hb1, decide_eq_false hk0]; rfl
  · rw [hb0, hb1, decide_eq_true hk0]; rfl
  · rw [hb0, hb1, decide_eq_false hk0]; rfl
  · rw [hb0, hb1, decide_eq_true hk0]; rfl
end
end
section
theorem e_hsX {c x : Int32} {post : Int32 → Prop} (h0 : ¬ (0 ≤ x ∧ x < c) → post 0) (h1 : 0 ≤ x ∧ x < c → post 1) : q_wl_X2_hasSinger_0 c x post := ⟨fun h => h0 (fun h9 => absurd h (Int32.not_lt.mpr h9.1)), fun h => ⟨fun h9 => h0 (fun h8 => absurd h8.2 (Int32.not_lt.mpr h9)), fun h9 => h1 ⟨Int32.not_lt.mp h, Int32.not_le.mp h9⟩⟩⟩
theorem e_hhX {c x : Int32} {post : Int32 → Prop} (h0 : ¬ (0 ≤ x ∧ x < c) → post 0) (h1 : 0 ≤ x ∧ x < c → post 1) : q_wl_X2_hasHut_0 c x post := ⟨fun h => h0 (fun h9 => absurd h (Int32.not_lt.mpr h9.1)), fun h => ⟨fun h9 => h0 (fun h8 => absurd h8.2 (Int32.not_lt.mpr h9)), fun h9 => h1 ⟨Int32.not_lt.mp h, Int32.not_le.mp h9⟩⟩⟩
section
variable {td : Nat → Int32} {S : Nat → Nat → Int32} {mi av be cl : Int32} {hu kn lv sn : Nat → Int32} {huts singers dams echoes deep : Int32} {heights ladders minutes echoFrom echoTo talls : Nat → Int32}
theorem e_cutX {h : Nat} {sn' : Nat → Int32} {post : Int32 → Prop} (hd : deep = td 5) (hh : h < 9) (hs : sn h = sn' h) (h0 : decide (sn' h < td 5) = true → post 0) (h1 : decide (sn' h < td 5) = false → post 1) : q_wn_X3_isCut_6_0 sn deep (nI h) post := by
  refine ⟨vp_in_nI hh (by omega), ?_⟩
  rw [nI_clamp (by omega), hd, hs]
  exact ⟨fun h => h0 (decide_eq_true h), fun h => h1 (decide_eq_false h)⟩
theorem e_walkX {s : Nat} {x : Int32} {post : Int32 → Int32 → (Nat → Int32) → Prop} (hR : RNG td) (hN : NOK td S) (hG : XG td S mi av be cl hu kn lv sn) (hD : LX td huts singers dams echoes deep heights ladders minutes echoFrom echoTo talls) (hs : s < 6) (hl : nI s < td 1)
    (h0 : mayW td (S 0) (S 2) (S 3) s x = false → post 0 mi hu) (h1 : mayW td (S 0) (S 2) (S 3) s x = true → ∀ hu', (∀ j, j < 6 → nI j < td 1 → hu' j = upd (S 0) s x j) → post 1 (S 5 1 + td (51 + 9 * cN (S 0 s) + cN x)) hu') : q_wn_X3_walk_6_0 mi cl hu sn huts deep minutes (nI s) x post := by
  obtain ⟨a, ea, -, ha8, -⟩ := iv_nI (hN.1 s hs) (by decide)
  have hin : vp_in (nI s) 6 := vp_in_nI hs (by omega)
  unfold mayW at h0 h1
  refine ⟨hin, fun v1 e1 => ?_⟩
  rw [nI_clamp (by omega), hG.2.1 s hs hl, ea] at e1
  subst e1
  rw [hD.1]
  refine e_hhX (fun hn => iz (h0 (by rw [decide_eq_false hn]; rfl))) (fun hy => oi ?_)
  obtain ⟨y, hy9, rfl⟩ := lt_nI (m := 9) (hR 0 (by omega)) hy
  rw [decide_eq_true hy, ea, cN_nI (by omega), cN_nI (by omega)] at h0 h1
  have ec : decide (S 2 s = 1) = hb cl s := (hG.1 s hs).symm
  rw [ec] at h0 h1
  refine e_hasX (by omega) (fun hc => zi ?_) (fun hc => io (h0 (by rw [hc]; simp)))
  rw [hc] at h0 h1
  refine e_cutX hD.2.2.2.2.1 (by omega) (hG.2.2.2.2.1 a (by omega)) (fun q1 => zi ?_) (fun q1 => io (h0 (by rw [q1]; simp)))
  rw [q1] at h0 h1
  refine e_cutX hD.2.2.2.2.1 (by omega) (hG.2.2.2.2.1 y (by omega)) (fun q2 => iz ?_) (fun q2 => oi (h0 (by rw [q2]; simp)))
  rw [q2] at h0 h1
  have ei : (nI a * 9) + nI y = nI (9 * a + y) := by rw [jx9, Nat.mul_comm]
  rw [ei]
  refine ⟨vp_in_nI (by omega) (by omega), fun v2 e2 => ?_⟩
  rw [nI_clamp (by omega), hD.2.2.2.2.2.2.2.1 (9 * a + y) (by omega), show 51 + (9 * a + y) = 51 + 9 * a + y by omega] at e2
  subst e2
  refine ⟨fun hz => fun v3 e3 => ⟨hin, fun hu1 e4 => ?_⟩, fun hz => h0 (by rw [decide_eq_true hz]; rfl)⟩
  rw [decide_eq_false hz] at h1
  rw [nI_clamp (by omega)] at e4
  rw [e3, hG.2.2.2.2.2.2.1]
  refine h1 rfl hu1 (fun j hj hlj => ?_)
  rw [e4]
  by_cases e : j = s
  · rw [e, up_s, up_s]
  · rw [up_n e, up_n e]; exact hG.2.1 j hj hlj
theorem e_actX {K s x : Int32} {post : Int32 → Int32 → Int32 → Int32 → Int32 → (Nat → Int32) → (Nat → Int32) → (Nat → Int32) → (Nat → Int32) → Prop} (hR : RNG td) (hN : NOK td S) (hG : XG td S mi av be cl hu kn lv sn) (hD : LX td huts singers dams echoes deep heights ladders minutes echoFrom echoTo talls) (hK : iv 0 5 K)
    (hp : ∀ mi' av' be' cl' hu' kn' lv' sn', XG td (actS td K s x S).2 mi' av' be' cl' hu' kn' lv' sn' → post (bI (actS td K s x S).1) mi' av' be' cl' hu' kn' lv' sn') : q_wn_X3_act_6_0 mi av be cl hu kn lv sn huts singers dams echoes deep heights ladders minutes echoFrom echoTo talls K s x post := by
  have h1 : iv 0 6 (td 1) := hR 1 (by omega)
  unfold actS act at hp
  refine e_hsX (fun hn => zi ?_) (fun hy => io ?_)
  · rw [hD.2.1] at hn
    rw [if_pos hn] at hp
    exact hp mi av be cl hu kn lv sn hG
  rw [hD.2.1] at hy
  rw [if_neg (fun h9 => h9 hy)] at hp
  obtain ⟨s', hs', rfl⟩ := lt_nI (m := 6) h1 hy
  rw [cN_nI (by omega)] at hp
  have hl : nI s' < td 1 := hy.2
  have hin : vp_in (nI s') 6 := vp_in_nI hs' (by omega)
  refine ⟨fun hr => ?_, fun h3 => ?_, fun h4 => ?_, fun h5 => ?_⟩
  · have hK3 : K = 0 ∨ K = 1 ∨ K = 2 := by
      have := hK.1
      have := hK.2
      have e0 : (0 : Int32).toInt = 0 := rfl
      have e1 : (1 : Int32).toInt = 1 := rfl
      have e2 : (2 : Int32).toInt = 2 := rfl
      have hc : K.toInt = 0 ∨ K.toInt = 1 ∨ K.toInt = 2 := by omega
      rcases hc with h | h | h
      · exact Or.inl (Int32.toInt_inj.mp (h.trans e0.symm))
      · exact Or.inr (Or.inl (Int32.toInt_inj.mp (h.trans e1.symm)))
      · exact Or.inr (Or.inr (Int32.toInt_inj.mp (h.trans e2.symm)))
    refine e_raiseX hR hN hG hD hs' hl hK3 rfl (fun hf => ⟨rfl, ?_⟩) (fun t ht ex hm w ew kn' lv' sn' ekn elv esn => ⟨rfl, ?_⟩)
    · rcases hK3 with rfl | rfl | rfl
      · rw [if_pos rfl, if_neg (by rw [show mayR td (S 0) (S 1) (S 5 0) s' x false = false from hf]; decide)] at hp
        exact hp mi av be cl hu kn lv sn hG
      · rw [if_neg (by decide), if_pos (Or.inl rfl), if_neg (by rw [show mayR td (S 0) (S 1) (S 5 0) s' x true = false from hf]; decide)] at hp
        exact hp mi av be cl hu kn lv sn hG
      · rw [if_neg (by decide), if_pos (Or.inr rfl), if_neg (by rw [show mayR td (S 0) (S 1) (S 5 0) s' x true = false from hf]; decide)] at hp
        exact hp mi av be cl hu kn lv sn hG
    · subst ex
      rw [cN_nI (by omega)] at hp
      rcases hK3 with rfl | rfl | rfl
      · rw [if_pos rfl, if_pos (show mayR td (S 0) (S 1) (S 5 0) s' (nI t) false = true from hm)] at hp
        have ew' : w = false := ew
        subst ew'
        refine hp mi _ _ cl hu kn' lv' sn' ⟨hG.1, hG.2.1, ekn, elv, fun j hj => ?_, rfl, hG.2.2.2.2.2.2.1, ?_⟩
        · rw [esn j hj]
          show upd (S 3) _ (S 3 _ + 0) j = S 3 j
          rw [Int32.add_zero]
          by_cases e : j = cN (S 0 s')
          · rw [e, up_s]
          · rw [up_n e]
        · show S 5 2 + 0 = S 5 2
          rw [Int32.add_zero]
      · rw [if_neg (by decide), if_pos (Or.inl rfl), if_pos (show mayR td (S 0) (S 1) (S 5 0) s' (nI t) true = true from hm)] at hp
        have ew' : w = wrongR td (S 0) (S 2) (S 4) s' t (decide ((1 : Int32) = 2)) := ew
        subst ew'
        exact hp mi _ _ cl hu kn' lv' sn' ⟨hG.1, hG.2.1, ekn, elv, esn, rfl, hG.2.2.2.2.2.2.1, rfl⟩
      · rw [if_neg (by decide), if_pos (Or.inr rfl), if_pos (show mayR td (S 0) (S 1) (S 5 0) s' (nI t) true = true from hm)] at hp
        have ew' : w = wrongR td (S 0) (S 2) (S 4) s' t (decide ((2 : Int32) = 2)) := ew
        subst ew'
        exact hp mi _ _ cl hu kn' lv' sn' ⟨hG.1, hG.2.1, ekn, elv, esn, rfl, hG.2.2.2.2.2.2.1, rfl⟩
  · subst h3
    rw [if_neg (by decide), if_neg (by decide), if_pos rfl] at hp
    refine e_walkX hR hN hG hD hs' hl (fun hf => ⟨rfl, ?_⟩) (fun ht hu' ehu => ⟨rfl, ?_⟩)
    · rw [if_neg (by rw [hf]; decide)] at hp
      exact hp mi av be cl hu kn lv sn hG
    · rw [if_pos ht] at hp
      exact hp _ av be cl hu' kn lv sn ⟨hG.1, ehu, hG.2.2.1, hG.2.2.2.1, hG.2.2.2.2.1, hG.2.2.2.2.2.1, rfl, hG.2.2.2.2.2.2.2⟩
  · subst h4
    rw [if_neg (by decide), if_neg (by decide), if_neg (by decide), if_pos rfl] at hp
    obtain ⟨a, ea, -, ha8, -⟩ := iv_nI (hN.1 s' hs') (by decide)
    rw [ea, cN_nI (by omega)] at hp
    refine e_hasX (by omega) (fun hc => zi ⟨hin, ?_⟩) (fun hc => io ⟨rfl, ?_⟩)
    · rw [nI_clamp (by omega), hG.2.1 s' hs' hl, ea]
      refine ⟨vp_in_nI (by omega) (by omega), ?_⟩
      rw [nI_clamp (by omega), hD.2.2.2.2.2.2.1 a (by omega)]
      rw [hG.1 s' hs'] at hc
      have hc1 := of_decide_eq_false hc
      refine ⟨fun hz v ev => ⟨rfl, ?_⟩, fun hz => ⟨rfl, ?_⟩⟩
      · rw [if_pos ⟨hz, hc1⟩] at hp
        refine hp mi av be v hu kn lv sn ⟨fun j hj => ?_, hG.2⟩
        show hb v j = decide (upd (S 2) s' 1 j = 1)
        rw [ev, hb_or, hb_bit (by omega) (by omega), hG.1 j hj]
        by_cases e : j = s'
        · subst e; rw [up_s, decide_eq_true (rfl : j = j), Bool.or_true]; rfl
        · rw [up_n e, de_ne e, Bool.or_false]
      · rw [if_neg (fun h9 => h9.1 hz)] at hp
        exact hp mi av be cl hu kn lv sn hG
    · rw [hG.1 s' hs'] at hc
      rw [if_neg (fun h9 => h9.2 (of_decide_eq_true hc))] at hp
      exact hp mi av be cl hu kn lv sn hG
  · subst h5
    rw [if_neg (by decide), if_neg (by decide), if_neg (by decide), if_neg (by decide)] at hp
    have hz2 : S 2 s' = 0 ↔ hb cl s' = false := by
      rw [hG.1 s' hs']
      rcases hN.2.2.1 s' hs' with h | h
      · rw [h]; decide
      · rw [h]; decide
    refine e_hasX (by omega) (fun hc => zi ⟨rfl, ?_⟩) (fun hc => io (fun v ev => ⟨rfl, ?_⟩))
    · rw [if_neg (fun h9 => h9 (hz2.mpr hc))] at hp
      exact hp mi av be cl hu kn lv sn hG
    · rw [if_pos (fun h9 => by rw [hz2.mp h9] at hc; exact absurd hc (by decide))] at hp
      refine hp mi av be v hu kn lv sn ⟨fun j hj => ?_, hG.2⟩
      show hb v j = decide (upd (S 2) s' 0 j = 1)
      rw [ev, hb_and, hb_not _ (by omega), hb_bit (by omega) (by omega), hG.1 j hj]
      by_cases e : j = s'
      · subst e; rw [up_s, decide_eq_true (rfl : j = j), Bool.not_true, Bool.and_false]; rfl
      · rw [up_n e, de_ne e, Bool.not_false, Bool.and_true]
theorem e_startX {homes known : Nat → Int32} {post : Int32 → Int32 → Int32 → Int32 → (Nat → Int32) → (Nat → Int32) → (Nat → Int32) → (Nat → Int32) → Prop} (hh : ∀ j : Nat, j < 6 → nI j < td 1 → homes j = td (25 + j)) (hk : ∀ j, j < 6 → known j = td (37 + j)) (hp : ∀ hu' kn' lv' sn', XG td (S0 td) 0 0 0 0 hu' kn' lv' sn' → post 0 0 0 0 hu' kn' lv' sn') : q_wn_X3_start_6_0 mi av be cl hu kn lv sn homes known post := by
  intro hu1 e1 kn1 e2
  have c1 : ∀ j, j < 6 → hu1 j = homes j := cpy0 e1 rfl
  have c2 : ∀ j, j < 6 → kn1 j = known j := cpy0 e2 rfl
  intro P hP
  have loop : ∀ m i (lv1 : Nat → Int32), m = 5 - i → i ≤ 5 → (∀ j, j < i → lv1 j = -1) → P (nI i) lv1 := by
    intro m
    induction m using Nat.strongRecOn with
    | ind m ih =>
      intro i lv1 hm hi hI
      apply hP
      refine pk_le 5 i (fun h5 => ?_) (fun h5 => ⟨vp_in_nI h5 (by omega), fun lv2 e3 v e4 => ?_⟩)
      · intro P2 hP2
        have loop2 : ∀ m i (sn1 : Nat → Int32), m = 9 - i → i ≤ 9 → (∀ j, j < i → sn1 j = 0) → P2 (nI i) sn1 := by
          intro m
          induction m using Nat.strongRecOn with
          | ind m ih2 =>
            intro i sn1 hm hi hS
            apply hP2
            refine pk_le 9 i (fun h9 => ?_) (fun h9 => ⟨vp_in_nI h9 (by omega), fun sn2 e1 v e2 => ?_⟩)
            · refine hp hu1 kn1 lv1 sn1 ⟨fun j hj => by rw [hb_0]; rfl, fun j hj hl => (c1 j hj).trans (hh j hj hl), fun j hj => (c2 j hj).trans (hk j hj), fun t ht => hI t (by omega), fun j hj => hS j (by omega), rfl, rfl, rfl⟩
            · rw [e2, nI_1]
              refine ih2 (9 - (i + 1)) (by omega) (i + 1) sn2 rfl (by omega) (fun j hj => ?_)
              rw [e1, nI_clamp (by omega)]
              by_cases hji : j = i
              · rw [hji, up_s]
              · rw [up_n hji]; exact hS j (by omega)
        exact loop2 _ 0 sn rfl (by omega) (fun j hj => absurd hj (by omega))
      · rw [e4, nI_1]
        refine ih (5 - (i + 1)) (by omega) (i + 1) lv2 rfl (by omega) (fun j hj => ?_)
        rw [e3, nI_clamp (by omega)]
        by_cases hji : j = i
        · rw [hji, up_s]
        · rw [up_n hji]; exact hI j (by omega)
  exact loop _ 0 lv rfl (by omega) (fun j hj => absurd hj (by omega))
theorem e_playX {ev : Nat → Int32} {villages slide : Int32} {homes known : Nat → Int32} {deeds : Int32} {kinds firsts seconds : Nat → Int32} {n : Nat} {post : Int32 → Int32 → Int32 → Int32 → Int32 → (Nat → Int32) → (Nat → Int32) → (Nat → Int32) → (Nat → Int32) → Prop} (hR : RNG td) (hO : LOK td) (hD : LDR huts singers villages dams echoes deep slide heights ladders minutes echoFrom echoTo homes talls known td) (hE : R3 deeds kinds firsts seconds ev) (hEi : iv 0 40 (ev 0)) (hEk : ∀ j, j < 40 → iv 0 5 (ev (1 + 3 * j))) {x : Int32} (hx : x = nI n) (hn : nI n ≤ deeds) (hn40 : n ≤ 40)
    (hp : ∀ mi' av' be' cl' hu' kn' lv' sn', XG td (plays td ev n 0 (S0 td)).2 mi' av' be' cl' hu' kn' lv' sn' → post (nI (plays td ev n 0 (S0 td)).1) mi' av' be' cl' hu' kn' lv' sn') : q_wn_X3_play_6_15_0 mi av be cl hu kn lv sn huts singers dams echoes deep heights ladders minutes echoFrom echoTo homes talls known deeds kinds firsts seconds x post := by
  subst hx
  have hX := LX_of hR hD
  obtain ⟨c, hc, -, hc40, -⟩ := iv_nI hEi (by decide)
  have hdc : deeds = nI c := hE.1.trans hc
  have hnc : n ≤ c := by rw [hdc] at hn; exact (nI_leI (by omega) (by omega)).mp hn
  have b1 : iv 0 (6 : Nat) (td 1) := hR 1 (by omega)
  refine e_startX (fun j hj hl => (hD.2.2.2.2.2.2.2.2.2.2.2.1 j (lt_cln b1 (by omega) hl (by omega))).1) hD.2.2.2.2.2.2.2.2.2.2.2.2 (fun hu1 kn1 lv1 sn1 hG1 => ?_)
  intro P hP
  have loop : ∀ m j (S : Nat → Nat → Int32) mi av be cl hu kn lv sn, m = n - j → j ≤ n → NOK td S → XG td S mi av be cl hu kn lv sn → (∀ mi' av' be' cl' hu' kn' lv' sn', XG td (plays td ev m j S).2 mi' av' be' cl' hu' kn' lv' sn' → post (nI (plays td ev m j S).1) mi' av' be' cl' hu' kn' lv' sn') → P (nI j) mi av be cl hu kn lv sn := by
    intro m
    induction m with
    | zero =>
      intro j S mi av be cl hu kn lv sn hm hj hN hG hq
      apply hP
      have e1 : j = n := by omega
      subst e1
      exact pk_le j j (fun _ => hq _ _ _ _ _ _ _ _ hG) (fun h9 => absurd h9 (by omega))
    | succ m ih =>
      intro j S mi av be cl hu kn lv sn hm hj hN hG hq
      apply hP
      refine pk_le n j (fun h9 => absurd h9 (by omega)) (fun h9 => ?_)
      rw [hdc]
      refine pk_le c j (fun h8 => absurd h8 (by omega)) (fun h8 => ?_)
      have hin : vp_in (nI j) 40 := vp_in_nI (by omega) (by omega)
      refine ⟨hin, hin, hin, ?_⟩
      obtain ⟨k1, k2, k3⟩ := hE.2 j (by rw [hc, nI_clamp (by omega)]; omega)
      rw [nI_clamp (by omega), k1, k2, k3]
      unfold plays at hq
      refine e_actX hR hN hG hX (hEk j (by omega)) (fun mi' av' be' cl' hu' kn' lv' sn' hG' => ?_)
      have ok := act_ok (k := ev (1 + 3 * j)) (s := ev (2 + 3 * j)) (x := ev (3 + 3 * j)) hR hN
      by_cases hb1 : (actS td (ev (1 + 3 * j)) (ev (2 + 3 * j)) (ev (3 + 3 * j)) S).1 = true
      · rw [hb1]
        rw [if_pos hb1] at hq
        refine ⟨fun _ v ev2 => ?_, fun h7 => absurd h7 (by decide)⟩
        rw [ev2, nI_1]
        exact ih (j + 1) _ _ _ _ _ _ _ _ _ (by omega) (by omega) ok hG' hq
      · rw [Bool.not_eq_true] at hb1
        rw [hb1]
        rw [if_neg (by rw [hb1]; decide)] at hq
        exact ⟨fun h7 => absurd rfl h7, fun _ => hq _ _ _ _ _ _ _ _ hG'⟩
  exact loop n 0 (S0 td) _ _ _ _ _ _ _ _ (by omega) (by omega) (S0_ok hR hO) hG1 hp
end
end
section
theorem bit32_tab' : ((List.range 31).all fun i => (List.range 32).all fun k => hb (bitI i) k == decide (i = k)) = true := by decide +kernel
theorem hb_b32' {i k : Nat} (hi : i < 31) (hk : k < 32) : hb (bitI i) k = decide (i = k) := by
  have h := List.all_eq_true.mp (List.all_eq_true.mp bit32_tab' i (List.mem_range.mpr hi)) k (List.mem_range.mpr hk)
  exact eq_of_beq h
theorem lt_le3 {x y z : Int32} (h : x ≤ y) (h2 : y < z) : x < z := by
  rw [Int32.lt_iff_toInt_lt]
  have := r_le h
  have := r_lt h2
  omega
theorem le_tr {x y z : Int32} (h : x ≤ y) (h2 : y ≤ z) : x ≤ z := by
  rw [Int32.le_iff_toInt_le]
  have := r_le h
  have := r_le h2
  omega
theorem le_rf (x : Int32) : x ≤ x := by rw [Int32.le_iff_toInt_le]; omega
theorem gr_l (a b : Int32) : a ≤ gr a b := by
  unfold gr
  split
  · exact le_rf a
  · next h => rw [Int32.le_iff_toInt_le]; exact r_nlt h
theorem gr_r (a b : Int32) : b ≤ gr a b := by
  unfold gr
  split
  · next h => rw [Int32.le_iff_toInt_le]; have := r_lt h; omega
  · exact le_rf b
theorem lH_ge (w : Nat) (a b fh : Int32) : fh ≤ lH w a b fh := by
  unfold lH
  split
  · exact le_tr (gr_l fh a) (gr_l _ b)
  · split
    · exact gr_l fh a
    · exact le_rf fh
/-- huts told of so far are not beyond fh -/
def GO (td : Nat → Int32) (fh : Int32) : Prop := CB 0 td ∧ (∀ s : Nat, s < 6 → nI s < td 1 → td (25 + s) ≤ fh) ∧ (∀ k : Nat, k < 4 → nI k < td 4 → td (43 + 2 * k) ≤ fh ∧ td (44 + 2 * k) ≤ fh) ∧ ∀ h : Nat, h < 32 → hb (td 2) h = true → nI h ≤ fh
theorem GO_of {t td : Nat → Int32} {fh fh' : Int32} (h : GO td fh) (hC : CB 0 t) (h1 : t 1 = td 1) (h4 : t 4 = td 4) (hs : ∀ j, 25 ≤ j → j ≤ 30 → t j = td j) (hk : ∀ j, 43 ≤ j → j ≤ 50 → t j = td j) (hf : fh ≤ fh') (hv : ∀ h : Nat, h < 32 → hb (t 2) h = true → nI h ≤ fh') : GO t fh' := by
  refine ⟨hC, fun s hs6 hl => ?_, fun k hk4 hl => ?_, hv⟩
  · rw [h1] at hl
    rw [hs _ (by omega) (by omega)]
    exact le_tr (h.2.1 s hs6 hl) hf
  · rw [h4] at hl
    rw [hk _ (by omega) (by omega), hk _ (by omega) (by omega)]
    exact ⟨le_tr (h.2.2.1 k hk4 hl).1 hf, le_tr (h.2.2.1 k hk4 hl).2 hf⟩
theorem GO_ln {B : Nat → Int32} {n r w : Nat} {td : Nat → Int32} {fh : Int32} (hw : w < 10) (h : GO td fh) : GO (lD w (gd B n r w (nW w)) (tV B n (ps B n r 1)) (tV B n (ps B n r 2)) (tV B n (ps B n r 3)) td) (lH w (tV B n (ps B n r 1)) (tV B n (ps B n r 2)) fh) := by
  have hC : CB 0 (lD w (gd B n r w (nW w)) (tV B n (ps B n r 1)) (tV B n (ps B n r 2)) (tV B n (ps B n r 3)) td) := CB_ln (by omega) ⟨Nat.zero_le _, hw⟩ h.1
  have hf := lH_ge w (tV B n (ps B n r 1)) (tV B n (ps B n r 2)) fh
  have vv : ∀ {t : Nat → Int32} {fh' : Int32}, fh ≤ fh' → t 2 = td 2 → ∀ h : Nat, h < 32 → hb (t 2) h = true → nI h ≤ fh' := by
    intro t fh' hf e x hx hb1
    rw [e] at hb1
    exact le_tr (h.2.2.2 x hx hb1) hf
  have c0 : iv 0 (9 : Nat) (td 0) := h.1.1
  have c1 : iv 0 (6 : Nat) (td 1) := (h.1.2 rfl).1
  have c4 : iv 0 (4 : Nat) (td 4) := (h.1.2 rfl).2
  obtain ⟨n0, e0, -, hn0, -⟩ := iv_nI c0 (by decide)
  obtain ⟨n1, e1, -, hn1, -⟩ := iv_nI c1 (by decide)
  obtain ⟨n4, e4, -, hn4, -⟩ := iv_nI c4 (by decide)
  have hg : gd B n r w (nW w) = true → ∀ k, k < nW w → cW w k (tV B n (ps B n r 1)) (tV B n (ps B n r (k + 1))) = true := fun hg k hk => gd_c _ hg k hk
  generalize eg : gd B n r w (nW w) = g at hC hg ⊢
  generalize ea : tV B n (ps B n r 1) = a at hC hf hg ⊢
  have hg0 : g = true → cW w 0 a a = true := fun hh => by
    have h9 := hg hh 0 (by have := (nW_tb w (by omega)).2.1; omega)
    rw [show 0 + 1 = 1 from rfl, ea] at h9
    exact h9
  have hg1 : g = true → w = 5 → cW w 1 a (tV B n (ps B n r 2)) = true := fun hh h5 => by
    have h9 := hg hh 1 (by rw [h5]; decide)
    exact h9
  generalize eb : tV B n (ps B n r 2) = b at hC hf hg1 ⊢
  generalize ec : tV B n (ps B n r 3) = c at hC ⊢
  clear hg eg ea eb ec
  have hc : w = 0 ∨ w = 1 ∨ w = 2 ∨ w = 3 ∨ w = 4 ∨ w = 5 ∨ w = 6 ∨ w = 7 ∨ w = 8 ∨ w = 9 := by omega
  rcases hc with rfl | rfl | rfl | rfl | rfl | rfl | rfl | rfl | rfl | rfl
  · have e : ∀ j, ¬ j = 0 → ¬ (7 ≤ j ∧ j ≤ 15) → lD 0 g a b c td j = td j := by
      intro j hj hj2
      show (if td 0 = 9 then td else upd (upd td 0 (td 0 + 1)) (Int32.toNatClampNeg (7 + td 0)) a) j = td j
      split
      · rfl
      · next h9 =>
        have : ¬ n0 = 9 := fun e => h9 (by rw [e0, e]; rfl)
        rw [e0, show (7 : Int32) + nI n0 = nI (7 + n0) from jx 7 n0, nI_clamp (by omega), up_n (by omega), up_n hj]
    exact GO_of h hC (e 1 (by omega) (by omega)) (e 4 (by omega) (by omega)) (fun j _ _ => e j (by omega) (by omega)) (fun j _ _ => e j (by omega) (by omega)) hf (vv hf (e 2 (by omega) (by omega)))
  · have e : ∀ j, ¬ j = 2 → lD 1 g a b c td j = td j := fun j hj => up_n hj
    refine GO_of h hC (e 1 (by omega)) (e 4 (by omega)) (fun j _ _ => e j (by omega)) (fun j _ _ => e j (by omega)) hf (fun x hx hbx => ?_)
    have e2 : lD 1 g a b c td 2 = td 2 ||| (if g = true then 1 <<< (a &&& 31) else 0) := by
      show upd td 2 (td 2 ||| (if g = true then 1 <<< (a &&& 31) else 0)) 2 = _
      rw [up_s]
    rw [e2, hb_or, Bool.or_eq_true] at hbx
    rcases hbx with hbx | hbx
    · exact le_tr (h.2.2.2 x hx hbx) hf
    · by_cases hh : g = true
      · rw [if_pos hh] at hbx
        obtain ⟨p, rfl, -, hp, -⟩ := iv_nI (iv_hut (hg0 hh) (by decide +kernel)) (by decide)
        have e3 : hb (bitI p) x = true := hbx
        rw [hb_b32' (by omega) hx] at e3
        rw [← of_decide_eq_true e3]
        exact gr_r fh (nI p)
      · rw [if_neg hh, hb_0] at hbx
        exact absurd hbx (by decide)
  · have e : ∀ j, ¬ j = 3 → lD 2 g a b c td j = td j := fun j hj => up_n hj
    exact GO_of h hC (e 1 (by omega)) (e 4 (by omega)) (fun j _ _ => e j (by omega)) (fun j _ _ => e j (by omega)) hf (vv hf (e 2 (by omega)))
  · have e : ∀ j, ¬ j = 5 → lD 3 g a b c td j = td j := fun j hj => up_n hj
    exact GO_of h hC (e 1 (by omega)) (e 4 (by omega)) (fun j _ _ => e j (by omega)) (fun j _ _ => e j (by omega)) hf (vv hf (e 2 (by omega)))
  · have e : ∀ j, ¬ j = 6 → lD 4 g a b c td j = td j := fun j hj => up_n hj
    exact GO_of h hC (e 1 (by omega)) (e 4 (by omega)) (fun j _ _ => e j (by omega)) (fun j _ _ => e j (by omega)) hf (vv hf (e 2 (by omega)))
  · have e : ∀ j, j ≤ 50 → lD 5 g a b c td j = td j := by
      intro j hj
      show (if g = true then upd (upd td (Int32.toNatClampNeg ((51 + 9 * a) + b)) c) (Int32.toNatClampNeg ((51 + 9 * b) + a)) c else td) j = td j
      split
      · next hh =>
        obtain ⟨p, rfl, -, hp, -⟩ := iv_nI (iv_hut (hg0 hh) (by decide +kernel)) (by decide)
        obtain ⟨q, rfl, -, hq, -⟩ := iv_nI (iv_hut (hg1 hh rfl) (by decide +kernel)) (by decide)
        rw [ix9, ix9, nI_clamp (by omega), nI_clamp (by omega), up_n (by omega), up_n (by omega)]
      · rfl
    exact GO_of h hC (e 1 (by omega)) (e 4 (by omega)) (fun j _ _ => e j (by omega)) (fun j _ _ => e j (by omega)) hf (vv hf (e 2 (by omega)))
  · have hl1 : a ≤ lH 6 a b fh := le_tr (gr_r fh a) (gr_l _ b)
    have hl2 : b ≤ lH 6 a b fh := gr_r _ b
    have ev : lD 6 g a b c td = (if td 4 = 4 then td else upd (upd (upd td 4 (td 4 + 1)) (Int32.toNatClampNeg (43 + 2 * td 4)) a) (Int32.toNatClampNeg (43 + 2 * td 4 + 1)) b) := rfl
    by_cases h9 : td 4 = 4
    · rw [if_pos h9] at ev
      rw [ev] at hC ⊢
      exact GO_of h hC rfl rfl (fun _ _ _ => rfl) (fun _ _ _ => rfl) hf (vv hf rfl)
    · rw [if_neg h9] at ev
      have hn : ¬ n4 = 4 := fun e => h9 (by rw [e4, e]; rfl)
      have hi : (43 : Int32) + 2 * nI n4 = nI (43 + 2 * n4) := by rw [show (43 : Int32) = nI 43 from rfl, show (2 : Int32) = nI 2 from rfl, pk_mul, nI_add]
      rw [e4, hi, nI_1 n4, nI_1 (43 + 2 * n4), nI_clamp (by omega), nI_clamp (by omega)] at ev
      rw [ev] at hC ⊢
      refine ⟨hC, fun s hs6 hl => ?_, fun k hk4 hl => ?_, vv hf (by rw [up_n (by omega), up_n (by omega), up_n (by omega)])⟩
      · rw [up_n (by omega), up_n (by omega), up_n (by omega)] at hl ⊢
        exact le_tr (h.2.1 s hs6 hl) hf
      · rw [up_n (by omega), up_n (by omega), up_s] at hl
        by_cases hkn : k = n4
        · subst hkn
          rw [up_n (by omega), up_s, show 44 + 2 * k = 43 + 2 * k + 1 by omega, up_s]
          exact ⟨hl1, hl2⟩
        · have hlt : nI k < td 4 := by
            rw [e4]
            have := (nI_ltI (by omega) (by omega)).mp hl
            exact nI_lt (by omega) (by omega)
          rw [up_n (by omega), up_n (by omega), up_n (by omega), up_n (by omega), up_n (by omega), up_n (by omega)]
          exact ⟨le_tr (h.2.2.1 k hk4 hlt).1 hf, le_tr (h.2.2.1 k hk4 hlt).2 hf⟩
  · have e : ∀ j, ¬ (16 ≤ j ∧ j ≤ 24) → lD 7 g a b c td j = td j := by
      intro j hj
      show (if g = true then upd td (Int32.toNatClampNeg (16 + a)) b else td) j = td j
      split
      · next hh =>
        obtain ⟨p, rfl, -, hp, -⟩ := iv_nI (iv_hut (hg0 hh) (by decide +kernel)) (by decide)
        rw [show (16 : Int32) + nI p = nI (16 + p) from jx 16 p, nI_clamp (by omega), up_n (by omega)]
      · rfl
    exact GO_of h hC (e 1 (by omega)) (e 4 (by omega)) (fun j _ _ => e j (by omega)) (fun j _ _ => e j (by omega)) hf (vv hf (e 2 (by omega)))
  · have hl1 : a ≤ lH 8 a b fh := gr_r fh a
    have ev : lD 8 g a b c td = (if td 1 = 6 then td else upd (upd (upd td 1 (td 1 + 1)) (Int32.toNatClampNeg (25 + td 1)) a) (Int32.toNatClampNeg (31 + td 1)) b) := rfl
    by_cases h9 : td 1 = 6
    · rw [if_pos h9] at ev
      rw [ev] at hC ⊢
      exact GO_of h hC rfl rfl (fun _ _ _ => rfl) (fun _ _ _ => rfl) hf (vv hf rfl)
    · rw [if_neg h9] at ev
      have hn : ¬ n1 = 6 := fun e => h9 (by rw [e1, e]; rfl)
      rw [e1, show (25 : Int32) + nI n1 = nI (25 + n1) from jx 25 n1, show (31 : Int32) + nI n1 = nI (31 + n1) from jx 31 n1, nI_1 n1, nI_clamp (by omega), nI_clamp (by omega)] at ev
      rw [ev] at hC ⊢
      refine ⟨hC, fun s hs6 hl => ?_, fun k hk4 hl => ?_, vv hf (by rw [up_n (by omega), up_n (by omega), up_n (by omega)])⟩
      · rw [up_n (by omega), up_n (by omega), up_s] at hl
        by_cases hsn : s = n1
        · subst hsn
          rw [up_n (by omega), up_s]
          exact hl1
        · have hlt : nI s < td 1 := by
            rw [e1]
            have := (nI_ltI (by omega) (by omega)).mp hl
            exact nI_lt (by omega) (by omega)
          rw [up_n (by omega), up_n (by omega), up_n (by omega)]
          exact le_tr (h.2.1 s hs6 hlt) hf
      · rw [up_n (by omega), up_n (by omega), up_n (by omega)] at hl
        rw [up_n (by omega), up_n (by omega), up_n (by omega), up_n (by omega), up_n (by omega), up_n (by omega)]
        exact ⟨le_tr (h.2.2.1 k hk4 hl).1 hf, le_tr (h.2.2.1 k hk4 hl).2 hf⟩
  · have e : ∀ j, ¬ (37 ≤ j ∧ j ≤ 42) → lD 9 g a b c td j = td j := by
      intro j hj
      show (if g = true then upd td (Int32.toNatClampNeg (37 + a)) (td (Int32.toNatClampNeg (37 + a)) ||| 1 <<< (b &&& 31)) else td) j = td j
      split
      · next hh =>
        have h5 : iv 0 5 a := iv_w (cW_iv (hg0 hh)) (by decide +kernel)
        obtain ⟨p, rfl, -, hp, -⟩ := iv_nI h5 (by decide)
        rw [show (37 : Int32) + nI p = nI (37 + p) from jx 37 p, nI_clamp (by omega), up_n (by omega)]
      · rfl
    exact GO_of h hC (e 1 (by omega)) (e 4 (by omega)) (fun j _ _ => e j (by omega)) (fun j _ _ => e j (by omega)) hf (vv hf (e 2 (by omega)))
theorem go_LO {B : Nat → Int32} {n : Nat} : ∀ m r fa pl td fh fs, r ≤ n → n < m + r → GO td fh → (go B n 0 m r fa pl td fh fs).1 = 0 → LOK (go B n 0 m r fa pl td fh fs).2.2 := by
  intro m
  induction m with
  | zero => intro r fa pl td fh fs hr hm; omega
  | succ m ih =>
    intro r fa pl td fh fs hr hm hG h0
    unfold go at h0 ⊢
    by_cases hk : tK B n r = 0
    · rw [if_pos hk] at h0 ⊢
      unfold fin4 at h0 ⊢
      by_cases h4 : fa = 0 ∧ 0 = 0 ∧ (td 0 ≤ fh ∨ td 1 ≤ fs)
      · rw [if_pos h4] at h0
        exact absurd (show (4 : Int32) = 0 from h0) (by decide)
      · rw [if_neg h4] at h0 ⊢
        have hlt : fh < td 0 := by
          rw [← Int32.not_le]
          intro h9
          exact h4 ⟨h0, rfl, Or.inl h9⟩
        exact ⟨fun s hs hl => lt_le3 (hG.2.1 s hs hl) hlt, fun k hk4 hl => ⟨lt_le3 (hG.2.2.1 k hk4 hl).1 hlt, lt_le3 (hG.2.2.1 k hk4 hl).2 hlt⟩, fun x hx hbx => lt_le3 (hG.2.2.2 x hx hbx) hlt⟩
    · rw [if_neg hk] at h0 ⊢
      by_cases h9 : lb B n r 0 = 9
      · rw [if_pos h9] at h0 ⊢
        have hw : wOf B n r 0 < 10 := by
          rcases wd_cases (B := B) (n := n) (r := r) (o := 0) (by omega) with ⟨e, _⟩ | ⟨_, hP⟩
          · unfold lb at h9
            rw [if_pos e] at h9
            omega
          · exact hP.2.1
        have hp1 := (ps_le (B := B) hr (nW (wOf B n r 0) + 2)).2
        have hp2 := ps_lt (B := B) hr hk (nW (wOf B n r 0) + 1)
        have hp3 : r + 1 ≤ ps B n r (nW (wOf B n r 0) + 2) := hp2
        exact ih _ _ _ _ _ _ hp1 (by omega) (GO_ln hw hG) h0
      · rw [if_neg h9] at h0
        exact absurd (show (1 : Int32) = 0 from h0) (by decide)
theorem tx_LO {B : Nat → Int32} {n : Nat} (h : (tx B n 0).1 = 0) : LOK (tx B n 0).2.2 := by
  unfold tx at h ⊢
  refine go_LO _ _ _ _ _ _ _ (Nat.zero_le _) (by omega) ⟨CB_ini (by omega) (fun _ _ => rfl), fun s hs hl => ?_, fun k hk hl => ?_, fun x _ hbx => by rw [show ini 0 2 = 0 from rfl, hb_0] at hbx; exact absurd hbx (by decide)⟩ h
  · exact absurd hl (nI_pos (by omega))
  · exact absurd hl (nI_pos (by omega))
theorem LOK_ext {td td' : Nat → Int32} (h : LOK td) (e : ∀ j, j < 132 → td' j = td j) : LOK td' := by
  refine ⟨fun s hs hl => ?_, fun k hk hl => ?_, fun x hx hbx => by rw [e 0 (by omega)]; rw [e 2 (by omega)] at hbx; exact h.2.2 x hx hbx⟩
  · rw [e 1 (by omega)] at hl
    rw [e _ (by omega), e 0 (by omega)]
    exact h.1 s hs hl
  · rw [e 4 (by omega)] at hl
    rw [e (43 + 2 * k) (by omega), e (44 + 2 * k) (by omega), e 0 (by omega)]
    exact h.2.1 k hk hl
/-- the lands of a slot are as told -/
def LKs (M : Nat → Nat → Int32) (s : Nat) : Prop := ∀ k : Nat, k < 2 → nI k < M 4 (4 * s) → LOK (fun j => M 5 (264 * s + 132 * k + j))
def LK (M : Nat → Nat → Int32) : Prop := LKs M 0 ∧ ∀ j, j < 3 → ¬ M 9 j = 0 → LKs M (j + 1)
theorem LKs_mv {M M' : Nat → Nat → Int32} {s s' : Nat} (h : ∀ c, c < 9 → ∀ i, i < wR c → M' c (wR c * s' + i) = M c (wR c * s + i)) (hT : LKs M s) : LKs M' s' := by
  intro k hk hl
  have e4 : M' 4 (4 * s') = M 4 (4 * s) := h 4 (by omega) 0 (by decide)
  rw [e4] at hl
  refine LOK_ext (hT k hk hl) (fun j hj => ?_)
  have g := h 5 (by omega) (132 * k + j) (by show 132 * k + j < 264; omega)
  have w5 : wR 5 = 264 := rfl
  rw [w5] at g
  show M' 5 (264 * s' + 132 * k + j) = M 5 (264 * s + 132 * k + j)
  rw [Nat.add_assoc, Nat.add_assoc]
  exact g
theorem LK_eq {M M' : Nat → Nat → Int32} (h : ∀ i, i < 10 → 2 ≤ i → M' i = M i) (hK : LK M) : LK M' := by
  refine ⟨fun k hk hl => ?_, fun j hj hn k hk hl => ?_⟩
  · rw [h 4 (by omega) (by omega)] at hl
    rw [h 5 (by omega) (by omega)]
    exact hK.1 k hk hl
  · rw [h 9 (by omega) (by omega)] at hn
    rw [h 4 (by omega) (by omega)] at hl
    rw [h 5 (by omega) (by omega)]
    exact hK.2 j hj hn k hk hl
theorem LK_fd {M M' : Nat → Nat → Int32} {a b c d e r : Int32} (h : mFD M M' a b c d e r) (hK : LK M) : LK M' := LK_eq (fun i h1 h2 => h.1.1 i h2 h1) hK
theorem LK_en {M M' : Nat → Nat → Int32} {a r : Int32} (h : mEN M M' a r) (hK : LK M) : LK M' := LK_eq (fun i h1 h2 => h.1.1 i h2 h1) hK
theorem LK_im {M M' : Nat → Nat → Int32} {a r : Int32} (h : mIM M M' a r) (hK : LK M) : LK M' := by
  by_cases hj : imJ a
  · obtain ⟨k, hk, e⟩ := imJ_nI.mp hj
    obtain ⟨_, hc, h1, hs⟩ := h.2 k hk e
    refine ⟨LKs_mv (mCP_out hc (by omega)) hK.1, fun j hj3 hn => ?_⟩
    by_cases hjk : j = k
    · subst hjk
      exact LKs_mv (fun c hc9 i hi => (hc c hc9).1 i hi) hK.1
    · rw [hs j hjk] at hn
      exact LKs_mv (mCP_out hc (by omega)) (hK.2 j hj3 hn)
  · exact LK_eq (fun i h1 _ => (h.1 hj).2 i h1) hK
theorem LK_ag {M M' : Nat → Nat → Int32} {a r : Int32} (h : mAG M M' a r) (hK : LK M) : LK M' := by
  by_cases hx : ∃ k, k < 3 ∧ a = nI k ∧ ¬ M 9 k = 0
  · obtain ⟨k, hk, e, hn⟩ := hx
    obtain ⟨_, hc, h9⟩ := h.2 k hk e hn
    refine ⟨LKs_mv (fun c hc9 i hi => (hc c hc9).1 i hi) (hK.2 k hk hn), fun j hj3 hn2 => ?_⟩
    rw [h9] at hn2
    exact LKs_mv (mCP_out hc (by omega)) (hK.2 j hj3 hn2)
  · exact LK_eq (fun i h1 _ => (h.1 hx).2 i h1) hK
theorem LK_tx {M M' : Nat → Nat → Int32} {a1 a2 r : Int32} (h : mTX M M' a1 a2 r) (hc : ∀ o, o < 4 → iv 0 2 (M 4 o)) (hK : LK M) : LK M' := by
  obtain ⟨m0, m9, ml, ms, mn, my⟩ := h
  have stay : (∀ i, 4 ≤ i → i < 9 → M' i = M i) → LK M' := by
    intro h
    refine ⟨fun k hk hl => ?_, fun j hj hn k hk hl => ?_⟩
    · rw [h 4 (by omega) (by omega)] at hl
      rw [h 5 (by omega) (by omega)]
      exact hK.1 k hk hl
    · rw [m9] at hn
      rw [h 4 (by omega) (by omega)] at hl
      rw [h 5 (by omega) (by omega)]
      exact hK.2 j hj hn k hk hl
  by_cases hx : ∃ o k, o < 4 ∧ k < 2 ∧ a1 = nI o ∧ NUM (M 4 o) a2 k
  · obtain ⟨o, k, ho, hk, e, hN⟩ := hx
    obtain ⟨_, _, hf, hg⟩ := my o k ho hk e hN
    by_cases h0 : (MXr M o).1 = 0
    · obtain ⟨_, e4, ein, eout, eo⟩ := hg h0
      by_cases ho0 : o = 0
      · subst ho0
        have w0 : wD 0 = 132 := rfl
        rw [w0] at ein eout
        refine ⟨fun k' hk' hl => ?_, fun j hj hn k' hk' hl => ?_⟩
        · by_cases hkk : k' = k
          · subst hkk
            refine LOK_ext (tx_LO h0) (fun j hj => ?_)
            have g := ein j hj
            show M' 5 (264 * 0 + 132 * k' + j) = _
            rw [Nat.mul_zero, Nat.zero_add]
            exact g
          · have hlt : nI k' < M 4 (4 * 0) := by
              rw [e4, up_s] at hl
              unfold cmx at hl
              obtain ⟨c, ec, -, hc2, -⟩ := iv_nI (hc 0 (by omega)) (by decide)
              show nI k' < M 4 0
              rw [ec] at hl ⊢
              rcases hN with ⟨_, q⟩ | ⟨_, _, q⟩
              · rw [ec] at q
                have : c = k := (nI_eq (by omega) (by omega)).mp q
                subst this
                rw [nI_1, if_pos (nI_lt (by omega) (by omega))] at hl
                have := (nI_ltI (by omega) (by omega)).mp hl
                exact nI_lt (by omega) (by omega)
              · rw [ec] at q
                have := (nI_ltI (by omega) (by omega)).mp q
                rw [nI_1, if_neg (fun h9 => by have := (nI_ltI (by omega) (by omega)).mp h9; omega)] at hl
                exact hl
            refine LOK_ext (hK.1 k' hk' hlt) (fun j hj => ?_)
            show M' 5 (264 * 0 + 132 * k' + j) = M 5 (264 * 0 + 132 * k' + j)
            exact eout _ (by omega)
        · rw [m9] at hn
          have e44 : M' 4 (4 * (j + 1)) = M 4 (4 * (j + 1)) := by rw [e4, up_n (by omega)]
          rw [e44] at hl
          refine LOK_ext (hK.2 j hj hn k' hk' hl) (fun i hi => ?_)
          show M' 5 (264 * (j + 1) + 132 * k' + i) = M 5 (264 * (j + 1) + 132 * k' + i)
          exact eout _ (by omega)
      · have e5 : M' 5 = M 5 := eo 5 (by omega) (by omega) (by omega)
        refine ⟨fun k' hk' hl => ?_, fun j hj hn k' hk' hl => ?_⟩
        · rw [e4, up_n (by omega)] at hl
          rw [e5]
          exact hK.1 k' hk' hl
        · rw [m9] at hn
          rw [e4, up_n (by omega)] at hl
          rw [e5]
          exact hK.2 j hj hn k' hk' hl
    · exact stay (hf h0).2
  · exact stay (mn hx).2.2.2
/-- land k of the reference's rows is as told -/
theorem LK_row {M : Nat → Nat → Int32} {k : Nat} (hK : LK M) (hk : k < 2) (hl : nI k < M 4 0) : LOK (rowM M 0 (nI k)) := by
  refine LOK_ext (hK.1 k hk hl) (fun j hj => ?_)
  unfold rowM
  rw [nI_clamp (by omega)]
  show M 5 (132 * k + j) = M 5 (264 * 0 + 132 * k + j)
  rw [Nat.mul_zero, Nat.zero_add]
/-- what all calls keep: both sides are told alike, lands as told -/
def RG (T : TT) (M : Nat → Nat → Int32) (I : Nat → TT) (mi : Nat → Option Nat) : Prop := RF T M I mi ∧ LK M
theorem RG_fd {T T' : TT} {M M' : Nat → Nat → Int32} {I : Nat → TT} {mi : Nat → Option Nat} {a b c d e r1 r2 : Int32} (h : RG T M I mi) (hB : tB T) (hI : tBI I mi) (h1 : xFD T T' a b c d e r1) (h2 : mFD M M' a b c d e r2) : r1 = r2 ∧ RG T' M' I mi := ⟨(RF_fd h.1 hB hI h1 h2).1, (RF_fd h.1 hB hI h1 h2).2, LK_fd h2 h.2⟩
theorem RG_en {T T' : TT} {M M' : Nat → Nat → Int32} {I : Nat → TT} {mi : Nat → Option Nat} {a r1 r2 : Int32} (h : RG T M I mi) (hB : tB T) (hI : tBI I mi) (h1 : xEN T T' a r1) (h2 : mEN M M' a r2) : r1 = r2 ∧ RG T' M' I mi := ⟨(RF_en h.1 hB hI h1 h2).1, (RF_en h.1 hB hI h1 h2).2, LK_en h2 h.2⟩
theorem RG_im {T : TT} {M M' : Nat → Nat → Int32} {I I' : Nat → TT} {mi mi' : Nat → Option Nat} {a r1 r2 : Int32} (h : RG T M I mi) (hB : tB T) (hI : tBI I mi) (h1 : xIM mi mi' I I' T a r1) (h2 : mIM M M' a r2) : r1 = r2 ∧ RG T M' I' mi' := ⟨(RF_im h.1 hB hI h1 h2).1, (RF_im h.1 hB hI h1 h2).2, LK_im h2 h.2⟩
theorem RG_ag {T T' : TT} {M M' : Nat → Nat → Int32} {I : Nat → TT} {mi : Nat → Option Nat} {a r1 r2 : Int32} (h : RG T M I mi) (hB : tB T) (hI : tBI I mi) (h1 : xAG mi I T T' a r1) (h2 : mAG M M' a r2) : r1 = r2 ∧ RG T' M' I mi := ⟨(RF_ag h.1 hB hI h1 h2).1, (RF_ag h.1 hB hI h1 h2).2, LK_ag h2 h.2⟩
theorem RG_tx {T T' : TT} {M M' : Nat → Nat → Int32} {I : Nat → TT} {mi : Nat → Option Nat} {a1 a2 r1 r2 : Int32} (h : RG T M I mi) (hB : tB T) (hB' : tB T') (hI : tBI I mi) (h1 : xTX T T' a1 a2 r1) (h2 : mTX M M' a1 a2 r2) : r1 = r2 ∧ RG T' M' I mi := ⟨(RF_tx h.1 hB hB' hI h1 h2).1, (RF_tx h.1 hB hB' hI h1 h2).2, LK_tx h2 (fun o ho => by rw [TM_cnt h.1.1 o ho]; exact hB.2.2.1 o) h.2⟩
end
section
def ANc (M : Nat → Nat → Int32) (a b : Int32) : Prop := (0 ≤ a ∧ a < M 4 0) ∧ (0 ≤ b ∧ b < M 4 1)
def PL (M : Nat → Nat → Int32) (a b : Int32) (n : Nat) : Nat × (Nat → Nat → Int32) := plays (rowM M 0 a) (rowM M 1 b) n 0 (S0 (rowM M 0 a))
def AN_stop (M : Nat → Nat → Int32) (a b : Int32) : Int32 := if (0 ≤ a ∧ a < M 4 0) ∧ (0 ≤ b ∧ b < M 4 1) then nI (PL M a b (cN (rowM M 1 b 0))).1 else -1
theorem RNG_M {M : Nat → Nat → Int32} {k : Nat} (hL : mLand (M 5)) (hk : k < 2) : RNG (rowM M 0 (nI k)) := fun j hj => row_iv hL hk hj
theorem ev0_iv {M : Nat → Nat → Int32} {e : Nat} (hE : mEve (M 6)) (he : e < 2) : iv 0 40 (rowM M 1 (nI e) 0) := by
  have g := (hE e (by omega)).1
  unfold rowM
  rw [nI_clamp (by omega)]
  exact g
theorem e_deedsM {M : Nat → Nat → Int32} {e : Nat} {post : Int32 → Prop} (he : e < 2) (hp : post (rowM M 1 (nI e) 0)) : q_m_deeds_0 (M 6) (nI e) post := by
  have e9 : (121 : Int32) * nI e = nI (121 * e) := pk_mul 121 e
  refine ⟨by rw [e9]; exact vp_in_nI (by omega) (by omega), ?_⟩
  unfold rowM at hp
  rw [nI_clamp (by omega)] at hp
  rw [e9, nI_clamp (by omega)]
  exact hp
theorem e_layAllM {M : Nat → Nat → Int32} {ld hu si ev a b : Int32} {post : Int32 → Int32 → Int32 → Int32 → Int32 → Prop} (hc : ∀ o, iv 0 2 (M 4 o)) (h0 : ¬ ((0 ≤ a ∧ a < M 4 0) ∧ (0 ≤ b ∧ b < M 4 1)) → ∀ x y z w, post 0 x y z w) (h1 : ∀ k e, k < 2 → e < 2 → a = nI k → b = nI e → (0 ≤ a ∧ a < M 4 0) → (0 ≤ b ∧ b < M 4 1) → post 1 (nI k) (tdM M k 0) (tdM M k 1) (nI e)) : q_m_layAll_0 (M 4) (M 5) ld hu si ev a b post := by
  refine e_is (o := 1) (by omega) (hc 1) (fun hn => ⟨rfl, iz (h0 (fun h9 => hn h9.2) _ _ _ _)⟩) (fun hy => ⟨rfl, oi ?_⟩)
  refine e_hand (hc 0) (fun hn => iz (h0 (fun h9 => hn h9.1) _ _ _ _)) (fun k hk ea hy0 => oi ?_)
  obtain ⟨e, he, eb⟩ := lt_nI (m := 2) (hc 1) hy
  have h2 := h1 k e hk he ea eb hy0 hy
  rw [← eb] at h2
  exact h2

theorem e_m_stop {M : Nat → Nat → Int32} {cd ld hu si ev be mi av a b : Int32} {at_ kn cl sn lv : Nat → Int32} {post : Int32 → Int32 → Int32 → Int32 → Int32 → Int32 → (Nat → Int32) → (Nat → Int32) → (Nat → Int32) → (Nat → Int32) → (Nat → Int32) → Int32 → Int32 → Int32 → Prop} (hc : ∀ o, iv 0 2 (M 4 o)) (hL : mLand (M 5)) (hE : mEve (M 6)) (hK : LK M) (hp : ∀ x1 x2 x3 x4 x5 x6 x7 x8 x9 x10 x11 x12 x13, post (AN_stop M a b) x1 x2 x3 x4 x5 x6 x7 x8 x9 x10 x11 x12 x13) : q_m_stop_0 cd (M 4) (M 5) (M 6) ld hu si ev at_ kn cl sn lv be mi av a b post := by
  unfold AN_stop at hp
  refine e_layAllM hc (fun hn x y z w => iz ?_) (fun k e hk he ea eb h1 h2 => oi ?_)
  · rw [if_neg hn] at hp
    exact hp _ _ _ _ _ _ _ _ _ _ _ _ _
  · rw [if_pos ⟨h1, h2⟩, ea, eb] at hp
    refine e_deedsM he ?_
    obtain ⟨c, ec, -, hc40, -⟩ := iv_nI (ev0_iv hE he) (by decide)
    rw [ec] at hp ⊢
    rw [cN_nI (by omega)] at hp
    exact e_playM hk he (by omega) hL hE (LK_row hK hk (by rw [← ea]; exact h1.2)) (fun S' hS => hp _ _ _ _ _ _ _ _ _ _ _ _ _)
set_option maxRecDepth 40000 in
set_option maxHeartbeats 4000000 in
theorem e_x_stop {T : TT} {M : Nat → Nat → Int32} {nf_minute nf_avalanches nf_begun nf_climbed a b : Int32} {na_huts na_known na_levels na_snow : Nat → Int32} {post : Int32 → (Int32) → (Int32) → (Int32) → (Int32) → (Nat → Int32) → (Nat → Int32) → (Nat → Int32) → (Nat → Int32) → Prop} (h : TM T M 0) (hB : tB T) (hK : LK M) (hL : mLand (M 5)) (hE : mEve (M 6)) (hp : ∀ z0 z1 z2 z3 z4 z5 z6 z7, post (AN_stop M a b) z0 z1 z2 z3 z4 z5 z6 z7) : q_wx_X10_stop_0 (T.2 1) (T.1 3) (T.1 4) (T.1 6) (T.1 7) (T.1 8) (T.2 2) (T.2 3) (T.2 4) (T.2 5) (T.2 6) (T.2 7) (T.2 8) (T.2 9) (T.1 10) (T.1 11) (T.1 13) (T.1 14) (T.1 15) (T.2 10) (T.2 11) (T.2 12) (T.2 13) (T.2 14) (T.2 15) (T.2 16) (T.2 17) (T.1 17) (T.2 18) (T.2 19) (T.2 20) (T.1 18) (T.2 21) (T.2 22) (T.2 23) nf_minute nf_avalanches nf_begun nf_climbed na_huts na_known na_levels na_snow a b post := by
  unfold AN_stop at hp
  rw [TM_cnt h 0 (by decide), TM_cnt h 1 (by decide)] at hp
  refine e_at (hB.2.2.1 0) (fun (hn : ¬ (0 ≤ a ∧ a < T.2 1 0)) => ?_) (fun ea hla => ?_) (fun ea hla => ?_)
  · rw [if_neg (fun h9 => hn h9.1)] at hp
    refine ⟨fun _ => ?_, fun h9 => absurd h9 (by decide), fun h9 => absurd rfl h9⟩
    refine e_at (hB.2.2.1 1) (fun (hm : ¬ (0 ≤ b ∧ b < T.2 1 1)) => ?_) (fun eb hlb => ?_) (fun eb hlb => ?_)
    · exact ⟨fun _ => hp _ _ _ _ _ _ _ _, fun h9 => absurd h9 (by decide), fun h9 => absurd rfl h9⟩
    · exact ⟨fun h9 => absurd h9 (by decide), fun h9 => absurd h9 (by decide), fun _ _ => hp _ _ _ _ _ _ _ _⟩
    · exact ⟨fun h9 => absurd h9 (by decide), fun _ => hp _ _ _ _ _ _ _ _, fun _ h9 => absurd rfl h9⟩
  · refine ⟨fun h9 => absurd h9 (by decide), fun h9 => absurd h9 (by decide), fun _ _ => ?_⟩
    refine e_at (hB.2.2.1 1) (fun (hm : ¬ (0 ≤ b ∧ b < T.2 1 1)) => ?_) (fun eb hlb => ?_) (fun eb hlb => ?_)
    · rw [if_neg (fun h9 => hm h9.2)] at hp
      exact ⟨fun _ => hp _ _ _ _ _ _ _ _, fun h9 => absurd h9 (by decide), fun h9 => absurd rfl h9⟩
    · rw [if_pos (by rw [ea, eb]; exact ⟨⟨by decide, hla⟩, by decide, hlb⟩), ea, eb] at hp
      have hLD : LDR (T.1 3) (T.1 4) (T.1 5) (T.1 6) (T.1 7) (T.1 8) (T.1 9) (T.2 2) (T.2 3) (T.2 4) (T.2 5) (T.2 6) (T.2 7) (T.2 8) (T.2 9) (rowM M 0 (nI 0)) := TM_sl h 0 0 (by decide) (by decide) hla
      have hEV : R3 (T.1 17) (T.2 18) (T.2 19) (T.2 20) (rowM M 1 (nI 0)) := TM_sl h 1 0 (by decide) (by decide) hlb
      have hOK : LOK (rowM M 0 (nI 0)) := LK_row hK (by decide) (by rw [TM_cnt h 0 (by decide)]; exact hla)
      refine ⟨fun h9 => absurd h9 (by decide), fun h9 => absurd h9 (by decide), fun _ _ => ?_⟩
      obtain ⟨c, ec, -, hc40, -⟩ := iv_nI (ev0_iv hE (e := 0) (by decide)) (by decide)
      have edc : (T.1 17) = nI c := hEV.1.trans ec
      rw [ec, cN_nI (by omega)] at hp
      exact e_playX (n := c) (RNG_M hL (by decide)) hOK hLD hEV (ev0_iv hE (by decide)) (fun j hj => (eve_iv hE (by decide) hj).1) edc (by rw [edc]; exact le_rf _) (by omega) (fun _ _ _ _ _ _ _ _ _ => hp _ _ _ _ _ _ _ _)
    · rw [if_pos (by rw [ea, eb]; exact ⟨⟨by decide, hla⟩, by decide, hlb⟩), ea, eb] at hp
      have hLD : LDR (T.1 3) (T.1 4) (T.1 5) (T.1 6) (T.1 7) (T.1 8) (T.1 9) (T.2 2) (T.2 3) (T.2 4) (T.2 5) (T.2 6) (T.2 7) (T.2 8) (T.2 9) (rowM M 0 (nI 0)) := TM_sl h 0 0 (by decide) (by decide) hla
      have hEV : R3 (T.1 18) (T.2 21) (T.2 22) (T.2 23) (rowM M 1 (nI 1)) := TM_sl h 1 1 (by decide) (by decide) hlb
      have hOK : LOK (rowM M 0 (nI 0)) := LK_row hK (by decide) (by rw [TM_cnt h 0 (by decide)]; exact hla)
      refine ⟨fun h9 => absurd h9 (by decide), fun _ => ?_, fun _ h9 => absurd rfl h9⟩
      obtain ⟨c, ec, -, hc40, -⟩ := iv_nI (ev0_iv hE (e := 1) (by decide)) (by decide)
      have edc : (T.1 18) = nI c := hEV.1.trans ec
      rw [ec, cN_nI (by omega)] at hp
      exact e_playX (n := c) (RNG_M hL (by decide)) hOK hLD hEV (ev0_iv hE (by decide)) (fun j hj => (eve_iv hE (by decide) hj).1) edc (by rw [edc]; exact le_rf _) (by omega) (fun _ _ _ _ _ _ _ _ _ => hp _ _ _ _ _ _ _ _)
  · refine ⟨fun h9 => absurd h9 (by decide), fun _ => ?_, fun _ h9 => absurd rfl h9⟩
    refine e_at (hB.2.2.1 1) (fun (hm : ¬ (0 ≤ b ∧ b < T.2 1 1)) => ?_) (fun eb hlb => ?_) (fun eb hlb => ?_)
    · rw [if_neg (fun h9 => hm h9.2)] at hp
      exact ⟨fun _ => hp _ _ _ _ _ _ _ _, fun h9 => absurd h9 (by decide), fun h9 => absurd rfl h9⟩
    · rw [if_pos (by rw [ea, eb]; exact ⟨⟨by decide, hla⟩, by decide, hlb⟩), ea, eb] at hp
      have hLD : LDR (T.1 10) (T.1 11) (T.1 12) (T.1 13) (T.1 14) (T.1 15) (T.1 16) (T.2 10) (T.2 11) (T.2 12) (T.2 13) (T.2 14) (T.2 15) (T.2 16) (T.2 17) (rowM M 0 (nI 1)) := TM_sl h 0 1 (by decide) (by decide) hla
      have hEV : R3 (T.1 17) (T.2 18) (T.2 19) (T.2 20) (rowM M 1 (nI 0)) := TM_sl h 1 0 (by decide) (by decide) hlb
      have hOK : LOK (rowM M 0 (nI 1)) := LK_row hK (by decide) (by rw [TM_cnt h 0 (by decide)]; exact hla)
      refine ⟨fun h9 => absurd h9 (by decide), fun h9 => absurd h9 (by decide), fun _ _ => ?_⟩
      obtain ⟨c, ec, -, hc40, -⟩ := iv_nI (ev0_iv hE (e := 0) (by decide)) (by decide)
      have edc : (T.1 17) = nI c := hEV.1.trans ec
      rw [ec, cN_nI (by omega)] at hp
      exact e_playX (n := c) (RNG_M hL (by decide)) hOK hLD hEV (ev0_iv hE (by decide)) (fun j hj => (eve_iv hE (by decide) hj).1) edc (by rw [edc]; exact le_rf _) (by omega) (fun _ _ _ _ _ _ _ _ _ => hp _ _ _ _ _ _ _ _)
    · rw [if_pos (by rw [ea, eb]; exact ⟨⟨by decide, hla⟩, by decide, hlb⟩), ea, eb] at hp
      have hLD : LDR (T.1 10) (T.1 11) (T.1 12) (T.1 13) (T.1 14) (T.1 15) (T.1 16) (T.2 10) (T.2 11) (T.2 12) (T.2 13) (T.2 14) (T.2 15) (T.2 16) (T.2 17) (rowM M 0 (nI 1)) := TM_sl h 0 1 (by decide) (by decide) hla
      have hEV : R3 (T.1 18) (T.2 21) (T.2 22) (T.2 23) (rowM M 1 (nI 1)) := TM_sl h 1 1 (by decide) (by decide) hlb
      have hOK : LOK (rowM M 0 (nI 1)) := LK_row hK (by decide) (by rw [TM_cnt h 0 (by decide)]; exact hla)
      refine ⟨fun h9 => absurd h9 (by decide), fun _ => ?_, fun _ h9 => absurd rfl h9⟩
      obtain ⟨c, ec, -, hc40, -⟩ := iv_nI (ev0_iv hE (e := 1) (by decide)) (by decide)
      have edc : (T.1 18) = nI c := hEV.1.trans ec
      rw [ec, cN_nI (by omega)] at hp
      exact e_playX (n := c) (RNG_M hL (by decide)) hOK hLD hEV (ev0_iv hE (by decide)) (fun j hj => (eve_iv hE (by decide) hj).1) edc (by rw [edc]; exact le_rf _) (by omega) (fun _ _ _ _ _ _ _ _ _ => hp _ _ _ _ _ _ _ _)
end
section
/-- how many are below n -/
def cntB (p : Nat → Bool) : Nat → Nat
  | 0 => 0
  | n + 1 => cntB p n + (if p n = true then 1 else 0)
theorem cnt_le (p : Nat → Bool) : ∀ n, cntB p n ≤ n
  | 0 => Nat.le_refl 0
  | n + 1 => by
    have := cnt_le p n
    show cntB p n + (if p n = true then 1 else 0) ≤ n + 1
    split <;> omega
theorem cnt_ext {p q : Nat → Bool} : ∀ n, (∀ k, k < n → p k = q k) → cntB p n = cntB q n
  | 0, _ => rfl
  | n + 1, h => by
    show cntB p n + _ = cntB q n + _
    rw [cnt_ext n (fun k hk => h k (by omega)), h n (by omega)]
theorem cnt_mono {p q : Nat → Bool} : ∀ n, (∀ k, k < n → p k = true → q k = true) → cntB p n ≤ cntB q n
  | 0, _ => Nat.le_refl 0
  | n + 1, h => by
    have := cnt_mono n (fun k hk => h k (by omega))
    show cntB p n + (if p n = true then 1 else 0) ≤ cntB q n + (if q n = true then 1 else 0)
    by_cases hp : p n = true
    · rw [if_pos hp, if_pos (h n (by omega) hp)]; omega
    · rw [if_neg hp]; omega
theorem cnt_lt {p q : Nat → Bool} : ∀ n, (∀ k, k < n → p k = true → q k = true) → (∃ k, k < n ∧ q k = true ∧ p k = false) → cntB p n + 1 ≤ cntB q n
  | 0, _, ⟨k, hk, _⟩ => absurd hk (Nat.not_lt_zero k)
  | n + 1, h, ⟨k, hk, hq, hp⟩ => by
    show cntB p n + (if p n = true then 1 else 0) + 1 ≤ cntB q n + (if q n = true then 1 else 0)
    by_cases e : k = n
    · subst e
      have := cnt_mono k (fun j hj => h j (by omega))
      rw [if_pos hq, if_neg (by rw [hp]; decide)]
      omega
    · have := cnt_lt n (fun j hj => h j (by omega)) ⟨k, by omega, hq, hp⟩
      by_cases hpn : p n = true
      · rw [if_pos hpn, if_pos (h n (by omega) hpn)]; omega
      · rw [if_neg hpn]; omega
theorem cnt_tr {p : Nat → Bool} {c : Nat} : ∀ n, c ≤ n → cntB (fun o => decide (o < c) && p o) n = cntB p c
  | 0, h => by
    have : c = 0 := by omega
    subst this
    rfl
  | n + 1, h => by
    by_cases e : c = n + 1
    · subst e
      exact cnt_ext (n + 1) (fun k hk => by rw [decide_eq_true hk, Bool.true_and])
    · show cntB (fun o => decide (o < c) && p o) n + (if (decide (n < c) && p n) = true then 1 else 0) = cntB p c
      rw [cnt_tr n (by omega), decide_eq_false (by omega), Bool.false_and, if_neg (by decide)]
      rfl
/-- the set of those below n -/
def mkB (p : Nat → Bool) : Nat → Int32
  | 0 => 0
  | n + 1 => mkB p n ||| (if p n = true then bitI n else 0)
theorem bit32_tab : ((List.range 31).all fun i => (List.range 32).all fun k => hb (bitI i) k == decide (i = k)) = true := by decide +kernel
theorem hb_b32 {i k : Nat} (hi : i < 31) (hk : k < 32) : hb (bitI i) k = decide (i = k) := by
  have h := List.all_eq_true.mp (List.all_eq_true.mp bit32_tab i (List.mem_range.mpr hi)) k (List.mem_range.mpr hk)
  exact eq_of_beq h
theorem hb_mkB {p : Nat → Bool} {k : Nat} (hk : k < 32) : ∀ n, n ≤ 31 → hb (mkB p n) k = (decide (k < n) && p k)
  | 0, _ => by
    show hb 0 k = _
    rw [hb_0, decide_eq_false (Nat.not_lt_zero k)]; rfl
  | n + 1, hn => by
    show hb (mkB p n ||| _) k = _
    rw [hb_or, hb_mkB hk n (by omega)]
    by_cases e : k = n
    · subst e
      rw [decide_eq_false (Nat.lt_irrefl k), Bool.false_and, Bool.false_or, decide_eq_true (Nat.lt_succ_self k), Bool.true_and]
      by_cases hp : p k = true
      · rw [if_pos hp, hb_b32 (by omega) hk, hp, decide_eq_true rfl]
      · rw [if_neg hp, hb_0]
        rw [Bool.not_eq_true] at hp
        exact hp.symm
    · have e1 : hb (if p n = true then bitI n else 0) k = false := by
        split
        · rw [hb_b32 (by omega) hk, de_ne e]
        · exact hb_0 k
      rw [e1, Bool.or_false]
      by_cases h : k < n
      · rw [decide_eq_true h, decide_eq_true (by omega)]
      · rw [decide_eq_false h, decide_eq_false (by omega)]
theorem hb_eq {s t : Int32} (h : ∀ k, k < 32 → hb s k = hb t k) : s = t := by
  apply Int32.toBitVec_inj.mp
  apply BitVec.eq_of_getLsbD_eq
  intro i hi
  exact h i hi
theorem mkB_ext {p q : Nat → Bool} : ∀ n, (∀ k, k < n → p k = q k) → mkB p n = mkB q n
  | 0, _ => rfl
  | n + 1, h => by
    show mkB p n ||| _ = mkB q n ||| _
    rw [mkB_ext n (fun k hk => h k (by omega)), h n (by omega)]
theorem mkB_iv {p : Nat → Bool} : ∀ n, n ≤ 9 → iv 0 511 (mkB p n)
  | 0, _ => iv_lit (l := 0) (h := 511) (x := 0) (by decide)
  | n + 1, h => by
    have hb9 : ∀ n, n < 9 → iv 0 511 (bitI n) := by
      intro n hn
      have : n = 0 ∨ n = 1 ∨ n = 2 ∨ n = 3 ∨ n = 4 ∨ n = 5 ∨ n = 6 ∨ n = 7 ∨ n = 8 := by omega
      rcases this with rfl | rfl | rfl | rfl | rfl | rfl | rfl | rfl | rfl <;> exact iv_lit (by decide)
    have h2 : iv 0 511 (if p n = true then bitI n else 0) := by
      split
      · exact hb9 n (by omega)
      · exact iv_lit (by decide)
    exact iv_or 9 (mkB_iv n (by omega)) h2 (by decide)
theorem or_0 (x : Int32) : x ||| 0 = x := by
  apply hb_eq
  intro k hk
  rw [hb_or, hb_0, Bool.or_false]
/-- bitCount -/
def bcF (x0 : Int32) : Int32 :=
  let v1 := x0 - ((Int32.toUInt32 x0 >>> (Int32.toUInt32 1 &&& Int32.toUInt32 31)).toInt32 &&& 1431655765)
  let v2 := (v1 &&& 858993459) + ((Int32.toUInt32 v1 >>> (Int32.toUInt32 2 &&& Int32.toUInt32 31)).toInt32 &&& 858993459)
  let v3 := (v2 + (Int32.toUInt32 v2 >>> (Int32.toUInt32 4 &&& Int32.toUInt32 31)).toInt32) &&& 252645135
  let v4 := v3 + (Int32.toUInt32 v3 >>> (Int32.toUInt32 8 &&& Int32.toUInt32 31)).toInt32
  let v5 := v4 + (Int32.toUInt32 v4 >>> (Int32.toUInt32 16 &&& Int32.toUInt32 31)).toInt32
  v5 &&& 63
theorem bc_tab : ((List.range 512).all fun n => bcF (nI n) == nI (cntB (hb (nI n)) 9)) = true := by decide +kernel
theorem e_bc {s : Int32} {post : Int32 → Prop} (hs : iv 0 511 s) (hp : post (nI (cntB (hb s) 9))) : q_z_J6_bitCount_0f7a4_0 s post := by
  intro v1 e1 v2 e2 v3 e3 v4 e4 v5 e5
  obtain ⟨n, rfl, -, hn, -⟩ := iv_nI hs (by decide)
  have h : bcF (nI n) = nI (cntB (hb (nI n)) 9) := eq_of_beq (List.all_eq_true.mp bc_tab n (List.mem_range.mpr (by omega)))
  rw [← h] at hp
  subst e1 e2 e3 e4 e5
  exact hp
theorem e_onesM {s : Int32} {post : Int32 → Prop} (hp : post (nI (cntB (hb s) 9))) : q_m_ones_0 s post := by
  intro P hP
  have loop : ∀ m j, m = 9 - j → j ≤ 9 → P (nI (cntB (hb s) j)) (nI j) := by
    intro m
    induction m using Nat.strongRecOn with
    | ind m ih =>
      intro j hm hj
      apply hP
      refine pk_le 9 j (fun h9 => ?_) (fun h9 => ?_)
      · rw [show j = 9 by omega]; exact hp
      · have nx : ∀ y : Int32, nI (cntB (hb s) j) + y = nI (cntB (hb s) (j + 1)) → q_m_ones_24 P s (nI j) (nI (cntB (hb s) j)) y post := by
          intro y hy v e v2 e2
          rw [e, e2, hy, nI_1]
          exact ih (9 - (j + 1)) (by omega) (j + 1) rfl (by omega)
        have e : cntB (hb s) (j + 1) = cntB (hb s) j + (if hb s j = true then 1 else 0) := rfl
        refine e_hasM (by omega) (fun h0 => iz (nx 0 ?_)) (fun h1 => oi (nx 1 ?_))
        · rw [e, if_neg (by rw [h0]; decide)]; exact Int32.add_zero _
        · rw [e, if_pos h1, nI_1]
  exact loop _ 0 rfl (by omega)
/-- the least set that holds f and is closed under E -/
noncomputable def clB (E : Nat → Nat → Bool) (n f h : Nat) : Bool := @decide (∀ C : Nat → Bool, C f = true → (∀ a b, a < n → b < n → C a = true → E a b = true → C b = true) → C h = true) (Classical.propDecidable _)
theorem cl_eq {E : Nat → Nat → Bool} {n f : Nat} {S : Nat → Bool} (h1 : S f = true) (h2 : ∀ a b, a < n → b < n → S a = true → E a b = true → S b = true) (h3 : ∀ C : Nat → Bool, C f = true → (∀ a b, a < n → b < n → C a = true → E a b = true → C b = true) → ∀ h, h < n → S h = true → C h = true) (h : Nat) (hh : h < n) : S h = clB E n f h := by
  unfold clB
  by_cases hs : S h = true
  · rw [hs]
    exact (@decide_eq_true _ (Classical.propDecidable _) (fun C c1 c2 => h3 C c1 c2 h hh hs)).symm
  · have e : S h = false := by rw [← Bool.not_eq_true]; exact hs
    rw [e]
    exact (@decide_eq_false _ (Classical.propDecidable _) (fun hc => hs (hc S h1 h2))).symm
end
section
theorem e_reachN {links : Nat → Int32} {bar : Int32} {n f : Nat} {x0 x2 : Int32} {post : Int32 → Prop} (hn : n ≤ 9) (hf : f < n) (hx : x0 = nI f) (hb2 : x2 = bar) (hl : ∀ a, a < n → ∀ b, b < 32 → hb (links a) b = true → b < n) (hp : ∀ set, (∀ h, h < 32 → hb set h = (decide (h < n) && clB (fun a b => hb (links a) b && !hb bar b) n f h)) → post set) : q_wn_X7_reach_5_0 links x0 x2 post := by
  subst hx
  subst hb2
  intro v1 e1
  have e1' : v1 = bitI f := e1
  intro P hP
  have dn : ∀ (s : Int32), hb s f = true → (∀ k, k < 32 → hb s k = true → k < n) → (∀ C : Nat → Bool, C f = true → (∀ a b, a < n → b < n → C a = true → (hb (links a) b && !hb x2 b) = true → C b = true) → ∀ h, h < n → hb s h = true → C h = true) → (∀ a b, a < n → b < n → hb s a = true → (hb (links a) b && !hb x2 b) = true → hb s b = true) → post s := by
    intro s s1 s2 s3 s4
    refine hp s (fun h hh => ?_)
    by_cases hhn : h < n
    · rw [decide_eq_true hhn, Bool.true_and]
      exact cl_eq (S := hb s) s1 s4 s3 h hhn
    · rw [decide_eq_false hhn, Bool.false_and, ← Bool.not_eq_true]
      exact fun h9 => hhn (s2 h hh h9)
  have loop : ∀ m r (s : Int32), m = 9 - r → r ≤ 9 → hb s f = true → (∀ k, k < 32 → hb s k = true → k < n) → (∀ C : Nat → Bool, C f = true → (∀ a b, a < n → b < n → C a = true → (hb (links a) b && !hb x2 b) = true → C b = true) → ∀ h, h < n → hb s h = true → C h = true) → r + 1 ≤ cntB (hb s) 9 → P s (nI r) := by
    intro m
    induction m using Nat.strongRecOn with
    | ind m ih =>
      intro r s hm hr s1 s2 s3 hc
      apply hP
      refine pk_le 9 r (fun h9 => ?_) (fun h9 => ?_)
      · have := cnt_le (hb s) 9
        omega
      · intro P2 hP2
        have loop2 : ∀ m j (x : Int32), m = 9 - j → j ≤ 9 → (∀ k, k < 32 → hb s k = true → hb x k = true) → (∀ k, k < 32 → hb x k = true → k < n) → (∀ C : Nat → Bool, C f = true → (∀ a b, a < n → b < n → C a = true → (hb (links a) b && !hb x2 b) = true → C b = true) → ∀ h, h < n → hb x h = true → C h = true) → (∀ a b, a < j → b < 32 → hb s a = true → (hb (links a) b && !hb x2 b) = true → hb x b = true) → P2 x (nI j) := by
          intro m
          induction m using Nat.strongRecOn with
          | ind m ih2 =>
            intro j x hm2 hj x1 x2' x3 x4
            apply hP2
            refine pk_le 9 j (fun h8 => ?_) (fun h8 => ?_)
            · refine ⟨fun hne => fun v ev => ?_, fun heq => ?_⟩
              · rw [ev, nI_1]
                refine ih (9 - (r + 1)) (by omega) (r + 1) x rfl (by omega) (x1 f (by omega) s1) x2' x3 ?_
                have hd : ∃ k, k < 9 ∧ hb x k = true ∧ hb s k = false := by
                  apply Classical.byContradiction
                  intro hno
                  apply hne
                  apply hb_eq
                  intro k hk
                  by_cases hsk : hb s k = true
                  · rw [hsk, x1 k hk hsk]
                  · rw [Bool.not_eq_true] at hsk
                    rw [hsk, ← Bool.not_eq_true]
                    intro hxk
                    exact hno ⟨k, by have := x2' k hk hxk; omega, hxk, hsk⟩
                have := cnt_lt 9 (fun k hk => x1 k (by omega)) hd
                omega
              · refine dn s s1 s2 s3 (fun a b ha hb1 hsa hE => ?_)
                rw [← heq]
                exact x4 a b (by omega) (by omega) hsa hE
            · have nx : ∀ y : Int32, (∀ k, k < 32 → hb s k = true → hb y k = true) → (∀ k, k < 32 → hb y k = true → k < n) → (∀ C : Nat → Bool, C f = true → (∀ a b, a < n → b < n → C a = true → (hb (links a) b && !hb x2 b) = true → C b = true) → ∀ h, h < n → hb y h = true → C h = true) → (∀ a b, a < j + 1 → b < 32 → hb s a = true → (hb (links a) b && !hb x2 b) = true → hb y b = true) → q_wn_X7_reach_5_49 P P2 links x2 s (nI r) y (nI j) post := by
                intro y y1 y2 y3 y4 v ev
                rw [ev, nI_1]
                exact ih2 (9 - (j + 1)) (by omega) (j + 1) y rfl (by omega) y1 y2 y3 y4
              refine e_hasX (by omega) (fun hh0 => iz (nx x x1 x2' x3 (fun a b ha hb1 hsa hE => ?_))) (fun hh1 => oi ⟨vp_in_nI h8 (by omega), fun v ev => ?_⟩)
              · by_cases e : a = j
                · subst e; rw [hh0] at hsa; exact absurd hsa (by decide)
                · exact x4 a b (by omega) hb1 hsa hE
              · rw [nI_clamp (by omega)] at ev
                have hv : ∀ k, k < 32 → hb v k = (hb x k || (hb (links j) k && !hb x2 k)) := fun k hk => by rw [ev, hb_or, hb_and, hb_not _ hk]
                have hjn : j < n := s2 j (by omega) hh1
                refine nx v (fun k hk h => by rw [hv k hk, x1 k hk h]; rfl) (fun k hk h => ?_) (fun C c1 c2 k hk h => ?_) (fun a b ha hb1 hsa hE => ?_)
                · rw [hv k hk, Bool.or_eq_true] at h
                  rcases h with h | h
                  · exact x2' k hk h
                  · rw [Bool.and_eq_true] at h
                    exact hl j hjn k hk h.1
                · rw [hv k (by omega), Bool.or_eq_true] at h
                  rcases h with h | h
                  · exact x3 C c1 c2 k hk h
                  · exact c2 j k hjn hk (s3 C c1 c2 j hjn hh1) h
                · rw [hv b hb1]
                  by_cases e : a = j
                  · subst e; rw [hE, Bool.or_true]
                  · rw [x4 a b (by omega) hb1 hsa hE]; rfl
        exact loop2 _ 0 s rfl (by omega) (fun k _ h => h) s2 s3 (fun a b ha => absurd ha (Nat.not_lt_zero a))
  have hbf : ∀ k, k < 32 → hb v1 k = decide (f = k) := fun k hk => by rw [e1']; exact hb_b32 (by omega) hk
  refine loop _ 0 v1 rfl (by omega) (by rw [hbf f (by omega), decide_eq_true rfl]) (fun k hk h => ?_) (fun C c1 c2 h hh hs => ?_) ?_
  · rw [hbf k hk] at h
    have := of_decide_eq_true h
    omega
  · rw [hbf h (by omega)] at hs
    rw [← of_decide_eq_true hs]
    exact c1
  · have g := cnt_lt (p := fun _ => false) (q := hb v1) 9 (fun _ _ h => absurd h (by decide)) ⟨f, by omega, by rw [hbf f (by omega), decide_eq_true rfl], rfl⟩
    omega
end
section
theorem clB_ext {E E' : Nat → Nat → Bool} {n f h : Nat} (e : ∀ a b, a < n → b < n → E a b = E' a b) : clB E n f h = clB E' n f h := by
  have q : ∀ E E' : Nat → Nat → Bool, (∀ a b, a < n → b < n → E a b = E' a b) → clB E n f h = true → clB E' n f h = true := by
    intro E E' e h1
    have h2 := @of_decide_eq_true _ (Classical.propDecidable _) h1
    exact @decide_eq_true _ (Classical.propDecidable _) (fun C c1 c2 => h2 C c1 (fun a b ha hb hc hE => c2 a b ha hb hc (by rw [← e a b ha hb]; exact hE)))
  cases h1 : clB E n f h with
  | true => exact (q E E' e h1).symm
  | false =>
    rw [eq_comm, ← Bool.not_eq_true]
    intro h2
    rw [q E' E (fun a b ha hb => (e a b ha hb).symm) h2] at h1
    exact absurd h1 (by decide)
/-- a way that can be walked -/
def wayB (td sn : Nat → Int32) (a b : Nat) : Bool := decide (0 < td (51 + 9 * a + b)) && decide (sn a < td 5) && decide (sn b < td 5)
theorem e_rchM {M : Nat → Nat → Int32} {at_ sn : Nat → Int32} {k s f n : Nat} {post : Int32 → Prop} (hk : k < 2) (hs : s < 6) (ha : at_ s = nI f) (hf : f < n) (hn : tdM M k 0 = nI n) (hn9 : n ≤ 9) (hp : ∀ set, (∀ h, h < 32 → hb set h = (decide (h < n) && clB (wayB (tdM M k) sn) n f h)) → post set) : q_m_reach_0 (M 5) (nI k) (tdM M k 0) at_ sn (nI s) post := by
  have hin : vp_in (nI s) 6 := vp_in_nI hs (by omega)
  have hbf : ∀ k, k < 32 → hb (bitI f) k = decide (f = k) := fun k hk => hb_b32 (by omega) hk
  have dn : ∀ (s : Int32), hb s f = true → (∀ k, k < 32 → hb s k = true → k < n) → (∀ C : Nat → Bool, C f = true → (∀ a b, a < n → b < n → C a = true → wayB (tdM M k) sn a b = true → C b = true) → ∀ h, h < n → hb s h = true → C h = true) → (∀ a b, a < n → b < n → hb s a = true → wayB (tdM M k) sn a b = true → hb s b = true) → post s := by
    intro s s1 s2 s3 s4
    refine hp s (fun h hh => ?_)
    by_cases hhn : h < n
    · rw [decide_eq_true hhn, Bool.true_and]
      exact cl_eq (S := hb s) s1 s4 s3 h hhn
    · rw [decide_eq_false hhn, Bool.false_and, ← Bool.not_eq_true]
      exact fun h9 => hhn (s2 h hh h9)
  refine ⟨hin, fun v1 e1 => ?_⟩
  rw [nI_clamp (by omega), ha] at e1
  have e1' : v1 = bitI f := e1
  have i1 : hb v1 f = true := by rw [e1', hbf f (by omega), decide_eq_true rfl]
  have i2 : ∀ k, k < 32 → hb v1 k = true → k < n := by
    intro k hk h
    rw [e1', hbf k hk] at h
    have := of_decide_eq_true h
    omega
  have i3 : ∀ C : Nat → Bool, C f = true → (∀ a b, a < n → b < n → C a = true → wayB (tdM M k) sn a b = true → C b = true) → ∀ h, h < n → hb v1 h = true → C h = true := by
    intro C c1 c2 h hh hs
    rw [e1', hbf h (by omega)] at hs
    rw [← of_decide_eq_true hs]
    exact c1
  intro P hP
  have hu : ∀ {A B : Prop} (x : Nat), x < 2 ^ 31 → (n ≤ x → A) → (x < n → B) → (tdM M k 0 ≤ nI x → A) ∧ (¬ tdM M k 0 ≤ nI x → B) := fun x hx f g => pk_le n x f g hn rfl (by omega) hx
  by_cases hcf : sn f < tdM M k 5
  · have loop : ∀ m r (s0 : Int32), m = 9 - r → r ≤ 9 → hb s0 f = true → (∀ k, k < 32 → hb s0 k = true → k < n) → (∀ C : Nat → Bool, C f = true → (∀ a b, a < n → b < n → C a = true → wayB (tdM M k) sn a b = true → C b = true) → ∀ h, h < n → hb s0 h = true → C h = true) → (∀ h, h < n → hb s0 h = true → sn h < tdM M k 5) → (r + 1 ≤ cntB (hb s0) 9 ∨ ∀ a b, a < n → b < n → hb s0 a = true → wayB (tdM M k) sn a b = true → hb s0 b = true) → P s0 (nI r) := by
      intro m
      induction m using Nat.strongRecOn with
      | ind m ih =>
        intro r s0 hm hr s1 s2 s3 s5 hc
        apply hP
        refine pk_le 9 r (fun h9 => ?_) (fun h9 => ⟨hin, ?_⟩)
        · rcases hc with hc | hc
          · have := cnt_le (hb s0) 9
            omega
          · exact dn s0 s1 s2 s3 hc
        · rw [nI_clamp (by omega), ha]
          refine e_cutM hk (by omega) (fun _ => zi ?_) (fun h => absurd hcf h)
          intro P2 hP2
          -- over a
          have loopa : ∀ m a (x : Int32), m = n - a → a ≤ n → (∀ k, k < 32 → hb s0 k = true → hb x k = true) → (∀ k, k < 32 → hb x k = true → k < n) → (∀ C : Nat → Bool, C f = true → (∀ a b, a < n → b < n → C a = true → wayB (tdM M k) sn a b = true → C b = true) → ∀ h, h < n → hb x h = true → C h = true) → (∀ h, h < n → hb x h = true → sn h < tdM M k 5) → (∀ a' b, a' < a → b < n → hb s0 a' = true → wayB (tdM M k) sn a' b = true → hb x b = true) → P2 x (nI a) := by
            intro m
            induction m using Nat.strongRecOn with
            | ind m iha =>
              intro a x hma hale x1 x2 x3 x5 x4
              apply hP2
              refine hu a (by omega) (fun h8 v ev => ?_) (fun h8 => ?_)
              · rw [ev, nI_1]
                refine ih (9 - (r + 1)) (by omega) (r + 1) x rfl (by omega) (x1 f (by omega) s1) x2 x3 x5 ?_
                have clos : (∀ a b, a < n → b < n → hb s0 a = true → wayB (tdM M k) sn a b = true → hb s0 b = true) → ∀ a b, a < n → b < n → hb x a = true → wayB (tdM M k) sn a b = true → hb x b = true := by
                  intro hcl a b ha hb1 hxa hE
                  have hsa : hb s0 a = true := x3 (hb s0) s1 hcl a ha hxa
                  exact x1 b (by omega) (hcl a b ha hb1 hsa hE)
                rcases hc with hc | hc
                · by_cases hcl : ∀ a b, a < n → b < n → hb s0 a = true → wayB (tdM M k) sn a b = true → hb s0 b = true
                  · exact Or.inr (clos hcl)
                  · left
                    have hd : ∃ k, k < 9 ∧ hb x k = true ∧ hb s0 k = false := by
                      apply Classical.byContradiction
                      intro hno
                      apply hcl
                      intro a' b ha' hb1 hsa hE
                      have hxb := x4 a' b (by omega) hb1 hsa hE
                      rw [← Bool.not_eq_false]
                      exact fun hsb => hno ⟨b, by omega, hxb, hsb⟩
                    have := cnt_lt 9 (fun k hk => x1 k (by omega)) hd
                    omega
                · exact Or.inr (clos hc)
              · intro P3 hP3
                have loopb : ∀ m b (y : Int32), m = n - b → b ≤ n → (∀ k, k < 32 → hb s0 k = true → hb y k = true) → (∀ k, k < 32 → hb y k = true → k < n) → (∀ C : Nat → Bool, C f = true → (∀ a b, a < n → b < n → C a = true → wayB (tdM M k) sn a b = true → C b = true) → ∀ h, h < n → hb y h = true → C h = true) → (∀ h, h < n → hb y h = true → sn h < tdM M k 5) → (∀ a' b', a' < a ∨ (a' = a ∧ b' < b) → b' < n → hb s0 a' = true → wayB (tdM M k) sn a' b' = true → hb y b' = true) → P3 y (nI b) := by
                  intro m
                  induction m using Nat.strongRecOn with
                  | ind m ihb =>
                    intro b y hmb hble y1 y2 y3 y5 y4
                    apply hP3
                    refine hu b (by omega) (fun h7 v ev => ?_) (fun h7 => ?_)
                    · rw [ev, nI_1]
                      exact iha (n - (a + 1)) (by omega) (a + 1) y rfl (by omega) y1 y2 y3 y5 (fun a' b' ha' hb' => y4 a' b' (by omega) hb')
                    · have nx : ∀ z : Int32, (∀ k, k < 32 → hb s0 k = true → hb z k = true) → (∀ k, k < 32 → hb z k = true → k < n) → (∀ C : Nat → Bool, C f = true → (∀ a b, a < n → b < n → C a = true → wayB (tdM M k) sn a b = true → C b = true) → ∀ h, h < n → hb z h = true → C h = true) → (∀ h, h < n → hb z h = true → sn h < tdM M k 5) → (∀ a' b', a' < a ∨ (a' = a ∧ b' < b + 1) → b' < n → hb s0 a' = true → wayB (tdM M k) sn a' b' = true → hb z b' = true) → ∀ w : Int32, y ||| w = z → q_m_reach_92 P P2 P3 (M 5) (nI k) (tdM M k 0) at_ sn (nI s) (nI r) (nI a) (nI b) y w post := by
                        intro z z1 z2 z3 z5 z4 w hw v ev v2 ev2
                        rw [ev, ev2, hw, nI_1]
                        exact ihb (n - (b + 1)) (by omega) (b + 1) z rfl (by omega) z1 z2 z3 z5 z4
                      have stay : (hb s0 a = true → wayB (tdM M k) sn a b = true → hb y b = true) → q_m_reach_92 P P2 P3 (M 5) (nI k) (tdM M k 0) at_ sn (nI s) (nI r) (nI a) (nI b) y 0 post := fun hq => nx y y1 y2 y3 y5 (fun a' b' hab hb' hsa hE => by
                        by_cases e : a' = a ∧ b' = b
                        · obtain ⟨ea, eb⟩ := e
                          subst ea eb
                          exact hq hsa hE
                        · exact y4 a' b' (by omega) hb' hsa hE) 0 (or_0 y)
                      refine e_hasM (by omega) (fun hh0 => iz (stay (fun hsa _ => ?_))) (fun hh1 => oi ?_)
                      · rw [y1 a (by omega) hsa] at hh0
                        exact absurd hh0 (by decide)
                      · refine e_of (i := 51 + 9 * a + b) hk (by omega) (ix9 a b) ⟨fun hle => stay (fun _ hE => ?_), fun hlt => e_cutM hk (by omega) (fun hcb => zi ?_) (fun hcb => io (stay (fun _ hE => ?_)))⟩
                        · unfold wayB at hE
                          simp only [Bool.and_eq_true, decide_eq_true_eq] at hE
                          exact absurd hle (Int32.not_le.mpr hE.1.1)
                        · have hE : wayB (tdM M k) sn a b = true := by
                            unfold wayB
                            rw [decide_eq_true (Int32.not_le.mp hlt), decide_eq_true (y5 a h8 hh1), decide_eq_true hcb]
                            rfl
                          have hz : ∀ k, k < 32 → hb (y ||| bitI b) k = (hb y k || decide (b = k)) := fun k hk => by rw [hb_or, hb_b32 (by omega) hk]
                          refine nx (y ||| bitI b) (fun k hk h => by rw [hz k hk, y1 k hk h]; rfl) (fun k hk h => ?_) (fun C c1 c2 h hh hs => ?_) (fun h hh hs => ?_) (fun a' b' hab hb' hsa hE' => ?_) _ rfl
                          · rw [hz k hk, Bool.or_eq_true] at h
                            rcases h with h | h
                            · exact y2 k hk h
                            · have := of_decide_eq_true h
                              omega
                          · rw [hz h (by omega), Bool.or_eq_true] at hs
                            rcases hs with hs | hs
                            · exact y3 C c1 c2 h hh hs
                            · rw [← of_decide_eq_true hs]
                              exact c2 a b h8 h7 (y3 C c1 c2 a h8 hh1) hE
                          · rw [hz h (by omega), Bool.or_eq_true] at hs
                            rcases hs with hs | hs
                            · exact y5 h hh hs
                            · rw [← of_decide_eq_true hs]
                              exact hcb
                          · rw [hz b' (by omega)]
                            by_cases e : b' = b
                            · rw [e, decide_eq_true rfl, Bool.or_true]
                            · rw [y4 a' b' (by omega) hb' hsa hE']; rfl
                        · unfold wayB at hE
                          simp only [Bool.and_eq_true, decide_eq_true_eq] at hE
                          exact absurd hE.2 hcb
                exact loopb _ 0 x rfl (by omega) x1 x2 x3 x5 (fun a' b' hab hb' hsa hE => x4 a' b' (by omega) hb' hsa hE)
          exact loopa _ 0 s0 rfl (by omega) (fun _ _ h => h) s2 s3 s5 (fun a' b ha' => absurd ha' (Nat.not_lt_zero a'))
    refine loop _ 0 v1 rfl (by omega) i1 i2 i3 (fun h hh hs => ?_) (Or.inl ?_)
    · rw [e1', hbf h (by omega)] at hs
      rw [← of_decide_eq_true hs]
      exact hcf
    · have g := cnt_lt (p := fun _ => false) (q := hb v1) 9 (fun _ _ h => absurd h (by decide)) ⟨f, by omega, i1, rfl⟩
      omega
  · apply hP
    refine pk_le 9 0 (fun h9 => absurd h9 (by omega)) (fun h9 => ⟨hin, ?_⟩)
    rw [nI_clamp (by omega), ha]
    refine e_cutM hk (by omega) (fun h => absurd h hcf) (fun _ => io (dn v1 i1 i2 i3 (fun a b ha1 hb1 hsa hE => ?_)))
    rw [e1', hbf a (by omega)] at hsa
    unfold wayB at hE
    simp only [Bool.and_eq_true, decide_eq_true_eq] at hE
    rw [← of_decide_eq_true hsa] at hE
    exact absurd hE.1.2 hcf
end
section
def anyB (p : Nat → Bool) : Nat → Bool
  | 0 => false
  | n + 1 => anyB p n || p n
theorem any_iff {p : Nat → Bool} : ∀ n, anyB p n = true ↔ ∃ k, k < n ∧ p k = true
  | 0 => ⟨fun h => absurd (show false = true from h) (by decide), fun ⟨k, hk, _⟩ => absurd hk (Nat.not_lt_zero k)⟩
  | n + 1 => by
    show (anyB p n || p n) = true ↔ _
    rw [Bool.or_eq_true, any_iff n]
    constructor
    · rintro (⟨k, hk, h⟩ | h)
      · exact ⟨k, by omega, h⟩
      · exact ⟨n, by omega, h⟩
    · rintro ⟨k, hk, h⟩
      by_cases e : k = n
      · subst e; exact Or.inr h
      · exact Or.inl ⟨k, by omega, h⟩
theorem any_ext {p q : Nat → Bool} : ∀ n, (∀ k, k < n → p k = q k) → anyB p n = anyB q n
  | 0, _ => rfl
  | n + 1, h => by
    show (anyB p n || p n) = (anyB q n || q n)
    rw [any_ext n (fun k hk => h k (by omega)), h n (by omega)]
def SEER (td : Nat → Int32) (S : Nat → Nat → Int32) : Int32 := mkB (fun s => decide ((S 5 0 &&& (S 1 s ^^^ (-1))) = 0)) (cN (td 1))
def FAME (td : Nat → Int32) (S : Nat → Nat → Int32) (t : Nat) : Int32 := nI (cntB (fun o => hb (S 1 o) t) (cN (td 1)))
/-- whether singer s can come to h and sing t there -/
noncomputable def spB (td : Nat → Int32) (S : Nat → Nat → Int32) (t s h : Nat) : Bool := clB (wayB td (S 3)) (cN (td 0)) (cN (S 0 s)) h && (!dam td h && decide (td (7 + h) - td (31 + s) < S 4 t))
noncomputable def dsB (td : Nat → Int32) (S : Nat → Nat → Int32) (t s : Nat) : Bool := hb (S 1 s) t && anyB (spB td S t s) (cN (td 0))
noncomputable def dnB (td : Nat → Int32) (S : Nat → Nat → Int32) (t : Nat) : Bool := anyB (dsB td S t) (cN (td 1))
noncomputable def DF (td : Nat → Int32) (S : Nat → Nat → Int32) : Int32 := mkB (fun t => hb (S 5 0) t && !dnB td S t) 5
noncomputable def LKn (td : Nat → Int32) (S : Nat → Nat → Int32) (n : Nat) : Int32 :=
  if n / 10 = 0 then (if n = 0 then S 5 1 else if n = 1 then S 5 2 else if n = 2 then SEER td S else if n = 3 then S 5 0 else if n = 4 then DF td S else -1000)
  else if n / 10 = 1 then (if n % 10 < 5 then S 4 (n % 10) else -1000)
  else if n / 10 = 2 then (if n % 10 < 5 then FAME td S (n % 10) else -1000)
  else if n / 10 = 7 then (if nI (n % 10) < td 0 then S 3 (n % 10) else -1000)
  else if nI (n % 10) < td 1 then (if n / 10 = 3 then S 0 (n % 10) else if n / 10 = 4 then S 1 (n % 10) else if n / 10 = 5 then S 2 (n % 10) else hgh td (S 0) (S 2) (n % 10)) else -1000
noncomputable def LKN (td : Nat → Int32) (S : Nat → Nat → Int32) (w : Int32) : Int32 := if 0 ≤ w ∧ w ≤ 79 then LKn td S (cN w) else -1000
section
variable {M : Nat → Nat → Int32} {S' S : Nat → Nat → Int32} {k : Nat}
theorem e_seersM {post : Int32 → Prop} (hR : RNG (tdM M k)) (hA : AGs S' S) (hp : post (SEER (tdM M k) S)) : q_m_seers_0 (tdM M k 1) (S' 1) (S' 5 0) post := by
  obtain ⟨c, hc, -, hc6, -⟩ := iv_nI (show iv 0 6 (tdM M k 1) from hR 1 (by omega)) (by decide)
  unfold SEER at hp
  rw [hc, cN_nI (by omega)] at hp
  intro P hP
  have loop : ∀ m j, m = c - j → j ≤ c → P (mkB (fun s => decide ((S 5 0 &&& (S 1 s ^^^ (-1))) = 0)) j) (nI j) := by
    intro m
    induction m using Nat.strongRecOn with
    | ind m ih =>
      intro j hm hj
      apply hP
      rw [hc]
      refine pk_le c j (fun h9 => ?_) (fun h9 => ⟨vp_in_nI (by omega) (by omega), ?_⟩)
      · rw [show j = c by omega]; exact hp
      · have nx : ∀ y : Int32, y = (if decide ((S 5 0 &&& (S 1 j ^^^ (-1))) = 0) = true then bitI j else 0) → q_m_seers_36 P (nI c) (S' 1) (S' 5 0) (nI j) (mkB (fun s => decide ((S 5 0 &&& (S 1 s ^^^ (-1))) = 0)) j) y post := by
          intro y hy v e v2 e2
          rw [hy] at e
          rw [e, e2, nI_1]
          exact ih (c - (j + 1)) (by omega) (j + 1) rfl (by omega)
        rw [nI_clamp (by omega), (hA.1 j (by omega)).2.1, hA.2.2.2.1]
        refine ⟨fun h => nx _ ?_, fun h => nx _ ?_⟩
        · rw [if_neg (by rw [decide_eq_false h]; decide)]
        · rw [if_pos (decide_eq_true h)]; rfl
  exact loop _ 0 rfl (by omega)
theorem e_fameM {t : Nat} {post : Int32 → Prop} (hR : RNG (tdM M k)) (hA : AGs S' S) (ht : t < 31) (hp : post (FAME (tdM M k) S t)) : q_m_fame_0 (tdM M k 1) (S' 1) (nI t) post := by
  obtain ⟨c, hc, -, hc6, -⟩ := iv_nI (show iv 0 6 (tdM M k 1) from hR 1 (by omega)) (by decide)
  unfold FAME at hp
  rw [hc, cN_nI (by omega)] at hp
  intro P hP
  have loop : ∀ m j, m = c - j → j ≤ c → P (nI (cntB (fun o => hb (S 1 o) t) j)) (nI j) := by
    intro m
    induction m using Nat.strongRecOn with
    | ind m ih =>
      intro j hm hj
      apply hP
      rw [hc]
      refine pk_le c j (fun h9 => ?_) (fun h9 => ⟨vp_in_nI (by omega) (by omega), ?_⟩)
      · rw [show j = c by omega]; exact hp
      · have nx : ∀ y : Int32, nI (cntB (fun o => hb (S 1 o) t) j) + y = nI (cntB (fun o => hb (S 1 o) t) (j + 1)) → q_m_fame_31 P (nI c) (S' 1) (nI t) (nI j) (nI (cntB (fun o => hb (S 1 o) t) j)) y post := by
          intro y hy v e v2 e2
          rw [e, e2, hy, nI_1]
          exact ih (c - (j + 1)) (by omega) (j + 1) rfl (by omega)
        have e : cntB (fun o => hb (S 1 o) t) (j + 1) = cntB (fun o => hb (S 1 o) t) j + (if hb (S 1 j) t = true then 1 else 0) := rfl
        rw [nI_clamp (by omega), (hA.1 j (by omega)).2.1]
        refine e_hasM ht (fun h0 => iz (nx 0 ?_)) (fun h1 => oi (nx 1 ?_))
        · rw [e, if_neg (by rw [h0]; decide)]; exact Int32.add_zero _
        · rw [e, if_pos h1, nI_1]
  exact loop _ 0 rfl (by omega)
theorem e_isDoneM {t : Nat} {post : Int32 → Prop} (hk : k < 2) (hL : mLand (M 5)) (hN : NOK (tdM M k) S) (hA : AGs S' S) (ht : t < 5) (hbt : hb (S 5 0) t = true) (h0 : dnB (tdM M k) S t = true → post 0) (h1 : dnB (tdM M k) S t = false → post 1) : q_m_isDone_0 (M 5) (nI k) (tdM M k 0) (tdM M k 1) (S' 0) (S' 1) (S' 3) (S' 4) (nI t) post := by
  have hR : RNG (tdM M k) := fun j hj => row_iv hL hk hj
  obtain ⟨c, hc, -, hc6, -⟩ := iv_nI (show iv 0 6 (tdM M k 1) from hR 1 (by omega)) (by decide)
  obtain ⟨n, hn, -, hn9, -⟩ := iv_nI (show iv 0 9 (tdM M k 0) from hR 0 (by omega)) (by decide)
  unfold dnB at h0 h1
  rw [hc, cN_nI (by omega)] at h0 h1
  intro P hP
  have loop : ∀ m s, m = c - s → s ≤ c → (∀ s', s' < s → dsB (tdM M k) S t s' = false) → P (nI s) := by
    intro m
    induction m using Nat.strongRecOn with
    | ind m ih =>
      intro s hm hs hq
      apply hP
      rw [hc]
      refine pk_le c s (fun h9 => ?_) (fun h9 => ⟨vp_in_nI (by omega) (by omega), ?_⟩)
      · refine h1 ?_
        rw [← Bool.not_eq_true, any_iff]
        rintro ⟨k', hk', e⟩
        rw [hq k' (by omega)] at e
        exact absurd e (by simp)
      · rw [nI_clamp (by omega), (hA.1 s (by omega)).2.1]
        have nxs : dsB (tdM M k) S t s = false → P (nI (s + 1)) := fun hf => ih (c - (s + 1)) (by omega) (s + 1) rfl (by omega) (fun s' hs' => by
          by_cases e : s' = s
          · subst e; exact hf
          · exact hq s' (by omega))
        -- over the huts of a set
        have hut : ∀ (y : Int32) (q : Nat → Bool), (∀ h, h < n → hb y h = q h) → (dsB (tdM M k) S t s = anyB (fun h => q h && decide (tdM M k (7 + h) - tdM M k (31 + s) < S 4 t)) n) → q_m_isDone_40 P (M 5) (nI k) (tdM M k 0) (nI c) (S' 0) (S' 1) (S' 3) (S' 4) (nI t) (nI s) y post := by
          intro y q hy hd
          intro P2 hP2
          have loop2 : ∀ m h, m = n - h → h ≤ n → (∀ h', h' < h → (q h' && decide (tdM M k (7 + h') - tdM M k (31 + s) < S 4 t)) = false) → P2 (nI h) := by
            intro m
            induction m using Nat.strongRecOn with
            | ind m ih2 =>
              intro h hm2 hh hq2
              apply hP2
              rw [hn]
              refine pk_le n h (fun h8 v ev => ?_) (fun h8 => ?_)
              · rw [ev, nI_1]
                refine nxs ?_
                rw [hd, ← Bool.not_eq_true, any_iff]
                rintro ⟨k', hk', e⟩
                rw [hq2 k' (by omega)] at e
                exact absurd e (by simp)
              · have nx : (q h && decide (tdM M k (7 + h) - tdM M k (31 + s) < S 4 t)) = false → q_m_isDone_88 P P2 (M 5) (nI k) (nI n) (nI c) (S' 0) (S' 1) (S' 3) (S' 4) (nI t) (nI s) y (nI h) post := by
                  intro hf v ev
                  rw [ev, nI_1]
                  exact ih2 (n - (h + 1)) (by omega) (h + 1) rfl (by omega) (fun h' hh' => by
                    by_cases e : h' = h
                    · subst e; exact hf
                    · exact hq2 h' (by omega))
                refine e_hasM (by omega) (fun hh0 => iz (nx ?_)) (fun hh1 => oi ?_)
                · rw [hy h h8] at hh0
                  rw [hh0]; rfl
                · refine e_of (i := 7 + h) hk (by omega) (jx 7 h) (e_of (i := 31 + s) hk (by omega) (jx 31 s) ⟨vp_in_nI (by omega) (by omega), ?_⟩)
                  rw [nI_clamp (by omega), hA.2.2.1 t ht hbt]
                  rw [hy h h8] at hh1
                  refine ⟨fun hle => nx ?_, fun hlt => h0 ?_⟩
                  · rw [decide_eq_false (Int32.not_lt.mpr hle), Bool.and_false]
                  · rw [any_iff]
                    refine ⟨s, by omega, ?_⟩
                    rw [hd, any_iff]
                    exact ⟨h, h8, by rw [hh1, decide_eq_true (Int32.not_le.mp hlt)]; rfl⟩
          exact loop2 _ 0 rfl (by omega) (fun h' hh' => absurd hh' (Nat.not_lt_zero h'))
        have hlc : nI s < tdM M k 1 := by rw [hc]; exact nI_lt h9 (by omega)
        obtain ⟨f, ef, -, hf8, -⟩ := iv_nI (hN.1 s (by omega)) (by decide)
        have hfn : f < n := by
          have h7 := hN.2.2.2.2.1 s (by omega) hlc
          rw [ef, hn] at h7
          exact (nI_ltI (by omega) (by omega)).mp h7
        refine e_hasM (by omega) (fun hh0 => iz (hut 0 (fun _ => false) (fun h _ => hb_0 h) ?_)) (fun hh1 => oi ?_)
        · unfold dsB
          rw [hh0, Bool.false_and, eq_comm, ← Bool.not_eq_true, any_iff]
          rintro ⟨k', hk', e⟩
          exact absurd e (by simp)
        · refine e_rchM (f := f) (n := n) hk (by omega) (by rw [(hA.1 s (by omega)).1, ef]) hfn hn (by omega) (fun set hset => ?_)
          refine e_of (i := 3) hk (by omega) rfl (hut _ (fun h => clB (wayB (tdM M k) (S' 3)) n f h && !dam (tdM M k) h) (fun h hh => ?_) ?_)
          · rw [hb_and, hb_not _ (by omega), hset h (by omega), decide_eq_true hh, Bool.true_and]
            rfl
          · unfold dsB
            rw [hh1, Bool.true_and, hn, cN_nI (by omega)]
            refine any_ext n (fun h hh => ?_)
            unfold spB
            rw [hn, cN_nI (by omega), ef, cN_nI (by omega), clB_ext (E := wayB (tdM M k) (S' 3)) (E' := wayB (tdM M k) (S 3)) (fun a b ha hb1 => by unfold wayB; rw [hA.2.1 a (by omega), hA.2.1 b (by omega)]), Bool.and_assoc]
  exact loop _ 0 rfl (by omega) (fun s' hs' => absurd hs' (Nat.not_lt_zero s'))
theorem e_doneForM {post : Int32 → Prop} (hk : k < 2) (hL : mLand (M 5)) (hN : NOK (tdM M k) S) (hA : AGs S' S) (hp : post (DF (tdM M k) S)) : q_m_doneFor_0 (M 5) (nI k) (tdM M k 0) (tdM M k 1) (S' 0) (S' 1) (S' 3) (S' 4) (S' 5 0) post := by
  unfold DF at hp
  intro P hP
  have loop : ∀ m j, m = 5 - j → j ≤ 5 → P (mkB (fun t => hb (S 5 0) t && !dnB (tdM M k) S t) j) (nI j) := by
    intro m
    induction m using Nat.strongRecOn with
    | ind m ih =>
      intro j hm hj
      apply hP
      refine pk_le 5 j (fun h9 => ?_) (fun h9 => ?_)
      · rw [show j = 5 by omega]; exact hp
      · have nx : ∀ y : Int32, y = (if (hb (S 5 0) j && !dnB (tdM M k) S j) = true then bitI j else 0) → q_m_doneFor_36 P (M 5) (nI k) (tdM M k 0) (tdM M k 1) (S' 0) (S' 1) (S' 3) (S' 4) (S' 5 0) (nI j) (mkB (fun t => hb (S 5 0) t && !dnB (tdM M k) S t) j) y post := by
          intro y hy v e v2 e2
          rw [hy] at e
          rw [e, e2, nI_1]
          exact ih (5 - (j + 1)) (by omega) (j + 1) rfl (by omega)
        have e0 : hb (S' 5 0) j = hb (S 5 0) j := by rw [hA.2.2.2.1]
        refine e_hasM (by omega) (fun h0 => iz (nx 0 ?_)) (fun h1 => oi ?_)
        · rw [e0] at h0
          rw [if_neg (by rw [h0]; simp)]
        · rw [e0] at h1
          refine e_isDoneM hk hL hN hA h9 h1 (fun hd => iz (nx 0 ?_)) (fun hd => oi (nx _ ?_))
          · rw [if_neg (by rw [hd]; simp)]
          · rw [if_pos (by rw [hd, h1]; rfl)]; rfl
  exact loop _ 0 rfl (by omega)
theorem x_mk {w : Int32} {n : Nat} (hw : w = nI n) (hn : n ≤ 79) (d : Nat) (hd : d ≤ n) : w - nI d = nI (n - d) := by rw [hw]; exact pk_sub hd
theorem hgh_S {S' S : Nat → Nat → Int32} {td : Nat → Int32} {s : Nat} (hA : AGs S' S) (hs : s < 6) : hgh td (S' 0) (S' 2) s = hgh td (S 0) (S 2) s := hgh_ag hA hs
set_option maxHeartbeats 4000000 in
theorem e_ofStateM {w : Int32} {post : Int32 → Prop} (hk : k < 2) (hL : mLand (M 5)) (hN : NOK (tdM M k) S) (hA : AGs S' S) (hp : post (LKN (tdM M k) S w)) : q_m_ofState_0 (M 5) (nI k) (tdM M k 0) (tdM M k 1) (S' 0) (S' 1) (S' 2) (S' 3) (S' 4) (S' 5 0) (S' 5 1) (S' 5 2) w post := by
  have hR : RNG (tdM M k) := fun j hj => row_iv hL hk hj
  have b1 : iv 0 6 (tdM M k 1) := hR 1 (by omega)
  have b0 : iv 0 9 (tdM M k 0) := hR 0 (by omega)
  have cs : (¬ (0 ≤ w ∧ w ≤ 79) → post (-1000)) ∧ (∀ n, n ≤ 79 → w = nI n → post (LKn (tdM M k) S n)) := by
    refine ⟨fun h => ?_, fun n hn hw => ?_⟩
    · unfold LKN at hp; rw [if_neg h] at hp; exact hp
    · unfold LKN at hp
      rw [if_pos (by rw [hw]; exact ⟨nI_pos' (by omega), nI_le (b := 79) hn (by omega)⟩), hw, cN_nI (by omega)] at hp
      exact hp
  obtain ⟨hno, hyes⟩ := cs
  have rng : ∀ {lo hi : Nat}, lo ≤ 79 → hi ≤ 79 → nI lo ≤ w → w ≤ nI hi → ∃ n, lo ≤ n ∧ n ≤ hi ∧ w = nI n := by
    intro lo hi hlo hh h1 h2
    obtain ⟨n, e, hl, hu, -⟩ := iv_nI (iv_of (l := lo) (h := hi) (nI_toInt (by omega)) (nI_toInt (by omega)) h1 h2) (by omega)
    exact ⟨n, by omega, by omega, e⟩
  refine sp_in (fun g1 => iz ?_) (fun g1 g1' => oi ?_)
  · refine sp_in (fun g2 => iz ?_) (fun g2 g2' => oi ?_)
    · refine sp_in (fun g3 => iz ?_) (fun g3 g3' => oi ?_)
      · refine sp_in (fun g4 => iz ?_) (fun g4 g4' => oi ?_)
        · have l4 : ∀ n, n ≤ 4 → w = nI n → post (if n = 0 then S 5 1 else if n = 1 then S 5 2 else if n = 2 then SEER (tdM M k) S else if n = 3 then S 5 0 else if n = 4 then DF (tdM M k) S else -1000) := by
            intro n hn hw
            have h := hyes n (by omega) hw
            unfold LKn at h
            rw [if_pos (by omega)] at h
            exact h
          refine ⟨fun hd => ?_, fun h => ?_, fun h => ?_, fun h => ?_, fun h => ?_, fun h => ?_⟩
          · by_cases hw : 0 ≤ w ∧ w ≤ 79
            · obtain ⟨n, hn0, hn, e⟩ := rng (lo := 0) (hi := 79) (by omega) (by omega) hw.1 hw.2
              have hq := hyes n hn e
              unfold LKn at hq
              have hlo : 5 ≤ n := by
                rw [e, nI_toInt (by omega)] at hd
                omega
              have nr : ∀ lo hi : Nat, lo ≤ 79 ∧ hi ≤ 79 → ¬ (nI lo ≤ w ∧ w ≤ nI hi) → ¬ (lo ≤ n ∧ n ≤ hi) := fun lo hi hh h9 h8 => h9 (by rw [e]; exact ⟨nI_le h8.1 (by omega), nI_le h8.2 (by omega)⟩)
              have n1 := nr 10 14 (by omega) g1
              have n2 := nr 20 24 (by omega) g2
              have n3 := nr 30 69 (by omega) g3
              have n4 := nr 70 79 (by omega) g4
              by_cases c0 : n / 10 = 0
              · rw [if_pos c0, if_neg (by omega), if_neg (by omega), if_neg (by omega), if_neg (by omega), if_neg (by omega)] at hq
                exact hq
              · rw [if_neg c0] at hq
                by_cases c1 : n / 10 = 1
                · rw [if_pos c1, if_neg (by omega)] at hq; exact hq
                · rw [if_neg c1] at hq
                  by_cases c2 : n / 10 = 2
                  · rw [if_pos c2, if_neg (by omega)] at hq; exact hq
                  · exact absurd (show 30 ≤ n ∧ n ≤ 69 by omega) n3
            · exact hno hw
          · have h9 := l4 0 (by omega) h; rw [hA.2.2.2.2.1]; exact h9
          · have h9 := l4 1 (by omega) h; rw [hA.2.2.2.2.2]; exact h9
          · have h9 := l4 2 (by omega) h; exact e_seersM hR hA h9
          · have h9 := l4 3 (by omega) h; rw [hA.2.2.2.1]; exact h9
          · have h9 := l4 4 (by omega) h; exact e_doneForM hk hL hN hA h9
        · obtain ⟨n, hn0, hn, e⟩ := rng (lo := 70) (hi := 79) (by omega) (by omega) g4 g4'
          have hq := hyes n (by omega) e
          have e7 : w - 70 = nI (n - 70) := x_mk e (by omega) 70 hn0
          unfold LKn at hq
          rw [if_neg (by omega), if_neg (by omega), if_neg (by omega), if_pos (by omega), show n % 10 = n - 70 by omega] at hq
          rw [e7]
          unfold q_m_isHut_0
          refine sp_in (fun h => ⟨rfl, iz ?_⟩) (fun h1 h2 => ⟨rfl, oi ?_⟩)
          · rw [if_neg (fun h9 => h ((in_lt (iv_w b0 (by decide))).mpr ⟨nI_pos' (by omega), h9⟩))] at hq
            exact hq
          · have hlt := ((in_lt (iv_w b0 (by decide) : iv 0 1000 (tdM M k 0))).mp ⟨h1, h2⟩).2
            obtain ⟨y, hy, ey⟩ := lt_nI (m := 9) b0 ⟨h1, hlt⟩
            have : n - 70 = y := (nI_eq (by omega) (by omega)).mp ey
            rw [if_pos hlt] at hq
            refine ⟨vp_in_nI (by omega) (by omega), ?_⟩
            rw [nI_clamp (by omega), hA.2.1 (n - 70) (by omega)]
            exact hq
      · obtain ⟨n, hn0, hn, e⟩ := rng (lo := 30) (hi := 69) (by omega) (by omega) g3 g3'
        have hq := hyes n (by omega) e
        unfold LKn at hq
        rw [if_neg (by omega), if_neg (by omega), if_neg (by omega), if_neg (by omega)] at hq
        subst e
        intro v1 e1
        rw [(dm10 (n := n) (by omega)).2] at e1
        subst e1
        rw [(dm10 (n := n) (by omega)).1]
        unfold q_m_isSinger_0
        refine sp_in (fun h => ⟨rfl, zi ?_⟩) (fun h1 h2 => ⟨rfl, io ?_⟩)
        · rw [if_neg (fun h9 => h ((in_lt (iv_w b1 (by decide))).mpr ⟨nI_pos' (by omega), h9⟩))] at hq
          exact hq
        · have hlt := ((in_lt (iv_w b1 (by decide) : iv 0 1000 (tdM M k 1))).mp ⟨h1, h2⟩).2
          obtain ⟨y, hy, ey⟩ := lt_nI (m := 6) b1 ⟨h1, hlt⟩
          have hy6 : n % 10 < 6 := by rw [(nI_eq (by omega) (by omega)).mp ey]; exact hy
          rw [if_pos hlt] at hq
          have hin : vp_in (nI (n % 10)) 6 := vp_in_nI hy6 (by omega)
          refine ⟨fun hd => ?_, fun h3 => ⟨hin, ?_⟩, fun h3 => ⟨hin, ?_⟩, fun h3 => ⟨hin, ?_⟩⟩
          · rw [nI_toInt (by omega)] at hd
            rw [if_neg (by omega), if_neg (by omega), if_neg (by omega)] at hq
            refine e_highM hk hy6 (by rw [(hA.1 _ hy6).1]; exact hN.1 _ hy6) ?_
            rw [hgh_S hA hy6]
            exact hq
          · have := (nI_eq (a := n / 10) (b := 3) (by omega) (by omega)).mp h3
            rw [if_pos this] at hq
            rw [nI_clamp (by omega), (hA.1 _ hy6).1]; exact hq
          · have := (nI_eq (a := n / 10) (b := 4) (by omega) (by omega)).mp h3
            rw [if_neg (by omega), if_pos this] at hq
            rw [nI_clamp (by omega), (hA.1 _ hy6).2.1]; exact hq
          · have := (nI_eq (a := n / 10) (b := 5) (by omega) (by omega)).mp h3
            rw [if_neg (by omega), if_neg (by omega), if_pos this] at hq
            rw [nI_clamp (by omega), (hA.1 _ hy6).2.2]; exact hq
    · obtain ⟨n, hn0, hn, e⟩ := rng (lo := 20) (hi := 24) (by omega) (by omega) g2 g2'
      have hq := hyes n (by omega) e
      have e7 : w - 20 = nI (n - 20) := x_mk e (by omega) 20 hn0
      unfold LKn at hq
      rw [if_neg (by omega), if_neg (by omega), if_pos (by omega), if_pos (by omega), show n % 10 = n - 20 by omega] at hq
      rw [e7]
      exact e_fameM hR hA (by omega) hq
  · obtain ⟨n, hn0, hn, e⟩ := rng (lo := 10) (hi := 14) (by omega) (by omega) g1 g1'
    have hq := hyes n (by omega) e
    have e7 : w - 10 = nI (n - 10) := x_mk e (by omega) 10 hn0
    unfold LKn at hq
    rw [if_neg (by omega), if_pos (by omega), if_pos (by omega), show n % 10 = n - 10 by omega] at hq
    rw [e7, hA.2.2.2.1]
    refine e_hasM (by omega) (fun h0 => iz ?_) (fun h1 => oi ⟨vp_in_nI (by omega) (by omega), ?_⟩)
    · rw [hN.2.2.2.2.2.2 (n - 10) (by omega) h0] at hq
      exact hq
    · rw [nI_clamp (by omega), hA.2.2.1 (n - 10) (by omega) h1]
      exact hq
end
end
section
theorem hi_tab : ((List.range 32).all fun m => (List.range 32).all fun k => decide (k < 5) || !hb (nI m) k) = true := by decide +kernel
theorem hb_hi {x : Int32} {k : Nat} (hx : iv 0 31 x) (hk : k < 32) (h5 : 5 ≤ k) : hb x k = false := by
  obtain ⟨m, rfl, -, hm, -⟩ := iv_nI hx (by decide)
  have g := List.all_eq_true.mp (List.all_eq_true.mp hi_tab m (List.mem_range.mpr (by omega))) k (List.mem_range.mpr hk)
  rw [decide_eq_false (by omega), Bool.false_or] at g
  simpa using g
theorem min_lt (v x L : Int32) : ((if v < x then v else x) < L) ↔ (v < L ∨ x < L) := by
  by_cases h : v < x
  · rw [if_pos h]
    constructor
    · exact Or.inl
    · rintro (h2 | h2)
      · exact h2
      · exact Int32.lt_trans h h2
  · rw [if_neg h]
    constructor
    · exact Or.inr
    · rintro (h2 | h2)
      · rw [Int32.lt_iff_toInt_lt] at h2 ⊢
        have := r_nlt h
        omega
      · exact h2
section
variable {td : Nat → Int32} {S : Nat → Nat → Int32} {mi av be cl : Int32} {hu kn lv sn op : Nat → Int32} {huts singers dams echoes deep : Int32} {heights ladders minutes echoFrom echoTo talls : Nat → Int32}
theorem e_seersX {post : Int32 → Prop} (hR : RNG td) (hG : XG td S mi av be cl hu kn lv sn) (hd : singers = td 1) (hp : post (SEER td S)) : q_wn_X3_seers_6_0 be kn singers post := by
  obtain ⟨c, hc, -, hc6, -⟩ := iv_nI (show iv 0 6 (td 1) from hR 1 (by omega)) (by decide)
  unfold SEER at hp
  rw [hc, cN_nI (by omega)] at hp
  intro P hP
  have loop : ∀ m j, m = c - j → j ≤ c → P (mkB (fun s => decide ((S 5 0 &&& (S 1 s ^^^ (-1))) = 0)) j) (nI j) := by
    intro m
    induction m using Nat.strongRecOn with
    | ind m ih =>
      intro j hm hj
      apply hP
      rw [hd, hc]
      refine pk_le c j (fun h9 => ?_) (fun h9 => ⟨vp_in_nI (by omega) (by omega), ?_⟩)
      · rw [show j = c by omega]; exact hp
      · have nx : ∀ y : Int32, y = mkB (fun s => decide ((S 5 0 &&& (S 1 s ^^^ (-1))) = 0)) (j + 1) → q_wn_X3_seers_6_34 P be kn (nI c) y (nI j) post := by
          intro y hy v e
          rw [e, hy, nI_1]
          exact ih (c - (j + 1)) (by omega) (j + 1) rfl (by omega)
        have e : mkB (fun s => decide ((S 5 0 &&& (S 1 s ^^^ (-1))) = 0)) (j + 1) = mkB (fun s => decide ((S 5 0 &&& (S 1 s ^^^ (-1))) = 0)) j ||| (if decide ((S 5 0 &&& (S 1 j ^^^ (-1))) = 0) = true then bitI j else 0) := rfl
        rw [nI_clamp (by omega), hG.2.2.1 j (by omega), hG.2.2.2.2.2.1]
        rw [hG.2.2.2.2.2.1] at nx
        refine ⟨fun h => nx _ ?_, fun h v ev => nx _ ?_⟩
        · rw [e, if_neg (by rw [decide_eq_false h]; decide), or_0]
        · rw [e, if_pos (decide_eq_true h), ev]; rfl
  exact loop _ 0 rfl (by omega)
theorem e_knowersX {t : Nat} {post : Int32 → Prop} (hR : RNG td) (hG : XG td S mi av be cl hu kn lv sn) (hd : singers = td 1) (ht : t < 31) (hp : post (mkB (fun o => hb (S 1 o) t) (cN (td 1)))) : q_wn_X3_knowers_6_0 kn singers (nI t) post := by
  obtain ⟨c, hc, -, hc6, -⟩ := iv_nI (show iv 0 6 (td 1) from hR 1 (by omega)) (by decide)
  rw [hc, cN_nI (by omega)] at hp
  intro P hP
  have loop : ∀ m j, m = c - j → j ≤ c → P (mkB (fun o => hb (S 1 o) t) j) (nI j) := by
    intro m
    induction m using Nat.strongRecOn with
    | ind m ih =>
      intro j hm hj
      apply hP
      rw [hd, hc]
      refine pk_le c j (fun h9 => ?_) (fun h9 => ⟨vp_in_nI (by omega) (by omega), ?_⟩)
      · rw [show j = c by omega]; exact hp
      · have nx : ∀ y : Int32, y = mkB (fun o => hb (S 1 o) t) (j + 1) → q_wn_X3_knowers_6_35 P kn (nI c) (nI t) y (nI j) post := by
          intro y hy v e
          rw [e, hy, nI_1]
          exact ih (c - (j + 1)) (by omega) (j + 1) rfl (by omega)
        have e : mkB (fun o => hb (S 1 o) t) (j + 1) = mkB (fun o => hb (S 1 o) t) j ||| (if hb (S 1 j) t = true then bitI j else 0) := rfl
        rw [nI_clamp (by omega), hG.2.2.1 j (by omega)]
        refine e_hasX ht (fun h => iz (nx _ ?_)) (fun h => oi (fun v ev => nx _ ?_))
        · rw [e, if_neg (by rw [h]; decide), or_0]
        · rw [e, if_pos h, ev]; rfl
  exact loop _ 0 rfl (by omega)
/-- the ways that can be walked now -/
theorem e_openX {post : (Nat → Int32) → Prop} {n : Nat} (hn : td 0 = nI n) (hn9 : n ≤ 9) (hG : ∀ j, j < 9 → sn j = S 3 j) (h0 : huts = td 0) (h5 : deep = td 5) (hm : ∀ j, j < 81 → minutes j = td (51 + j)) (hp : ∀ op', (∀ a, a < n → ∀ b, b < 32 → hb (op' a) b = (decide (b < n) && wayB td (S 3) a b)) → post op') : q_wn_X3_openWays_6_0 sn op huts deep minutes post := by
  intro P hP
  have loop : ∀ m a (op1 : Nat → Int32), m = n - a → a ≤ n → (∀ a', a' < a → ∀ b, b < 32 → hb (op1 a') b = (decide (b < n) && wayB td (S 3) a' b)) → P (nI a) op1 := by
    intro m
    induction m using Nat.strongRecOn with
    | ind m ih =>
      intro a op1 hma ha hq
      apply hP
      rw [h0, hn]
      refine pk_le n a (fun h9 => ?_) (fun h9 => ⟨vp_in_nI (by omega) (by omega), fun op2 e2 => ?_⟩)
      · exact hp op1 (fun a' ha' => hq a' (by omega))
      · rw [nI_clamp (by omega)] at e2
        intro P2 hP2
        have loop2 : ∀ m b (op3 : Nat → Int32), m = n - b → b ≤ n → (∀ a', a' < a → op3 a' = op1 a') → (∀ b', b' < 32 → hb (op3 a) b' = (decide (b' < b) && wayB td (S 3) a b')) → P2 (nI b) op3 := by
          intro m
          induction m using Nat.strongRecOn with
          | ind m ih2 =>
            intro b op3 hmb hble hold hrow
            apply hP2
            refine pk_le n b (fun h8 v ev => ?_) (fun h8 => ?_)
            · rw [ev, nI_1]
              refine ih (n - (a + 1)) (by omega) (a + 1) op3 rfl (by omega) (fun a' ha' b' hb' => ?_)
              by_cases e : a' = a
              · subst e
                rw [hrow b' hb', show b = n by omega]
              · rw [hold a' (by omega)]
                exact hq a' (by omega) b' hb'
            · have ei : (nI a * 9) + nI b = nI (9 * a + b) := by rw [jx9, Nat.mul_comm]
              have nx : ∀ op4 : Nat → Int32, (∀ a', a' < a → op4 a' = op1 a') → (∀ b', b' < 32 → hb (op4 a) b' = (decide (b' < b + 1) && wayB td (S 3) a b')) → q_wn_X3_openWays_6_71 P P2 sn op4 (nI n) deep minutes (nI a) (nI b) post := by
                intro op4 h1 h2 v ev
                rw [ev, nI_1]
                exact ih2 (n - (b + 1)) (by omega) (b + 1) op4 rfl (by omega) h1 h2
              have stay : wayB td (S 3) a b = false → q_wn_X3_openWays_6_71 P P2 sn op3 (nI n) deep minutes (nI a) (nI b) post := fun hf => nx op3 hold (fun b' hb' => by
                rw [hrow b' hb']
                by_cases e : b' = b
                · subst e; rw [hf, Bool.and_false, Bool.and_false]
                · by_cases hlt : b' < b
                  · rw [decide_eq_true hlt, decide_eq_true (by omega)]
                  · rw [decide_eq_false hlt, decide_eq_false (by omega)])
              rw [ei]
              refine ⟨vp_in_nI (by omega) (by omega), ?_⟩
              rw [nI_clamp (by omega), hm (9 * a + b) (by omega), show 51 + (9 * a + b) = 51 + 9 * a + b by omega]
              have w0 : ∀ x y : Bool, decide (sn a < td 5) = x → decide (sn b < td 5) = y → ∀ z : Bool, decide (0 < td (51 + 9 * a + b)) = z → wayB td (S 3) a b = (z && x && y) := by
                intro x y hx hy z hz
                unfold wayB
                rw [← hx, ← hy, ← hz, hG a (by omega), hG b (by omega)]
              refine ⟨fun hle => stay ?_, fun hlt => ?_⟩
              · rw [w0 _ _ rfl rfl false (decide_eq_false (Int32.not_lt.mpr hle))]; rfl
              · have hz : decide (0 < td (51 + 9 * a + b)) = true := decide_eq_true (Int32.not_le.mp hlt)
                refine e_cutX (sn' := sn) h5 (by omega) rfl (fun q1 => zi ?_) (fun q1 => io (stay ?_))
                · refine e_cutX (sn' := sn) h5 (by omega) rfl (fun q2 => zi ⟨vp_in_nI (by omega) (by omega), fun v ev => ⟨vp_in_nI (by omega) (by omega), fun op4 e4 => nx op4 (fun a' ha' => ?_) (fun b' hb' => ?_)⟩⟩) (fun q2 => io (stay ?_))
                  · rw [e4, nI_clamp (by omega), up_n (by omega)]; exact hold a' ha'
                  · rw [nI_clamp (by omega)] at ev e4
                    rw [e4, up_s, ev, hb_or, hrow b' hb', show (1 : Int32) <<< (nI b &&& 31) = bitI b from rfl, hb_b32 (by omega) hb']
                    by_cases e : b' = b
                    · subst e
                      rw [w0 true true q1 q2 true hz, decide_eq_true (rfl : b' = b'), decide_eq_true (Nat.lt_succ_self b'), Bool.or_true]; rfl
                    · rw [de_ne e, Bool.or_false]
                      by_cases hlt : b' < b
                      · rw [decide_eq_true hlt, decide_eq_true (by omega)]
                      · rw [decide_eq_false hlt, decide_eq_false (by omega)]
                  · rw [w0 _ _ q1 q2 true hz]; rfl
                · rw [w0 _ _ q1 rfl true hz]; rfl
        exact loop2 _ 0 op2 rfl (by omega) (fun a' ha' => by rw [e2, up_n (by omega)]) (fun b' hb' => by rw [e2, up_s, hb_0, decide_eq_false (Nat.not_lt_zero b')]; rfl)
  exact loop _ 0 op rfl (by omega) (fun a' ha' => absurd ha' (Nat.not_lt_zero a'))
theorem e_lowX {s n f : Nat} {post : Int32 → Prop} (hR : RNG td) (hN : NOK td S) (hG : XG td S mi av be cl hu kn lv sn) (hD : LX td huts singers dams echoes deep heights ladders minutes echoFrom echoTo talls) (hn : td 0 = nI n) (hn9 : n ≤ 9) (hs : s < 6) (hl : nI s < td 1) (hf : S 0 s = nI f) (hfn : f < n) (ho : ∀ a, a < n → ∀ b, b < 32 → hb (op a) b = (decide (b < n) && wayB td (S 3) a b)) (hp : ∀ low, (∀ L : Int32, L ≤ 1000 → (low < L ↔ anyB (fun h => clB (wayB td (S 3)) n f h && (!dam td h && decide (td (7 + h) - td (31 + s) < L))) n = true)) → post low) : q_wn_X3_lowest_6_0 hu op huts dams heights talls (nI s) post := by
  refine ⟨vp_in_nI hs (by omega), ?_⟩
  rw [nI_clamp (by omega), hG.2.1 s hs hl, hf]
  refine e_reachN (n := n) (f := f) (bar := 0) hn9 hfn rfl rfl (fun a ha b hb1 h => ?_) (fun set hset => ?_)
  · rw [ho a ha b hb1, Bool.and_eq_true] at h
    exact of_decide_eq_true h.1
  have hcl : ∀ h, h < n → hb set h = clB (wayB td (S 3)) n f h := by
    intro h hh
    rw [hset h (by omega), decide_eq_true hh, Bool.true_and]
    refine clB_ext (fun a b ha hb1 => ?_)
    rw [ho a ha b (by omega), hb_0, decide_eq_true hb1]
    simp
  intro P hP
  have loop : ∀ m h (x : Int32), m = n - h → h ≤ n → (∀ L : Int32, L ≤ 1000 → (x < L ↔ anyB (fun h => clB (wayB td (S 3)) n f h && (!dam td h && decide (td (7 + h) - td (31 + s) < L))) h = true)) → P x (nI h) := by
    intro m
    induction m using Nat.strongRecOn with
    | ind m ih =>
      intro h x hm hh hx
      apply hP
      rw [hD.1, hn]
      refine pk_le n h (fun h9 => hp x (fun L hL => by rw [hx L hL, show h = n by omega])) (fun h9 => ?_)
      have nx : ∀ y : Int32, (∀ L : Int32, L ≤ 1000 → (y < L ↔ anyB (fun h => clB (wayB td (S 3)) n f h && (!dam td h && decide (td (7 + h) - td (31 + s) < L))) (h + 1) = true)) → q_wn_X3_lowest_6_71 P hu op (nI n) dams heights talls (nI s) set y (nI h) post := by
        intro y hy v ev
        rw [ev, nI_1]
        exact ih (n - (h + 1)) (by omega) (h + 1) y rfl (by omega) hy
      have st : ∀ L : Int32, anyB (fun h => clB (wayB td (S 3)) n f h && (!dam td h && decide (td (7 + h) - td (31 + s) < L))) (h + 1) = (anyB (fun h => clB (wayB td (S 3)) n f h && (!dam td h && decide (td (7 + h) - td (31 + s) < L))) h || (clB (wayB td (S 3)) n f h && (!dam td h && decide (td (7 + h) - td (31 + s) < L)))) := fun _ => rfl
      refine e_hasX (by omega) (fun hh0 => iz (nx x (fun L hL => ?_))) (fun hh1 => oi ?_)
      · rw [hcl h h9] at hh0
        rw [st, hh0, Bool.false_and, Bool.or_false]
        exact hx L hL
      · rw [hcl h h9] at hh1
        refine e_damX (by omega) (fun hd0 => zi ⟨vp_in_nI (by omega) (by omega), vp_in_nI hs (by omega), fun v ev => nx v (fun L hL => ?_)⟩) (fun hd1 => io (nx x (fun L hL => ?_)))
        · rw [nI_clamp (by omega), nI_clamp (by omega), hD.2.2.2.2.2.1 h (by omega) (by rw [hn]; exact nI_lt h9 (by omega)), hD.2.2.2.2.2.2.2.2.2 s hs hl] at ev
          rw [hD.2.2.1] at hd0
          have hd0' : dam td h = false := hd0
          rw [ev, min_lt, st, hh1, hd0', Bool.or_eq_true, hx L hL]
          constructor
          · rintro (q | q)
            · exact Or.inr (by rw [decide_eq_true q]; rfl)
            · exact Or.inl q
          · rintro (q | q)
            · exact Or.inr q
            · exact Or.inl (of_decide_eq_true (by simpa using q))
        · rw [hD.2.2.1] at hd1
          have hd1' : dam td h = true := hd1
          rw [st, hd1', Bool.not_true, Bool.false_and, Bool.and_false, Bool.or_false]
          exact hx L hL
  refine loop _ 0 1000 rfl (by omega) (fun L hL => ?_)
  constructor
  · intro h
    exact absurd h (Int32.not_lt.mpr hL)
  · intro h
    exact absurd (show false = true from h) (by decide)
theorem e_doneForX {post : Int32 → (Nat → Int32) → Prop} (hR : RNG td) (hN : NOK td S) (hG : XG td S mi av be cl hu kn lv sn) (hD : LX td huts singers dams echoes deep heights ladders minutes echoFrom echoTo talls) (hp : ∀ op', post (DF td S) op') : q_wn_X3_doneFor_6_0 be hu kn lv sn op huts singers dams deep heights minutes talls post := by
  obtain ⟨n, hn, -, hn9, -⟩ := iv_nI (show iv 0 9 (td 0) from hR 0 (by omega)) (by decide)
  obtain ⟨c, hc, -, hc6, -⟩ := iv_nI (show iv 0 6 (td 1) from hR 1 (by omega)) (by decide)
  refine e_openX hn (by omega) hG.2.2.2.2.1 hD.1 hD.2.2.2.2.1 hD.2.2.2.2.2.2.2.1 (fun op1 ho => ?_)
  have fin : ∀ r : Int32, (∀ t, t < 5 → hb r t = (hb (S 5 0) t && !dnB td S t)) → (∀ k, k < 32 → 5 ≤ k → hb r k = false) → post r op1 := by
    intro r h1 h2
    have e : r = DF td S := by
      apply hb_eq
      intro k hk
      unfold DF
      rw [hb_mkB hk 5 (by omega)]
      by_cases h5 : k < 5
      · rw [decide_eq_true h5, Bool.true_and]; exact h1 k h5
      · rw [decide_eq_false h5, Bool.false_and]; exact h2 k hk (by omega)
    rw [e]
    exact hp op1
  have un : ∀ t, dnB td S t = anyB (dsB td S t) c := by
    intro t
    unfold dnB
    rw [hc, cN_nI (by omega)]
  intro P hP
  have loop : ∀ m s (x : Int32), m = c - s → s ≤ c → (∀ t, t < 5 → hb x t = (hb (S 5 0) t && !anyB (dsB td S t) s)) → (∀ k, k < 32 → 5 ≤ k → hb x k = false) → P x (nI s) := by
    intro m
    induction m using Nat.strongRecOn with
    | ind m ih =>
      intro s x hm hs hx hx5
      apply hP
      rw [hD.2.1, hc]
      refine pk_le c s (fun h9 => ?_) (fun h9 => ?_)
      · exact fin x (fun t ht => by rw [hx t ht, un, show s = c by omega]) hx5
      · have hlc : nI s < td 1 := by rw [hc]; exact nI_lt h9 (by omega)
        obtain ⟨f, ef, -, hf8, -⟩ := iv_nI (hN.1 s (by omega)) (by decide)
        have hfn : f < n := by
          have h7 := hN.2.2.2.2.1 s (by omega) hlc
          rw [ef, hn] at h7
          exact (nI_ltI (by omega) (by omega)).mp h7
        refine e_lowX hR hN hG hD hn (by omega) (by omega) hlc ef hfn ho (fun low hlow => ?_)
        have hlv : ∀ t, t < 5 → (low < S 4 t ↔ anyB (spB td S t s) n = true) := by
          intro t ht
          have h1000 : S 4 t ≤ 1000 := by
            rw [Int32.le_iff_toInt_le]
            have := (hN.2.2.2.2.2.1 t ht).2
            have e1000 : (1000 : Int32).toInt = 1000 := rfl
            omega
          rw [hlow (S 4 t) h1000]
          have e : anyB (fun h => clB (wayB td (S 3)) n f h && (!dam td h && decide (td (7 + h) - td (31 + s) < S 4 t))) n = anyB (spB td S t s) n := any_ext n (fun h hh => by unfold spB; rw [hn, cN_nI (by omega), ef, cN_nI (by omega)])
          rw [e]
        have dse : ∀ t, dsB td S t s = (hb (S 1 s) t && anyB (spB td S t s) n) := by
          intro t
          unfold dsB
          rw [hn, cN_nI (by omega)]
        intro P2 hP2
        have loop2 : ∀ m t (y : Int32), m = 5 - t → t ≤ 5 → (∀ t', t' < 5 → hb y t' = (hb (S 5 0) t' && !anyB (dsB td S t') (if t' < t then s + 1 else s))) → (∀ k, k < 32 → 5 ≤ k → hb y k = false) → P2 y (nI t) := by
          intro m
          induction m using Nat.strongRecOn with
          | ind m ih2 =>
            intro t y hm2 ht hy hy5
            apply hP2
            refine pk_le 5 t (fun h8 v ev => ?_) (fun h8 => ⟨vp_in_nI (by omega) (by omega), ?_⟩)
            · rw [ev, nI_1]
              exact ih (c - (s + 1)) (by omega) (s + 1) y rfl (by omega) (fun t' ht' => by rw [hy t' ht', if_pos (by omega)]) hy5
            · have nx : ∀ z : Int32, (∀ t', t' < 5 → hb z t' = (hb (S 5 0) t' && !anyB (dsB td S t') (if t' < t + 1 then s + 1 else s))) → (∀ k, k < 32 → 5 ≤ k → hb z k = false) → q_wn_X3_doneFor_6_72 P P2 be hu kn lv sn op1 huts (nI c) dams deep heights minutes talls z (nI s) low (nI t) post := by
                intro z hz hz5 v ev
                rw [ev, nI_1]
                exact ih2 (5 - (t + 1)) (by omega) (t + 1) z rfl (by omega) hz hz5
              have step : ∀ t', t' < 5 → ¬ t' = t → (if t' < t + 1 then s + 1 else s) = (if t' < t then s + 1 else s) := by
                intro t' _ hne
                by_cases e : t' < t
                · rw [if_pos e, if_pos (by omega)]
                · rw [if_neg e, if_neg (by omega)]
              have an1 : ∀ t', anyB (dsB td S t') (s + 1) = (anyB (dsB td S t') s || dsB td S t' s) := fun _ => rfl
              have stay : dsB td S t s = false → q_wn_X3_doneFor_6_72 P P2 be hu kn lv sn op1 huts (nI c) dams deep heights minutes talls y (nI s) low (nI t) post := fun hf => nx y (fun t' ht' => by
                rw [hy t' ht']
                by_cases e : t' = t
                · subst e
                  rw [if_neg (Nat.lt_irrefl t'), if_pos (Nat.lt_succ_self t'), an1, hf, Bool.or_false]
                · rw [step t' ht' e]) hy5
              rw [nI_clamp (by omega), hG.2.2.1 s (by omega)]
              refine e_hasX (by omega) (fun h0 => iz (stay (by rw [dse, h0]; rfl))) (fun h1 => oi ⟨vp_in_nI h8 (by omega), ?_⟩)
              rw [nI_clamp (by omega), hG.2.2.2.1 t h8]
              refine ⟨fun hle => stay ?_, fun hlt v ev => nx v (fun t' ht' => ?_) (fun k hk h5 => ?_)⟩
              · rw [dse, h1, Bool.true_and, ← Bool.not_eq_true]
                intro hq
                exact absurd ((hlv t h8).mpr hq) (Int32.not_lt.mpr hle)
              · rw [ev, hb_and, hb_not _ (by omega), show (1 : Int32) <<< (nI t &&& 31) = bitI t from rfl, hb_b32 (by omega) (by omega), hy t' ht']
                by_cases e : t' = t
                · subst e
                  rw [if_neg (Nat.lt_irrefl t'), if_pos (Nat.lt_succ_self t'), an1, dse, h1, (hlv t' h8).mp (Int32.not_le.mp hlt)]
                  simp
                · rw [step t' ht' e, de_ne e]
                  simp
              · rw [ev, hb_and, hy5 k hk h5]; rfl
        exact loop2 _ 0 x rfl (by omega) (fun t' ht' => by rw [hx t' ht', if_neg (Nat.not_lt_zero t')]) hx5
  rw [hG.2.2.2.2.2.1]
  rw [hG.2.2.2.2.2.1] at hP
  exact loop _ 0 (S 5 0) rfl (by omega) (fun t ht => by show _ = (hb (S 5 0) t && !false); simp) (fun k hk h5 => hb_hi hN.2.2.2.1 hk h5)
theorem e_lookSingerX {s d : Nat} {x : Int32} {post : Int32 → Prop} (hR : RNG td) (hN : NOK td S) (hG : XG td S mi av be cl hu kn lv sn) (hD : LX td huts singers dams echoes deep heights ladders minutes echoFrom echoTo talls) (hs : s < 6) (hl : nI s < td 1) (hd : d < 100) (hx : x = nI d) (hp : post (if d = 3 then S 0 s else if d = 4 then S 1 s else if d = 5 then S 2 s else hgh td (S 0) (S 2) s)) : q_wn_X3_lookSinger_6_0 cl hu kn heights ladders talls x (nI s) post := by
  subst hx
  have hin : vp_in (nI s) 6 := vp_in_nI hs (by omega)
  refine ⟨fun hd2 => ?_, fun h3 => ⟨hin, ?_⟩, fun h3 => ⟨hin, ?_⟩, fun h3 => ?_⟩
  · rw [nI_toInt (by omega)] at hd2
    rw [if_neg (by omega), if_neg (by omega), if_neg (by omega)] at hp
    exact e_highX hR hN hG hD hs hl hp
  · have := (nI_eq (a := d) (b := 3) (by omega) (by omega)).mp h3
    rw [if_pos this] at hp
    rw [nI_clamp (by omega), hG.2.1 s hs hl]; exact hp
  · have := (nI_eq (a := d) (b := 4) (by omega) (by omega)).mp h3
    rw [if_neg (by omega), if_pos this] at hp
    rw [nI_clamp (by omega), hG.2.2.1 s hs]; exact hp
  · have := (nI_eq (a := d) (b := 5) (by omega) (by omega)).mp h3
    rw [if_neg (by omega), if_neg (by omega), if_pos this] at hp
    have hz := hG.1 s hs
    refine e_hasX (by omega) (fun h0 => iz ?_) (fun h1 => oi ?_)
    · rw [hz] at h0
      rcases hN.2.2.1 s hs with e | e
      · rw [e] at hp; exact hp
      · rw [e] at h0; exact absurd h0 (by decide)
    · rw [hz] at h1
      rw [of_decide_eq_true h1] at hp; exact hp
set_option maxHeartbeats 4000000 in
theorem e_lookX {w : Int32} {post : Int32 → (Nat → Int32) → Prop} (hR : RNG td) (hN : NOK td S) (hG : XG td S mi av be cl hu kn lv sn) (hD : LX td huts singers dams echoes deep heights ladders minutes echoFrom echoTo talls) (hp : ∀ op', post (LKN td S w) op') : q_wn_X3_look_6_0 mi av be cl hu kn lv sn op huts singers dams deep heights ladders minutes talls w post := by
  have b1 : iv 0 6 (td 1) := hR 1 (by omega)
  have b0 : iv 0 9 (td 0) := hR 0 (by omega)
  unfold LKN at hp
  refine ⟨fun h => ?_, fun h => ⟨fun h79 => fun v1 e1 => ?_, fun h79 => ?_⟩⟩
  · rw [if_neg (fun h9 => absurd h (Int32.not_lt.mpr h9.1))] at hp; exact hp _
  · rw [if_pos ⟨Int32.not_lt.mp h, h79⟩] at hp
    obtain ⟨n, hn, rfl⟩ := nI_of2 (M := 79) (n := 79) (by decide) h h79
    rw [cN_nI (by omega)] at hp
    unfold LKn at hp
    rw [(dm10 (n := n) (by omega)).2] at e1
    subst e1
    rw [(dm10 (n := n) (by omega)).1]
    have sg : ¬ n / 10 = 0 → ¬ n / 10 = 1 → ¬ n / 10 = 2 → ¬ n / 10 = 7 → q_wn_X3_look_6_135 mi av be cl hu kn lv sn op huts singers dams deep heights ladders minutes talls (nI n) (nI (n % 10)) post := by
      intro c0 c1 c2 c7
      rw [if_neg c0, if_neg c1, if_neg c2, if_neg c7] at hp
      unfold q_wn_X3_look_6_135
      rw [hD.2.1]
      refine e_hsX (fun h => iz ?_) (fun h => oi ?_)
      · rw [if_neg (fun h9 => h ⟨nI_pos' (by omega), h9⟩)] at hp; exact hp _
      · obtain ⟨y, hy, ey⟩ := lt_nI (m := 6) b1 h
        have hy6 : n % 10 < 6 := by rw [(nI_eq (by omega) (by omega)).mp ey]; exact hy
        rw [if_pos h.2] at hp
        refine e_lookSingerX (d := n / 10) hR hN hG hD hy6 h.2 (by omega) ((dm10 (n := n) (by omega)).1) (hp _)
    refine ⟨fun hd => ?_, fun h0 => ?_, fun h1 => ?_, fun h2 => ?_, fun h3 => ?_, fun h3 => ?_, fun h3 => ?_, fun h3 => ?_, fun h7 => ?_⟩
    · rw [nI_toInt (by omega)] at hd
      omega
    · have c0 := (nI_eq (a := n / 10) (b := 0) (by omega) (by omega)).mp h0
      rw [if_pos c0] at hp
      have hn10 : n % 10 = n := by omega
      rw [hn10]
      refine ⟨fun hd => ?_, fun g => ?_, fun g => ?_, fun g => ?_, fun g => ?_, fun g => ?_⟩
      · rw [nI_toInt (by omega)] at hd
        rw [if_neg (by omega), if_neg (by omega), if_neg (by omega), if_neg (by omega), if_neg (by omega)] at hp
        exact hp _
      · have := (nI_eq (a := n) (b := 0) (by omega) (by omega)).mp g
        rw [if_pos this] at hp
        rw [hG.2.2.2.2.2.2.1]; exact hp _
      · have := (nI_eq (a := n) (b := 1) (by omega) (by omega)).mp g
        rw [if_neg (by omega), if_pos this] at hp
        rw [hG.2.2.2.2.2.2.2]; exact hp _
      · have := (nI_eq (a := n) (b := 2) (by omega) (by omega)).mp g
        rw [if_neg (by omega), if_neg (by omega), if_pos this] at hp
        exact e_seersX hR hG hD.2.1 (hp _)
      · have := (nI_eq (a := n) (b := 3) (by omega) (by omega)).mp g
        rw [if_neg (by omega), if_neg (by omega), if_neg (by omega), if_pos this] at hp
        rw [hG.2.2.2.2.2.1]; exact hp _
      · have := (nI_eq (a := n) (b := 4) (by omega) (by omega)).mp g
        rw [if_neg (by omega), if_neg (by omega), if_neg (by omega), if_neg (by omega), if_pos this] at hp
        exact e_doneForX hR hN hG hD (fun op' => hp op')
    · have c1 := (nI_eq (a := n / 10) (b := 1) (by omega) (by omega)).mp h1
      rw [if_neg (by omega), if_pos c1] at hp
      refine pk_le 5 (n % 10) (fun h5 => ?_) (fun h5 => ⟨vp_in_nI h5 (by omega), ?_⟩)
      · rw [if_neg (by omega)] at hp; exact hp _
      · rw [if_pos h5] at hp
        rw [nI_clamp (by omega), hG.2.2.2.1 _ h5]; exact hp _
    · have c1 := (nI_eq (a := n / 10) (b := 2) (by omega) (by omega)).mp h2
      rw [if_neg (by omega), if_neg (by omega), if_pos c1] at hp
      refine pk_le 5 (n % 10) (fun h5 => ?_) (fun h5 => ?_)
      · rw [if_neg (by omega)] at hp; exact hp _
      · rw [if_pos h5] at hp
        unfold FAME at hp
        obtain ⟨c, hc, -, hc6, -⟩ := iv_nI b1 (by decide)
        rw [hc, cN_nI (by omega)] at hp
        refine e_knowersX hR hG hD.2.1 (by omega) ?_
        rw [hc, cN_nI (by omega)]
        refine e_bc (mkB_iv c (by omega)) ?_
        have e : cntB (hb (mkB (fun o => hb (S 1 o) (n % 10)) c)) 9 = cntB (fun o => hb (S 1 o) (n % 10)) c := by
          rw [← cnt_tr (p := fun o => hb (S 1 o) (n % 10)) (c := c) 9 (by omega)]
          exact cnt_ext 9 (fun k hk => hb_mkB (by omega) c (by omega))
        rw [e]
        exact hp _
    · have := (nI_eq (a := n / 10) (b := 3) (by omega) (by omega)).mp h3
      exact sg (by omega) (by omega) (by omega) (by omega)
    · have := (nI_eq (a := n / 10) (b := 4) (by omega) (by omega)).mp h3
      exact sg (by omega) (by omega) (by omega) (by omega)
    · have := (nI_eq (a := n / 10) (b := 5) (by omega) (by omega)).mp h3
      exact sg (by omega) (by omega) (by omega) (by omega)
    · have := (nI_eq (a := n / 10) (b := 6) (by omega) (by omega)).mp h3
      exact sg (by omega) (by omega) (by omega) (by omega)
    · have c7 := (nI_eq (a := n / 10) (b := 7) (by omega) (by omega)).mp h7
      rw [if_neg (by omega), if_neg (by omega), if_neg (by omega), if_pos c7] at hp
      rw [hD.1]
      refine e_hhX (fun h => iz ?_) (fun h => oi ?_)
      · rw [if_neg (fun h9 => h ⟨nI_pos' (by omega), h9⟩)] at hp; exact hp _
      · obtain ⟨y, hy, ey⟩ := lt_nI (m := 9) b0 h
        have hy9 : n % 10 < 9 := by rw [(nI_eq (by omega) (by omega)).mp ey]; exact hy
        rw [if_pos h.2] at hp
        refine ⟨vp_in_nI hy9 (by omega), ?_⟩
        rw [nI_clamp (by omega), hG.2.2.2.2.1 _ hy9]; exact hp _
  · rw [if_neg (fun h9 => h79 h9.2)] at hp; exact hp _
end
end
section
/-- there is such a state -/
abbrev OKst (M : Nat → Nat → Int32) (a b c : Int32) : Prop := ((0 ≤ a ∧ a < M 4 0) ∧ (0 ≤ b ∧ b < M 4 1)) ∧ (0 ≤ c ∧ c ≤ rowM M 1 b 0) ∧ nI (PL M a b (cN c)).1 = c
noncomputable def AN_state (M : Nat → Nat → Int32) (a b c d : Int32) : Int32 := if OKst M a b c then LKN (rowM M 0 a) (PL M a b (cN c)).2 d else -1000
theorem PL_ok {M : Nat → Nat → Int32} {k : Nat} {b : Int32} {n : Nat} (hL : mLand (M 5)) (hk : k < 2) (hO : LOK (rowM M 0 (nI k))) : NOK (rowM M 0 (nI k)) (PL M (nI k) b n).2 := plays_ok (RNG_M hL hk) _ _ _ (S0_ok (RNG_M hL hk) hO)
set_option maxRecDepth 40000 in
set_option maxHeartbeats 4000000 in
theorem e_m_state {M : Nat → Nat → Int32} {f_code f_land f_huts f_singers f_evening f_begun f_minute f_avalanches a b c d : Int32} {a_at a_knows a_climbed a_snow a_level : Nat → Int32} {post : Int32 → (Int32) → (Int32) → (Int32) → (Int32) → (Int32) → (Nat → Int32) → (Nat → Int32) → (Nat → Int32) → (Nat → Int32) → (Nat → Int32) → (Int32) → (Int32) → (Int32) → Prop} (hc : ∀ o, iv 0 2 (M 4 o)) (hL : mLand (M 5)) (hE : mEve (M 6)) (hK : LK M) (hp : ∀ z0 z1 z2 z3 z4 z5 z6 z7 z8 z9 z10 z11 z12, post (AN_state M a b c d) z0 z1 z2 z3 z4 z5 z6 z7 z8 z9 z10 z11 z12) : q_m_state_0 f_code (M 4) (M 5) (M 6) f_land f_huts f_singers f_evening a_at a_knows a_climbed a_snow a_level f_begun f_minute f_avalanches a b c d post := by
  unfold AN_state at hp
  have no : ¬ OKst M a b c → ∀ z0 z1 z2 z3 z4 z5 z6 z7 z8 z9 z10 z11 z12, post (-1000) z0 z1 z2 z3 z4 z5 z6 z7 z8 z9 z10 z11 z12 := fun hn => by rw [if_neg hn] at hp; exact hp
  refine e_layAllM hc (fun hn x y z w => iz (no (fun h9 => hn h9.1) _ _ _ _ _ _ _ _ _ _ _ _ _)) (fun k e hk he ea eb h1 h2 => oi ?_)
  subst ea eb
  have hO : LOK (rowM M 0 (nI k)) := LK_row hK hk h1.2
  refine e_deedsM he (sp_in (fun hn => iz (no (fun h9 => hn h9.2.1) _ _ _ _ _ _ _ _ _ _ _ _ _)) (fun g1 g2 => oi ?_))
  obtain ⟨d0, ed, -, hd40, -⟩ := iv_nI (ev0_iv hE he) (by decide)
  have g2' := g2
  rw [ed] at g2'
  obtain ⟨m, hm, rfl⟩ := nI_of2 (M := nI d0) (n := d0) (nI_toInt (by omega)) (Int32.not_lt.mpr g1) g2'
  refine e_playM hk he (by omega) hL hE hO (fun S' hS => ?_)
  have ecl : cN (nI m) = m := cN_nI (by omega)
  refine ⟨fun hne => no (fun h9 => hne (by have := h9.2.2; rw [ecl] at this; exact this)) _ _ _ _ _ _ _ _ _ _ _ _ _, fun heq => ?_⟩
  rw [if_pos ⟨⟨h1, h2⟩, ⟨g1, g2⟩, by rw [ecl]; exact heq⟩, ecl] at hp
  exact e_ofStateM hk hL (PL_ok hL hk hO) hS (hp _ _ _ _ _ _ _ _ _ _ _ _ _)
set_option maxRecDepth 40000 in
set_option maxHeartbeats 4000000 in
theorem e_x_reachState {T : TT} {M : Nat → Nat → Int32} {nf_minute nf_avalanches nf_begun nf_climbed a b c : Int32} {na_huts na_known na_levels na_snow : Nat → Int32} {post : Int32 → (Int32) → (Int32) → (Int32) → (Int32) → (Nat → Int32) → (Nat → Int32) → (Nat → Int32) → (Nat → Int32) → Prop} (h : TM T M 0) (hB : tB T) (hK : LK M) (hL : mLand (M 5)) (hE : mEve (M 6)) (h0 : ¬ OKst M a b c → ∀ n0 n1 n2 n3 n4 n5 n6 n7, post 0 n0 n1 n2 n3 n4 n5 n6 n7) (h1 : OKst M a b c → ∀ n0 n1 n2 n3 n4 n5 n6 n7, XG (rowM M 0 a) (PL M a b (cN c)).2 n0 n1 n2 n3 n4 n5 n6 n7 → post 1 n0 n1 n2 n3 n4 n5 n6 n7) : q_wx_X10_reachState_0 (T.2 1) (T.1 3) (T.1 4) (T.1 6) (T.1 7) (T.1 8) (T.2 2) (T.2 3) (T.2 4) (T.2 5) (T.2 6) (T.2 7) (T.2 8) (T.2 9) (T.1 10) (T.1 11) (T.1 13) (T.1 14) (T.1 15) (T.2 10) (T.2 11) (T.2 12) (T.2 13) (T.2 14) (T.2 15) (T.2 16) (T.2 17) (T.1 17) (T.2 18) (T.2 19) (T.2 20) (T.1 18) (T.2 21) (T.2 22) (T.2 23) nf_minute nf_avalanches nf_begun nf_climbed na_huts na_known na_levels na_snow a b c post := by
  unfold OKst at h0 h1
  rw [TM_cnt h 0 (by decide), TM_cnt h 1 (by decide)] at h0 h1
  refine e_at (hB.2.2.1 0) (fun (hn : ¬ (0 ≤ a ∧ a < T.2 1 0)) => ?_) (fun ea hla => ?_) (fun ea hla => ?_)
  · refine ⟨fun _ => ?_, fun h9 => absurd h9 (by decide), fun h9 => absurd rfl h9⟩
    have h0 := h0 (fun h9 => hn h9.1.1)
    refine e_at (hB.2.2.1 1) (fun (hm : ¬ (0 ≤ b ∧ b < T.2 1 1)) => ?_) (fun eb hlb => ?_) (fun eb hlb => ?_)
    · exact ⟨fun _ => h0 _ _ _ _ _ _ _ _, fun h9 => absurd h9 (by decide), fun h9 => absurd rfl h9⟩
    · exact ⟨fun h9 => absurd h9 (by decide), fun h9 => absurd h9 (by decide), fun _ _ => h0 _ _ _ _ _ _ _ _⟩
    · exact ⟨fun h9 => absurd h9 (by decide), fun _ => h0 _ _ _ _ _ _ _ _, fun _ h9 => absurd rfl h9⟩
  · refine ⟨fun h9 => absurd h9 (by decide), fun h9 => absurd h9 (by decide), fun _ _ => ?_⟩
    refine e_at (hB.2.2.1 1) (fun (hm : ¬ (0 ≤ b ∧ b < T.2 1 1)) => ?_) (fun eb hlb => ?_) (fun eb hlb => ?_)
    · exact ⟨fun _ => h0 (fun h9 => hm h9.1.2) _ _ _ _ _ _ _ _, fun h9 => absurd h9 (by decide), fun h9 => absurd rfl h9⟩
    · subst ea eb
      have hLD : LDR (T.1 3) (T.1 4) (T.1 5) (T.1 6) (T.1 7) (T.1 8) (T.1 9) (T.2 2) (T.2 3) (T.2 4) (T.2 5) (T.2 6) (T.2 7) (T.2 8) (T.2 9) (rowM M 0 (nI 0)) := TM_sl h 0 0 (by decide) (by decide) hla
      have hEV : R3 (T.1 17) (T.2 18) (T.2 19) (T.2 20) (rowM M 1 (nI 0)) := TM_sl h 1 0 (by decide) (by decide) hlb
      have hOK : LOK (rowM M 0 (nI 0)) := LK_row hK (by decide) (by rw [TM_cnt h 0 (by decide)]; exact hla)
      refine ⟨fun h9 => absurd h9 (by decide), fun h9 => absurd h9 (by decide), fun _ _ => ?_⟩
      obtain ⟨d0, ed, -, hd40, -⟩ := iv_nI (ev0_iv hE (e := 0) (by decide)) (by decide)
      have edc : (T.1 17) = nI d0 := hEV.1.trans ed
      refine ⟨fun hneg => h0 (fun h9 => absurd hneg (Int32.not_lt.mpr h9.2.1.1)) _ _ _ _ _ _ _ _, fun hnn => ⟨fun hle => ?_, fun hgt => h0 (fun h9 => hgt (by rw [hEV.1]; exact h9.2.1.2)) _ _ _ _ _ _ _ _⟩⟩
      have hle' := hle
      rw [edc] at hle'
      obtain ⟨m, hm, rfl⟩ := nI_of2 (M := nI d0) (n := d0) (nI_toInt (by omega)) hnn hle'
      have ecl : cN (nI m) = m := cN_nI (by omega)
      rw [ecl] at h0 h1
      refine e_playX (n := m) (RNG_M hL (by decide)) hOK hLD hEV (ev0_iv hE (by decide)) (fun j hj => (eve_iv hE (by decide) hj).1) rfl hle (by omega) (fun mi' av' be' cl' hu' kn' lv' sn' hG => ?_)
      exact ⟨fun hne => h0 (fun h9 => hne h9.2.2) _ _ _ _ _ _ _ _, fun heq => h1 ⟨⟨⟨by decide, hla⟩, by decide, hlb⟩, ⟨Int32.not_lt.mp hnn, by rw [← hEV.1]; exact hle⟩, heq⟩ _ _ _ _ _ _ _ _ hG⟩
    · subst ea eb
      have hLD : LDR (T.1 3) (T.1 4) (T.1 5) (T.1 6) (T.1 7) (T.1 8) (T.1 9) (T.2 2) (T.2 3) (T.2 4) (T.2 5) (T.2 6) (T.2 7) (T.2 8) (T.2 9) (rowM M 0 (nI 0)) := TM_sl h 0 0 (by decide) (by decide) hla
      have hEV : R3 (T.1 18) (T.2 21) (T.2 22) (T.2 23) (rowM M 1 (nI 1)) := TM_sl h 1 1 (by decide) (by decide) hlb
      have hOK : LOK (rowM M 0 (nI 0)) := LK_row hK (by decide) (by rw [TM_cnt h 0 (by decide)]; exact hla)
      refine ⟨fun h9 => absurd h9 (by decide), fun _ => ?_, fun _ h9 => absurd rfl h9⟩
      obtain ⟨d0, ed, -, hd40, -⟩ := iv_nI (ev0_iv hE (e := 1) (by decide)) (by decide)
      have edc : (T.1 18) = nI d0 := hEV.1.trans ed
      refine ⟨fun hneg => h0 (fun h9 => absurd hneg (Int32.not_lt.mpr h9.2.1.1)) _ _ _ _ _ _ _ _, fun hnn => ⟨fun hle => ?_, fun hgt => h0 (fun h9 => hgt (by rw [hEV.1]; exact h9.2.1.2)) _ _ _ _ _ _ _ _⟩⟩
      have hle' := hle
      rw [edc] at hle'
      obtain ⟨m, hm, rfl⟩ := nI_of2 (M := nI d0) (n := d0) (nI_toInt (by omega)) hnn hle'
      have ecl : cN (nI m) = m := cN_nI (by omega)
      rw [ecl] at h0 h1
      refine e_playX (n := m) (RNG_M hL (by decide)) hOK hLD hEV (ev0_iv hE (by decide)) (fun j hj => (eve_iv hE (by decide) hj).1) rfl hle (by omega) (fun mi' av' be' cl' hu' kn' lv' sn' hG => ?_)
      exact ⟨fun hne => h0 (fun h9 => hne h9.2.2) _ _ _ _ _ _ _ _, fun heq => h1 ⟨⟨⟨by decide, hla⟩, by decide, hlb⟩, ⟨Int32.not_lt.mp hnn, by rw [← hEV.1]; exact hle⟩, heq⟩ _ _ _ _ _ _ _ _ hG⟩
  · refine ⟨fun h9 => absurd h9 (by decide), fun _ => ?_, fun _ h9 => absurd rfl h9⟩
    refine e_at (hB.2.2.1 1) (fun (hm : ¬ (0 ≤ b ∧ b < T.2 1 1)) => ?_) (fun eb hlb => ?_) (fun eb hlb => ?_)
    · exact ⟨fun _ => h0 (fun h9 => hm h9.1.2) _ _ _ _ _ _ _ _, fun h9 => absurd h9 (by decide), fun h9 => absurd rfl h9⟩
    · subst ea eb
      have hLD : LDR (T.1 10) (T.1 11) (T.1 12) (T.1 13) (T.1 14) (T.1 15) (T.1 16) (T.2 10) (T.2 11) (T.2 12) (T.2 13) (T.2 14) (T.2 15) (T.2 16) (T.2 17) (rowM M 0 (nI 1)) := TM_sl h 0 1 (by decide) (by decide) hla
      have hEV : R3 (T.1 17) (T.2 18) (T.2 19) (T.2 20) (rowM M 1 (nI 0)) := TM_sl h 1 0 (by decide) (by decide) hlb
      have hOK : LOK (rowM M 0 (nI 1)) := LK_row hK (by decide) (by rw [TM_cnt h 0 (by decide)]; exact hla)
      refine ⟨fun h9 => absurd h9 (by decide), fun h9 => absurd h9 (by decide), fun _ _ => ?_⟩
      obtain ⟨d0, ed, -, hd40, -⟩ := iv_nI (ev0_iv hE (e := 0) (by decide)) (by decide)
      have edc : (T.1 17) = nI d0 := hEV.1.trans ed
      refine ⟨fun hneg => h0 (fun h9 => absurd hneg (Int32.not_lt.mpr h9.2.1.1)) _ _ _ _ _ _ _ _, fun hnn => ⟨fun hle => ?_, fun hgt => h0 (fun h9 => hgt (by rw [hEV.1]; exact h9.2.1.2)) _ _ _ _ _ _ _ _⟩⟩
      have hle' := hle
      rw [edc] at hle'
      obtain ⟨m, hm, rfl⟩ := nI_of2 (M := nI d0) (n := d0) (nI_toInt (by omega)) hnn hle'
      have ecl : cN (nI m) = m := cN_nI (by omega)
      rw [ecl] at h0 h1
      refine e_playX (n := m) (RNG_M hL (by decide)) hOK hLD hEV (ev0_iv hE (by decide)) (fun j hj => (eve_iv hE (by decide) hj).1) rfl hle (by omega) (fun mi' av' be' cl' hu' kn' lv' sn' hG => ?_)
      exact ⟨fun hne => h0 (fun h9 => hne h9.2.2) _ _ _ _ _ _ _ _, fun heq => h1 ⟨⟨⟨by decide, hla⟩, by decide, hlb⟩, ⟨Int32.not_lt.mp hnn, by rw [← hEV.1]; exact hle⟩, heq⟩ _ _ _ _ _ _ _ _ hG⟩
    · subst ea eb
      have hLD : LDR (T.1 10) (T.1 11) (T.1 12) (T.1 13) (T.1 14) (T.1 15) (T.1 16) (T.2 10) (T.2 11) (T.2 12) (T.2 13) (T.2 14) (T.2 15) (T.2 16) (T.2 17) (rowM M 0 (nI 1)) := TM_sl h 0 1 (by decide) (by decide) hla
      have hEV : R3 (T.1 18) (T.2 21) (T.2 22) (T.2 23) (rowM M 1 (nI 1)) := TM_sl h 1 1 (by decide) (by decide) hlb
      have hOK : LOK (rowM M 0 (nI 1)) := LK_row hK (by decide) (by rw [TM_cnt h 0 (by decide)]; exact hla)
      refine ⟨fun h9 => absurd h9 (by decide), fun _ => ?_, fun _ h9 => absurd rfl h9⟩
      obtain ⟨d0, ed, -, hd40, -⟩ := iv_nI (ev0_iv hE (e := 1) (by decide)) (by decide)
      have edc : (T.1 18) = nI d0 := hEV.1.trans ed
      refine ⟨fun hneg => h0 (fun h9 => absurd hneg (Int32.not_lt.mpr h9.2.1.1)) _ _ _ _ _ _ _ _, fun hnn => ⟨fun hle => ?_, fun hgt => h0 (fun h9 => hgt (by rw [hEV.1]; exact h9.2.1.2)) _ _ _ _ _ _ _ _⟩⟩
      have hle' := hle
      rw [edc] at hle'
      obtain ⟨m, hm, rfl⟩ := nI_of2 (M := nI d0) (n := d0) (nI_toInt (by omega)) hnn hle'
      have ecl : cN (nI m) = m := cN_nI (by omega)
      rw [ecl] at h0 h1
      refine e_playX (n := m) (RNG_M hL (by decide)) hOK hLD hEV (ev0_iv hE (by decide)) (fun j hj => (eve_iv hE (by decide) hj).1) rfl hle (by omega) (fun mi' av' be' cl' hu' kn' lv' sn' hG => ?_)
      exact ⟨fun hne => h0 (fun h9 => hne h9.2.2) _ _ _ _ _ _ _ _, fun heq => h1 ⟨⟨⟨by decide, hla⟩, by decide, hlb⟩, ⟨Int32.not_lt.mp hnn, by rw [← hEV.1]; exact hle⟩, heq⟩ _ _ _ _ _ _ _ _ hG⟩

set_option maxRecDepth 40000 in
set_option maxHeartbeats 4000000 in
theorem e_x_state {T : TT} {M : Nat → Nat → Int32} {nf_minute nf_avalanches nf_begun nf_climbed a b c d : Int32} {na_huts na_known na_levels na_snow na_open : Nat → Int32} {post : Int32 → (Int32) → (Int32) → (Int32) → (Int32) → (Nat → Int32) → (Nat → Int32) → (Nat → Int32) → (Nat → Int32) → (Nat → Int32) → Prop} (h : TM T M 0) (hB : tB T) (hK : LK M) (hL : mLand (M 5)) (hE : mEve (M 6)) (hp : ∀ z0 z1 z2 z3 z4 z5 z6 z7 z8, post (AN_state M a b c d) z0 z1 z2 z3 z4 z5 z6 z7 z8) : q_wx_X10_state_0 (T.2 1) (T.1 3) (T.1 4) (T.1 6) (T.1 7) (T.1 8) (T.2 2) (T.2 3) (T.2 4) (T.2 5) (T.2 6) (T.2 7) (T.2 8) (T.2 9) (T.1 10) (T.1 11) (T.1 13) (T.1 14) (T.1 15) (T.2 10) (T.2 11) (T.2 12) (T.2 13) (T.2 14) (T.2 15) (T.2 16) (T.2 17) (T.1 17) (T.2 18) (T.2 19) (T.2 20) (T.1 18) (T.2 21) (T.2 22) (T.2 23) nf_minute nf_avalanches nf_begun nf_climbed na_huts na_known na_levels na_snow na_open a b c d post := by
  unfold AN_state at hp
  refine e_x_reachState h hB hK hL hE (fun hn n0 n1 n2 n3 n4 n5 n6 n7 => ?_) (fun hy n0 n1 n2 n3 n4 n5 n6 n7 hG => ?_)
  · rw [if_neg hn] at hp
    exact ⟨fun _ => hp _ _ _ _ _ _ _ _ _, fun h9 => absurd rfl h9⟩
  · rw [if_pos hy] at hp
    refine ⟨fun h9 => absurd h9 (by decide), fun _ => ?_⟩
    have hy0 := hy.1.1
    rw [TM_cnt h 0 (by decide)] at hy0
    obtain ⟨k, hk, ea⟩ := lt_nI (m := 2) (hB.2.2.1 0) hy0
    subst ea
    have hOK : LOK (rowM M 0 (nI k)) := LK_row hK hk (by rw [TM_cnt h 0 (by decide)]; exact hy0.2)
    have hNK := PL_ok (b := b) (n := cN c) hL hk hOK
    have hk2 : k = 0 ∨ k = 1 := by omega
    rcases hk2 with rfl | rfl
    · have hLD : LDR (T.1 3) (T.1 4) (T.1 5) (T.1 6) (T.1 7) (T.1 8) (T.1 9) (T.2 2) (T.2 3) (T.2 4) (T.2 5) (T.2 6) (T.2 7) (T.2 8) (T.2 9) (rowM M 0 (nI 0)) := TM_sl h 0 0 (by decide) (by decide) hy0.2
      refine ⟨vp_in_nI (by decide) (by decide), fun h9 => ?_, fun h9 => ?_⟩
      · exact e_lookX (RNG_M hL (by decide)) hNK hG (LX_of (RNG_M hL (by decide)) hLD) (fun op' => hp _ _ _ _ _ _ _ _ _)
      · exact absurd rfl h9
    · have hLD : LDR (T.1 10) (T.1 11) (T.1 12) (T.1 13) (T.1 14) (T.1 15) (T.1 16) (T.2 10) (T.2 11) (T.2 12) (T.2 13) (T.2 14) (T.2 15) (T.2 16) (T.2 17) (rowM M 0 (nI 1)) := TM_sl h 0 1 (by decide) (by decide) hy0.2
      refine ⟨vp_in_nI (by decide) (by decide), fun h9 => ?_, fun h9 => ?_⟩
      · exact absurd h9 (by decide)
      · exact e_lookX (RNG_M hL (by decide)) hNK hG (LX_of (RNG_M hL (by decide)) hLD) (fun op' => hp _ _ _ _ _ _ _ _ _)
end
section
theorem ln_oJ {td : Nat → Int32} (hR : RNG td) : ∃ n, td 0 = nI n ∧ n ≤ 9 := by
  obtain ⟨n, h, -, hn, -⟩ := iv_nI (show iv 0 9 (td 0) from hR 0 (by omega)) (by decide)
  exact ⟨n, h, by omega⟩
/-- the drawing: seed, number below x -/
def sdN (v : Int32) : Int32 := (v * 1103515245) + 12345
def rdn (v x : Int32) : Int32 := (Int32.toUInt32 v >>> (Int32.toUInt32 16 &&& Int32.toUInt32 31)).toInt32 - (Int32.toUInt32 v >>> (Int32.toUInt32 16 &&& Int32.toUInt32 31)).toInt32 / x * x
theorem rdn_16 (v : Int32) : ∃ w, w < 65536 ∧ (Int32.toUInt32 v >>> (Int32.toUInt32 16 &&& Int32.toUInt32 31)).toInt32 = nI w := by
  refine ⟨v.toBitVec.toNat / 65536, ?_, ?_⟩
  · have := v.toBitVec.isLt
    omega
  · have g := pk_ushr v 16 16 (by decide)
    apply Int32.toBitVec_inj.mp
    apply BitVec.eq_of_toNat_eq
    rw [g]
    show v.toBitVec.toNat / 2 ^ 16 = (v.toBitVec.toNat / 65536) % 2 ^ 32
    have h9 := v.toBitVec.isLt
    rw [Nat.mod_eq_of_lt (by omega)]
theorem rdn_b {v x : Int32} {m : Nat} (hx : x = nI m) (h0 : 0 < m) (hm : m < 1000) : ∃ j, j < m ∧ rdn v x = nI j := by
  obtain ⟨w, hw, e⟩ := rdn_16 v
  refine ⟨w % m, Nat.mod_lt _ h0, ?_⟩
  unfold rdn
  rw [e, hx]
  exact pk_rem (by omega) h0 (by omega)
theorem e_belowX {seed x : Int32} {m : Nat} {post : Int32 → Int32 → Prop} (hx : x = nI m) (h0 : 0 < m) (hm : m < 1000) (hp : post (rdn (sdN seed) x) (sdN seed)) : q_wn_X3_below_0 seed x post := by
  intro v ev
  have ev' : v = sdN seed := ev
  subst ev'
  exact ⟨fun h => absurd h (by rw [hx]; exact nI_nle h0 (by omega)), fun _ => ⟨by rw [hx]; exact nI_ne0 h0 (by omega), hp⟩⟩
theorem e_drawM {seed x : Int32} {m : Nat} {post : Int32 → Int32 → Prop} (hx : x = nI m) (h0 : 0 < m) (hm : m < 1000) (hp : post (rdn (sdN seed) x) (sdN seed)) : q_m_draw_0 seed x post := by
  intro v ev
  have ev' : v = sdN seed := ev
  subst ev'
  exact ⟨by rw [hx]; exact nI_ne0 h0 (by omega), hp⟩
/-- a drawn deed -/
def drS (td : Nat → Int32) (q : (Nat → Nat → Int32) × Int32) : (Nat → Nat → Int32) × Int32 :=
  if 3 ≤ rdn (sdN (sdN q.2)) 8 then
    ((actS td (if hb (q.1 5 0) (cN (rdn (sdN (sdN (sdN q.2))) 5)) = true then 1 else 0) (rdn (sdN q.2) (td 1)) (rdn (sdN (sdN (sdN q.2))) 5) q.1).2, sdN (sdN (sdN q.2)))
  else ((actS td 3 (rdn (sdN q.2) (td 1)) (rdn (sdN (sdN (sdN q.2))) (td 0)) q.1).2, sdN (sdN (sdN q.2)))
def drs (td : Nat → Int32) (seed : Int32) : Nat → (Nat → Nat → Int32) × Int32
  | 0 => (S0 td, seed)
  | m + 1 => drS td (drs td seed m)
theorem pr1_mk {α β : Type} (a : α) (b : β) : (a, b).1 = a := rfl
theorem pr2_mk {α β : Type} (a : α) (b : β) : (a, b).2 = b := rfl
theorem drS_ok {td : Nat → Int32} {q : (Nat → Nat → Int32) × Int32} (hR : RNG td) (h : NOK td q.1) : NOK td (drS td q).1 := by
  unfold drS
  by_cases c : 3 ≤ rdn (sdN (sdN q.2)) 8
  · rw [if_pos c, pr1_mk]
    exact act_ok hR h
  · rw [if_neg c, pr1_mk]
    exact act_ok hR h
theorem drs_s {td : Nat → Int32} {seed : Int32} {m : Nat} : drs td seed (m + 1) = drS td (drs td seed m) := rfl
theorem drs_ok {td : Nat → Int32} {seed : Int32} (hR : RNG td) (hO : LOK td) (m : Nat) : NOK td (drs td seed m).1 := by
  induction m with
  | zero => exact S0_ok hR hO
  | succ m ih =>
    rw [drs_s]
    exact drS_ok hR ih
noncomputable def DRW (td : Nat → Int32) (b c d : Int32) : Int32 := if (0 ≤ c ∧ c ≤ 60) ∧ ¬ td 1 = 0 then LKN td (drs td b (cN c)).1 d else -1000
noncomputable def AN_drawn (M : Nat → Nat → Int32) (a b c d : Int32) : Int32 := if 0 ≤ a ∧ a < M 4 0 then DRW (rowM M 0 a) b c d else -1000
/-- a drawn deed, the reference -/
theorem e_drawDeedM {M : Nat → Nat → Int32} {S' S : Nat → Nat → Int32} {seed : Int32} {k n s : Nat} {post : (Nat → Int32) → (Nat → Int32) → (Nat → Int32) → (Nat → Int32) → Int32 → Int32 → Int32 → Int32 → Prop} (hk : k < 2) (hL : mLand (M 5)) (hn : tdM M k 0 = nI n) (hn9 : n ≤ 9) (hn0 : 0 < n) (hs : tdM M k 1 = nI s) (hs6 : s ≤ 6) (hs0 : 0 < s) (hN : NOK (tdM M k) S) (hA : AGs S' S)
    (hp : ∀ S2 : Nat → Nat → Int32, S2 2 = S' 2 → AGs S2 (drS (tdM M k) (S, seed)).1 → post (S2 0) (S2 1) (S2 3) (S2 4) (S2 5 0) (S2 5 1) (S2 5 2) (drS (tdM M k) (S, seed)).2) : q_m_drawDeed_0 (M 5) (nI k) (tdM M k 0) (tdM M k 1) (S' 0) (S' 1) (S' 2) (S' 3) (S' 4) (S' 5 0) (S' 5 1) (S' 5 2) seed post := by
  have hR : RNG (tdM M k) := RNG_M hL hk
  have ha : ∀ j, j < 6 → iv 0 8 (S' 0 j) := fun j hj => by rw [(hA.1 j hj).1]; exact hN.1 j hj
  have hkn : ∀ j, j < 6 → iv 0 31 (S' 1 j) := fun j hj => by rw [(hA.1 j hj).2.1]; exact hN.2.1 j hj
  obtain ⟨i, hi, ei⟩ := rdn_b (v := sdN seed) hs hs0 (by omega)
  obtain ⟨w, hw, ew⟩ := rdn_b (v := sdN (sdN seed)) (x := 8) (m := 8) rfl (by omega) (by omega)
  refine e_drawM hs hs0 (by omega) (e_drawM (m := 8) rfl (by omega) (by omega) ⟨fun q => ?_, fun q => ?_⟩)
  · obtain ⟨t, ht, et⟩ := rdn_b (v := sdN (sdN (sdN seed))) (x := 5) (m := 5) rfl (by omega) (by omega)
    have e1 : drS (tdM M k) (S, seed) = ((actS (tdM M k) (if hb (S 5 0) t = true then 1 else 0) (nI i) (nI t) S).2, sdN (sdN (sdN seed))) := by
      unfold drS
      show (if 3 ≤ rdn (sdN (sdN seed)) 8 then _ else _) = _
      rw [if_pos q]
      show ((actS (tdM M k) (if hb (S 5 0) (cN (rdn (sdN (sdN (sdN seed))) 5)) = true then 1 else 0) (rdn (sdN seed) (tdM M k 1)) (rdn (sdN (sdN (sdN seed))) 5) S).2, sdN (sdN (sdN seed))) = _
      rw [ei, et, cN_nI (by omega)]
    rw [e1] at hp
    rw [ei]
    refine e_drawM (m := 5) rfl (by omega) (by omega) ?_
    rw [et]
    have ag := actS_ag (k := if hb (S 5 0) t = true then 1 else 0) (s := nI i) (x := nI t) hR hN hA
    have hbe : S' 5 0 = S 5 0 := hA.2.2.2.1
    have hin : 0 ≤ nI i ∧ nI i < tdM M k 1 := ⟨nI_pos' (by omega), by rw [hs]; exact nI_lt hi (by omega)⟩
    have ix : iv (-1) 8 (nI t) := iv_ofN (by omega) (by omega) (by omega)
    have stay : (actS (tdM M k) (if hb (S 5 0) t = true then 1 else 0) (nI i) (nI t) S').2 = smk (S' 0) (S' 1) (S' 2) (S' 3) (S' 4) (S' 5 0) (S' 5 1) (S' 5 2) → post (S' 0) (S' 1) (S' 3) (S' 4) (S' 5 0) (S' 5 1) (S' 5 2) (sdN (sdN (sdN seed))) := fun h => hp (smk (S' 0) (S' 1) (S' 2) (S' 3) (S' 4) (S' 5 0) (S' 5 1) (S' 5 2)) rfl (by rw [← h]; exact ag.2)
    have ea : actS (tdM M k) (if hb (S 5 0) t = true then 1 else 0) (nI i) (nI t) S' = act (tdM M k) (if hb (S 5 0) t = true then 1 else 0) (nI i) (nI t) (S' 0) (S' 1) (S' 2) (S' 3) (S' 4) (S' 5 0) (S' 5 1) (S' 5 2) := rfl
    have ea0 : hb (S 5 0) t = false → (actS (tdM M k) (if hb (S 5 0) t = true then 1 else 0) (nI i) (nI t) S').2 = (if mayR (tdM M k) (S' 0) (S' 1) (S' 5 0) i (nI t) false = true then ((true, smk (S' 0) (knS (tdM M k) (S' 0) (S' 1) i t) (S' 2) (S' 3) (upd (S' 4) t (hgh (tdM M k) (S' 0) (S' 2) i)) (S' 5 0 ||| bitI t) (S' 5 1) (S' 5 2)) : Bool × (Nat → Nat → Int32)) else (false, smk (S' 0) (S' 1) (S' 2) (S' 3) (S' 4) (S' 5 0) (S' 5 1) (S' 5 2))).2 := by
      intro h
      rw [ea, h]
      unfold act
      rw [if_neg (fun h9 => h9 hin), cN_nI (by omega), cN_nI (by omega)]
      rfl
    have ea1 : hb (S 5 0) t = true → (actS (tdM M k) (if hb (S 5 0) t = true then 1 else 0) (nI i) (nI t) S').2 = (if mayR (tdM M k) (S' 0) (S' 1) (S' 5 0) i (nI t) true = true then ((true, rais (tdM M k) (S' 0) (S' 1) (S' 2) (S' 3) (S' 4) (S' 5 0) (S' 5 1) (S' 5 2) i t (wrongR (tdM M k) (S' 0) (S' 2) (S' 4) i t false)) : Bool × (Nat → Nat → Int32)) else (false, smk (S' 0) (S' 1) (S' 2) (S' 3) (S' 4) (S' 5 0) (S' 5 1) (S' 5 2))).2 := by
      intro h
      rw [ea, h]
      unfold act
      rw [if_neg (fun h9 => h9 hin), cN_nI (by omega), cN_nI (by omega)]
      rfl
    refine e_mayBeginM hk (by omega) (ha i (by omega)) (hkn i (by omega)) ix (fun hf => iz (e_maySingM hk (by omega) (ha i (by omega)) (hkn i (by omega)) ix (fun hf2 => iz (stay ?_)) (fun ht2 => oi ?_))) (fun ht2 => oi ?_)
    · cases hbt : hb (S 5 0) t with
      | true =>
        have h := ea1 hbt
        rw [hbt] at h
        rw [h, if_neg (by rw [hf2]; decide)]
      | false =>
        have h := ea0 hbt
        rw [hbt] at h
        rw [h, if_neg (by rw [hf]; decide)]
    · have hbt : hb (S 5 0) t = true := by rw [← hbe]; exact mayR_b ht ht2
      have h := ea1 hbt
      rw [if_pos ht2] at h
      refine e_singsM (w := false) hk (by omega) ht hL ha rfl (fun g eg => ?_)
      rw [eg]
      have h2 : AGs (rais (tdM M k) (S' 0) (S' 1) (S' 2) (S' 3) (S' 4) (S' 5 0) (S' 5 1) (S' 5 2) i t (wrongR (tdM M k) (S' 0) (S' 2) (S' 4) i t false)) (actS (tdM M k) (if hb (S 5 0) t = true then 1 else 0) (nI i) (nI t) S).2 := by
        have g2 := ag.2
        rw [h] at g2
        exact g2
      exact hp (rais (tdM M k) (S' 0) (S' 1) (S' 2) (S' 3) (S' 4) (S' 5 0) (S' 5 1) (S' 5 2) i t (wrongR (tdM M k) (S' 0) (S' 2) (S' 4) i t false)) rfl h2
    · have hbt : hb (S 5 0) t = false := by rw [← hbe]; exact mayR_b ht ht2
      have h := ea0 hbt
      rw [if_pos ht2] at h
      have h2 : AGs (smk (S' 0) (knS (tdM M k) (S' 0) (S' 1) i t) (S' 2) (S' 3) (upd (S' 4) t (hgh (tdM M k) (S' 0) (S' 2) i)) (S' 5 0 ||| bitI t) (S' 5 1) (S' 5 2)) (actS (tdM M k) (if hb (S 5 0) t = true then 1 else 0) (nI i) (nI t) S).2 := by
        have g2 := ag.2
        rw [h] at g2
        exact g2
      exact e_soundsM hk (by omega) ht hL ha (hp (smk (S' 0) (knS (tdM M k) (S' 0) (S' 1) i t) (S' 2) (S' 3) (upd (S' 4) t (hgh (tdM M k) (S' 0) (S' 2) i)) (S' 5 0 ||| bitI t) (S' 5 1) (S' 5 2)) rfl h2)
  · obtain ⟨x, hx, ex⟩ := rdn_b (v := sdN (sdN (sdN seed))) hn hn0 (by omega)
    have e1 : drS (tdM M k) (S, seed) = ((actS (tdM M k) 3 (nI i) (nI x) S).2, sdN (sdN (sdN seed))) := by
      unfold drS
      show (if 3 ≤ rdn (sdN (sdN seed)) 8 then _ else _) = _
      rw [if_neg q]
      show ((actS (tdM M k) 3 (rdn (sdN seed) (tdM M k 1)) (rdn (sdN (sdN (sdN seed))) (tdM M k 0)) S).2, sdN (sdN (sdN seed))) = _
      rw [ei, ex]
    rw [e1] at hp
    rw [ei]
    refine e_drawM hn hn0 (by omega) ?_
    rw [ex]
    have ag := actS_ag (k := 3) (s := nI i) (x := nI x) hR hN hA
    have hin : 0 ≤ nI i ∧ nI i < tdM M k 1 := ⟨nI_pos' (by omega), by rw [hs]; exact nI_lt hi (by omega)⟩
    have ea : (actS (tdM M k) 3 (nI i) (nI x) S').2 = (if mayW (tdM M k) (S' 0) (S' 2) (S' 3) i (nI x) = true then ((true, smk (upd (S' 0) i (nI x)) (S' 1) (S' 2) (S' 3) (S' 4) (S' 5 0) (S' 5 1 + tdM M k (51 + 9 * cN (S' 0 i) + cN (nI x))) (S' 5 2)) : Bool × (Nat → Nat → Int32)) else (false, smk (S' 0) (S' 1) (S' 2) (S' 3) (S' 4) (S' 5 0) (S' 5 1) (S' 5 2))).2 := by
      show (act (tdM M k) 3 (nI i) (nI x) (S' 0) (S' 1) (S' 2) (S' 3) (S' 4) (S' 5 0) (S' 5 1) (S' 5 2)).2 = _
      unfold act
      rw [if_neg (fun h9 => h9 hin), if_neg (by decide), if_neg (by decide), if_pos rfl, cN_nI (n := i) (by omega)]
    refine e_walksM hk (by omega) hL (ha i (by omega)) (fun hf => ?_) (fun ht => ?_)
    · rw [if_neg (by rw [hf]; decide)] at ea
      have h2 : AGs (smk (S' 0) (S' 1) (S' 2) (S' 3) (S' 4) (S' 5 0) (S' 5 1) (S' 5 2)) (actS (tdM M k) 3 (nI i) (nI x) S).2 := by
        have g2 := ag.2
        rw [ea] at g2
        exact g2
      exact hp (smk (S' 0) (S' 1) (S' 2) (S' 3) (S' 4) (S' 5 0) (S' 5 1) (S' 5 2)) rfl h2
    · rw [if_pos ht] at ea
      have h2 : AGs (smk (upd (S' 0) i (nI x)) (S' 1) (S' 2) (S' 3) (S' 4) (S' 5 0) (S' 5 1 + tdM M k (51 + 9 * cN (S' 0 i) + cN (nI x))) (S' 5 2)) (actS (tdM M k) 3 (nI i) (nI x) S).2 := by
        have g2 := ag.2
        rw [ea] at g2
        exact g2
      exact hp (smk (upd (S' 0) i (nI x)) (S' 1) (S' 2) (S' 3) (S' 4) (S' 5 0) (S' 5 1 + tdM M k (51 + 9 * cN (S' 0 i) + cN (nI x))) (S' 5 2)) rfl h2
set_option maxRecDepth 40000 in
set_option maxHeartbeats 4000000 in
theorem e_m_drawn {M : Nat → Nat → Int32} {f_code f_land f_huts f_singers f_begun f_minute f_avalanches f_seed a b c d : Int32} {a_at a_knows a_climbed a_snow a_level : Nat → Int32} {post : Int32 → (Int32) → (Int32) → (Int32) → (Int32) → (Nat → Int32) → (Nat → Int32) → (Nat → Int32) → (Nat → Int32) → (Nat → Int32) → (Int32) → (Int32) → (Int32) → (Int32) → Prop} (hc : ∀ o, iv 0 2 (M 4 o)) (hL : mLand (M 5)) (hK : LK M) (hp : ∀ z0 z1 z2 z3 z4 z5 z6 z7 z8 z9 z10 z11 z12, post (AN_drawn M a b c d) z0 z1 z2 z3 z4 z5 z6 z7 z8 z9 z10 z11 z12) : q_m_drawn_0 f_code (M 4) (M 5) f_land f_huts f_singers a_at a_knows a_climbed a_snow a_level f_begun f_minute f_avalanches f_seed a b c d post := by
  unfold AN_drawn at hp
  refine sp_in (fun h => iz ?_) (fun c1 c2 => oi ?_)
  · have no : AN_drawn M a b c d = -1000 := by
      unfold AN_drawn DRW
      split
      · rw [if_neg (fun h9 => h h9.1)]
      · rfl
    unfold AN_drawn at no
    rw [no] at hp
    exact hp _ _ _ _ _ _ _ _ _ _ _ _ _
  refine e_hand (hc 0) (fun hno => iz ?_) (fun k hk ea hy => oi ?_)
  · rw [if_neg hno] at hp; exact hp _ _ _ _ _ _ _ _ _ _ _ _ _
  rw [if_pos hy] at hp
  subst ea
  have hO : LOK (rowM M 0 (nI k)) := LK_row hK hk hy.2
  have hR : RNG (rowM M 0 (nI k)) := RNG_M hL hk
  obtain ⟨n, hn, hn9⟩ := ln_oJ hR
  obtain ⟨s, hs, -, hs6, -⟩ := iv_nI (show iv 0 6 (tdM M k 1) from hR 1 (by omega)) (by decide)
  unfold DRW at hp
  refine ⟨fun s0 => ?_, fun s0 => ?_⟩
  · rw [if_pos ⟨⟨c1, c2⟩, s0⟩] at hp
    have s00 : 0 < s := Nat.pos_of_ne_zero (fun e => s0 (by rw [show rowM M 0 (nI k) 1 = nI s from hs, e]; rfl))
    have hr1 : rowM M 0 (nI k) 1 = M 5 (132 * k + 1) := by unfold rowM; rw [nI_clamp (by omega)]; rfl
    have hr0 : rowM M 0 (nI k) 0 = M 5 (132 * k) := by unfold rowM; rw [nI_clamp (by omega)]; rfl
    have n00 : 0 < n := Nat.pos_of_ne_zero (fun e => hL.2 k (by omega) (by rw [← hr1]; exact s0) (by rw [← hr0, hn, e]; rfl))
    obtain ⟨m, hm, ec⟩ := nI_of2 (M := 60) (n := 60) (by decide) (Int32.not_lt.mpr c1) c2
    subst ec
    rw [cN_nI (by omega)] at hp
    refine e_beginM hk (fun at1 kn1 cl1 sn1 hI hS => ?_)
    intro P hP
    have loop : ∀ d j (S' : Nat → Nat → Int32) (sd : Int32), d = m - j → j ≤ m → S' 2 = cl1 → AGs S' (drs (tdM M k) b j).1 → sd = (drs (tdM M k) b j).2 → P (nI j) (S' 0) (S' 1) (S' 3) (S' 4) (S' 5 0) (S' 5 1) (S' 5 2) sd := by
      intro d
      induction d using Nat.strongRecOn with
      | ind d ih =>
        intro j S' sd hd hj hcl hA esd
        apply hP
        refine pk_le m j (fun h9 => ?_) (fun h9 => ?_)
        · have e1 : j = m := by omega
          subst e1
          rw [← hcl]
          exact e_ofStateM hk hL (drs_ok hR hO j) hA (hp _ _ _ _ _ _ _ _ _ _ _ _ _)
        · have e1 : drs (tdM M k) b (j + 1) = drS (tdM M k) ((drs (tdM M k) b j).1, sd) := by rw [esd]; rfl
          rw [← hcl]
          refine e_drawDeedM hk hL hn hn9 n00 hs (by omega) s00 (drs_ok hR hO j) hA (fun S2 h2 hA2 v ev => ?_)
          rw [ev, nI_1]
          refine ih (m - (j + 1)) (by omega) (j + 1) S2 _ rfl (by omega) (h2.trans hcl) ?_ ?_
          · rw [e1]; exact hA2
          · rw [e1]
    refine loop _ 0 (smk at1 kn1 cl1 sn1 a_level 0 0 0) b rfl (by omega) rfl ?_ rfl
    refine ⟨fun j hj => hI j hj, fun j hj => hS j hj, fun t ht h9 => ?_, rfl, rfl, rfl⟩
    have z : hb (0 : Int32) t = true := h9
    rw [hb_0] at z
    exact absurd z (by decide)
  · rw [if_neg (fun h9 => h9.2 s0)] at hp; exact hp _ _ _ _ _ _ _ _ _ _ _ _ _
section
variable {td : Nat → Int32} {S : Nat → Nat → Int32} {mi av be cl : Int32} {hu kn lv sn op : Nat → Int32} {huts singers villages dams echoes deep slide : Int32} {heights ladders minutes echoFrom echoTo homes talls known : Nat → Int32}
theorem e_drawX {seed x2 x3 : Int32} {n s m : Nat} {post : Int32 → Int32 → Int32 → Int32 → Int32 → (Nat → Int32) → (Nat → Int32) → (Nat → Int32) → (Nat → Int32) → Prop} (hR : RNG td) (hO : LOK td) (hD : LDR huts singers villages dams echoes deep slide heights ladders minutes echoFrom echoTo homes talls known td) (hn : td 0 = nI n) (hn9 : n ≤ 9) (hn0 : 0 < n) (hs : td 1 = nI s) (hs6 : s ≤ 6) (hs0 : 0 < s) (hx : x3 = nI m) (hm : m ≤ 60)
    (hp : ∀ mi' av' be' cl' sd' hu' kn' lv' sn', XG td (drs td x2 m).1 mi' av' be' cl' hu' kn' lv' sn' → post mi' av' be' cl' sd' hu' kn' lv' sn') : q_wn_X3_draw_6_0 mi av be cl seed hu kn lv sn huts singers dams echoes deep heights ladders minutes echoFrom echoTo homes talls known x2 x3 post := by
  subst hx
  have hX := LX_of hR hD
  have b1 : iv 0 (6 : Nat) (td 1) := hR 1 (by omega)
  have eh : huts = nI n := hX.1.trans hn
  have es : singers = nI s := hX.2.1.trans hs
  refine e_startX (fun j hj hl => (hD.2.2.2.2.2.2.2.2.2.2.2.1 j (lt_cln b1 (by omega) hl (by omega))).1) hD.2.2.2.2.2.2.2.2.2.2.2.2 (fun hu1 kn1 lv1 sn1 hG1 => ?_)
  intro P hP
  have loop : ∀ d j mi av be cl (sd : Int32) hu kn lv sn, d = m - j → j ≤ m → XG td (drs td x2 j).1 mi av be cl hu kn lv sn → sd = (drs td x2 j).2 → P (nI j) mi av be cl sd hu kn lv sn := by
    intro d
    induction d using Nat.strongRecOn with
    | ind d ih =>
      intro j mi av be cl sd hu kn lv sn hd hj hG esd
      apply hP
      refine pk_le m j (fun h9 => ?_) (fun h9 => ?_)
      · have e1 : j = m := by omega
        subst e1
        exact hp _ _ _ _ _ _ _ _ _ hG
      · have hNj := drs_ok (seed := x2) hR hO j
        have hbe : be = (drs td x2 j).1 5 0 := hG.2.2.2.2.2.1
        have e1 : drs td x2 (j + 1) = drS td ((drs td x2 j).1, sd) := by rw [drs_s, esd]
        obtain ⟨w, hw, ew⟩ := rdn_b (v := sdN (sdN sd)) (x := 8) (m := 8) rfl (by omega) (by omega)
        have go : ∀ K x : Int32, iv 0 5 K → drs td x2 (j + 1) = ((actS td K (rdn (sdN sd) singers) x (drs td x2 j).1).2, sdN (sdN (sdN sd))) → ∀ (mi' av' be' cl' : Int32) (hu' kn' lv' sn' : Nat → Int32), XG td (actS td K (rdn (sdN sd) singers) x (drs td x2 j).1).2 mi' av' be' cl' hu' kn' lv' sn' → q_wn_X3_draw_6_93 P mi' av' be' cl' (sdN (sdN (sdN sd))) hu' kn' lv' sn' huts singers dams echoes deep heights ladders minutes echoFrom echoTo homes talls known (nI m) (nI j) post := by
          intro K x _ e2 mi' av' be' cl' hu' kn' lv' sn' hG' v ev
          rw [ev, nI_1]
          exact ih (m - (j + 1)) (by omega) (j + 1) _ _ _ _ _ _ _ _ _ rfl (by omega) (by rw [e2, pr1_mk]; exact hG') (by rw [e2, pr2_mk])
        refine e_belowX es hs0 (by omega) (e_belowX (m := 8) rfl (by omega) (by omega) ⟨fun q => e_belowX (m := 5) rfl (by omega) (by omega) ?_, fun q => e_belowX eh hn0 (by omega) ?_⟩)
        · have q2 : 3 ≤ rdn (sdN (sdN sd)) 8 := by
            rw [ew] at q ⊢
            have := (nI_ltI (a := 2) (by omega) (by omega)).mp q
            exact nI_le (a := 3) (by omega) (by omega)
          obtain ⟨t, ht, et⟩ := rdn_b (v := sdN (sdN (sdN sd))) (x := 5) (m := 5) rfl (by omega) (by omega)
          have e3 : ∀ K : Int32, K = (if hb ((drs td x2 j).1 5 0) t = true then 1 else 0) → drs td x2 (j + 1) = ((actS td K (rdn (sdN sd) singers) (rdn (sdN (sdN (sdN sd))) 5) (drs td x2 j).1).2, sdN (sdN (sdN sd))) := by
            intro K hK
            rw [e1, hK, hX.2.1]
            unfold drS
            show (if 3 ≤ rdn (sdN (sdN sd)) 8 then _ else _) = _
            rw [if_pos q2]
            show ((actS td (if hb ((drs td x2 j).1 5 0) (cN (rdn (sdN (sdN (sdN sd))) 5)) = true then 1 else 0) (rdn (sdN sd) (td 1)) (rdn (sdN (sdN (sdN sd))) 5) (drs td x2 j).1).2, sdN (sdN (sdN sd))) = _
            rw [et, cN_nI (by omega)]
          rw [et, hbe]
          refine e_hasX (by omega) (fun hb0 => iz ?_) (fun hb1 => oi ?_)
          · have e4 := e3 0 (by rw [if_neg (by rw [hb0]; decide)])
            rw [et] at e4
            rw [← hbe]
            exact e_actX hR hNj hG hX (iv_lit (by decide)) (fun mi' av' be' cl' hu' kn' lv' sn' hG' => go 0 (nI t) (iv_lit (by decide)) e4 _ _ _ _ _ _ _ _ hG')
          · have e4 := e3 1 (by rw [if_pos hb1])
            rw [et] at e4
            rw [← hbe]
            exact e_actX hR hNj hG hX (iv_lit (by decide)) (fun mi' av' be' cl' hu' kn' lv' sn' hG' => go 1 (nI t) (iv_lit (by decide)) e4 _ _ _ _ _ _ _ _ hG')
        · have q2 : ¬ 3 ≤ rdn (sdN (sdN sd)) 8 := by
            rw [ew] at q ⊢
            intro h
            have := (nI_leI (a := 3) (by omega) (by omega)).mp h
            exact q (nI_lt (a := 2) (by omega) (by omega))
          have e4 : drs td x2 (j + 1) = ((actS td 3 (rdn (sdN sd) singers) (rdn (sdN (sdN (sdN sd))) huts) (drs td x2 j).1).2, sdN (sdN (sdN sd))) := by
            rw [e1, hX.2.1, hX.1]
            unfold drS
            show (if 3 ≤ rdn (sdN (sdN sd)) 8 then _ else _) = _
            rw [if_neg q2]
          exact e_actX hR hNj hG hX (iv_lit (by decide)) (fun mi' av' be' cl' hu' kn' lv' sn' hG' => go 3 _ (iv_lit (by decide)) e4 _ _ _ _ _ _ _ _ hG')
  exact loop _ 0 _ _ _ _ _ _ _ _ _ rfl (by omega) hG1 rfl
end
set_option maxRecDepth 40000 in
set_option maxHeartbeats 4000000 in
theorem e_x_drawn {T : TT} {M : Nat → Nat → Int32} {nf_minute nf_avalanches nf_begun nf_climbed nf_seed a b c d : Int32} {na_huts na_known na_levels na_snow na_open : Nat → Int32} {post : Int32 → (Int32) → (Int32) → (Int32) → (Int32) → (Int32) → (Nat → Int32) → (Nat → Int32) → (Nat → Int32) → (Nat → Int32) → (Nat → Int32) → Prop} (h : TM T M 0) (hB : tB T) (hK : LK M) (hL : mLand (M 5)) (hp : ∀ z0 z1 z2 z3 z4 z5 z6 z7 z8 z9, post (AN_drawn M a b c d) z0 z1 z2 z3 z4 z5 z6 z7 z8 z9) : q_wx_X10_drawn_0 (T.2 1) (T.1 3) (T.1 4) (T.1 6) (T.1 7) (T.1 8) (T.2 2) (T.2 3) (T.2 4) (T.2 5) (T.2 6) (T.2 7) (T.2 8) (T.2 9) (T.1 10) (T.1 11) (T.1 13) (T.1 14) (T.1 15) (T.2 10) (T.2 11) (T.2 12) (T.2 13) (T.2 14) (T.2 15) (T.2 16) (T.2 17) nf_minute nf_avalanches nf_begun nf_climbed nf_seed na_huts na_known na_levels na_snow na_open a b c d post := by
  unfold AN_drawn at hp
  rw [TM_cnt h 0 (by decide)] at hp
  refine e_at (hB.2.2.1 0) (fun (hno : ¬ (0 ≤ a ∧ a < T.2 1 0)) => ?_) (fun ea hla => ?_) (fun ea hla => ?_)
  · rw [if_neg hno] at hp
    exact ⟨fun _ => hp _ _ _ _ _ _ _ _ _ _, fun h9 => absurd h9 (by decide), fun h9 => absurd rfl h9⟩
  · rw [if_pos (by rw [ea]; exact ⟨by decide, hla⟩), ea] at hp
    have hR : RNG (rowM M 0 (nI 0)) := RNG_M hL (by decide)
    have hLD : LDR (T.1 3) (T.1 4) (T.1 5) (T.1 6) (T.1 7) (T.1 8) (T.1 9) (T.2 2) (T.2 3) (T.2 4) (T.2 5) (T.2 6) (T.2 7) (T.2 8) (T.2 9) (rowM M 0 (nI 0)) := TM_sl h 0 0 (by decide) (by decide) hla
    have hX := LX_of hR hLD
    have hOK : LOK (rowM M 0 (nI 0)) := LK_row hK (by decide) (by rw [TM_cnt h 0 (by decide)]; exact hla)
    obtain ⟨n, hn, hn9⟩ := ln_oJ hR
    refine ⟨fun h9 => absurd h9 (by decide), fun h9 => absurd h9 (by decide), fun _ _ => ?_⟩
    obtain ⟨s, hs, -, hs6, -⟩ := iv_nI (show iv 0 6 (rowM M 0 (nI 0) 1) from hR 1 (by omega)) (by decide)
    unfold DRW at hp
    refine ⟨fun s0 => ?_, fun s0 => ⟨fun c1 => ?_, fun c1 => ⟨fun c2 => ?_, fun c2 => ?_⟩⟩⟩
    · rw [if_neg (fun h9 => h9.2 (by rw [← hX.2.1]; exact s0))] at hp; exact hp _ _ _ _ _ _ _ _ _ _
    · rw [if_neg (fun h9 => absurd c1 (Int32.not_lt.mpr h9.1.1))] at hp; exact hp _ _ _ _ _ _ _ _ _ _
    · rw [hX.2.1] at s0
      rw [if_pos ⟨⟨Int32.not_lt.mp c1, c2⟩, s0⟩] at hp
      have s00 : 0 < s := Nat.pos_of_ne_zero (fun e => s0 (by rw [hs, e]; rfl))
      have n00 : 0 < n := Nat.pos_of_ne_zero (fun e => hL.2 0 (by omega) s0 (show rowM M 0 (nI 0) 0 = 0 by rw [hn, e]; rfl))
      obtain ⟨m, hm, ec⟩ := nI_of2 (M := 60) (n := 60) (by decide) c1 c2
      subst ec
      rw [cN_nI (by omega)] at hp
      exact e_drawX hR hOK hLD hn hn9 n00 hs (by omega) s00 rfl hm (fun mi' av' be' cl' sd' hu' kn' lv' sn' hG => e_lookX hR (drs_ok hR hOK m) hG hX (fun op' => hp _ _ _ _ _ _ _ _ _ _))
    · rw [if_neg (fun h9 => c2 h9.1.2)] at hp; exact hp _ _ _ _ _ _ _ _ _ _
  · rw [if_pos (by rw [ea]; exact ⟨by decide, hla⟩), ea] at hp
    have hR : RNG (rowM M 0 (nI 1)) := RNG_M hL (by decide)
    have hLD : LDR (T.1 10) (T.1 11) (T.1 12) (T.1 13) (T.1 14) (T.1 15) (T.1 16) (T.2 10) (T.2 11) (T.2 12) (T.2 13) (T.2 14) (T.2 15) (T.2 16) (T.2 17) (rowM M 0 (nI 1)) := TM_sl h 0 1 (by decide) (by decide) hla
    have hX := LX_of hR hLD
    have hOK : LOK (rowM M 0 (nI 1)) := LK_row hK (by decide) (by rw [TM_cnt h 0 (by decide)]; exact hla)
    obtain ⟨n, hn, hn9⟩ := ln_oJ hR
    refine ⟨fun h9 => absurd h9 (by decide), fun _ => ?_, fun _ h9 => absurd rfl h9⟩
    obtain ⟨s, hs, -, hs6, -⟩ := iv_nI (show iv 0 6 (rowM M 0 (nI 1) 1) from hR 1 (by omega)) (by decide)
    unfold DRW at hp
    refine ⟨fun s0 => ?_, fun s0 => ⟨fun c1 => ?_, fun c1 => ⟨fun c2 => ?_, fun c2 => ?_⟩⟩⟩
    · rw [if_neg (fun h9 => h9.2 (by rw [← hX.2.1]; exact s0))] at hp; exact hp _ _ _ _ _ _ _ _ _ _
    · rw [if_neg (fun h9 => absurd c1 (Int32.not_lt.mpr h9.1.1))] at hp; exact hp _ _ _ _ _ _ _ _ _ _
    · rw [hX.2.1] at s0
      rw [if_pos ⟨⟨Int32.not_lt.mp c1, c2⟩, s0⟩] at hp
      have s00 : 0 < s := Nat.pos_of_ne_zero (fun e => s0 (by rw [hs, e]; rfl))
      have n00 : 0 < n := Nat.pos_of_ne_zero (fun e => hL.2 1 (by omega) s0 (show rowM M 0 (nI 1) 0 = 0 by rw [hn, e]; rfl))
      obtain ⟨m, hm, ec⟩ := nI_of2 (M := 60) (n := 60) (by decide) c1 c2
      subst ec
      rw [cN_nI (by omega)] at hp
      exact e_drawX hR hOK hLD hn hn9 n00 hs (by omega) s00 rfl hm (fun mi' av' be' cl' sd' hu' kn' lv' sn' hG => e_lookX hR (drs_ok hR hOK m) hG hX (fun op' => hp _ _ _ _ _ _ _ _ _ _))
    · rw [if_neg (fun h9 => c2 h9.1.2)] at hp; exact hp _ _ _ _ _ _ _ _ _ _
end
