section
set_option maxRecDepth 40000 in
set_option maxHeartbeats 4000000 in
theorem tG_copy3 {a_tape : Nat → Int32} {f_length : Int32} {f_fault : Int32} {f_place : Int32} {a_counts : Nat → Int32} {l0f_huts : Int32} {l0f_singers : Int32} {l0f_villages : Int32} {l0f_dams : Int32} {l0f_echoes : Int32} {l0f_deep : Int32} {l0f_slide : Int32} {l0a_heights : Nat → Int32} {l0a_ladders : Nat → Int32} {l0a_minutes : Nat → Int32} {l0a_echoFrom : Nat → Int32} {l0a_echoTo : Nat → Int32} {l0a_homes : Nat → Int32} {l0a_talls : Nat → Int32} {l0a_known : Nat → Int32} {l1f_huts : Int32} {l1f_singers : Int32} {l1f_villages : Int32} {l1f_dams : Int32} {l1f_echoes : Int32} {l1f_deep : Int32} {l1f_slide : Int32} {l1a_heights : Nat → Int32} {l1a_ladders : Nat → Int32} {l1a_minutes : Nat → Int32} {l1a_echoFrom : Nat → Int32} {l1a_echoTo : Nat → Int32} {l1a_homes : Nat → Int32} {l1a_talls : Nat → Int32} {l1a_known : Nat → Int32} {v0f_deeds : Int32} {v0a_kinds : Nat → Int32} {v0a_firsts : Nat → Int32} {v0a_seconds : Nat → Int32} {v1f_deeds : Int32} {v1a_kinds : Nat → Int32} {v1a_firsts : Nat → Int32} {v1a_seconds : Nat → Int32} {s0f_facts : Int32} {s0a_heard : Nat → Int32} {s0a_huts : Nat → Int32} {s0a_minutes : Nat → Int32} {s1f_facts : Int32} {s1a_heard : Nat → Int32} {s1a_huts : Nat → Int32} {s1a_minutes : Nat → Int32} {c0f_voices : Int32} {c0f_step : Int32} {c0a_parts : Nat → Int32} {c0a_heights : Nat → Int32} {c1f_voices : Int32} {c1f_step : Int32} {c1a_parts : Nat → Int32} {c1a_heights : Nat → Int32} {oa_tape : Nat → Int32} {of_length : Int32} {of_fault : Int32} {of_place : Int32} {oa_counts : Nat → Int32} {ol0f_huts : Int32} {ol0f_singers : Int32} {ol0f_villages : Int32} {ol0f_dams : Int32} {ol0f_echoes : Int32} {ol0f_deep : Int32} {ol0f_slide : Int32} {ol0a_heights : Nat → Int32} {ol0a_ladders : Nat → Int32} {ol0a_minutes : Nat → Int32} {ol0a_echoFrom : Nat → Int32} {ol0a_echoTo : Nat → Int32} {ol0a_homes : Nat → Int32} {ol0a_talls : Nat → Int32} {ol0a_known : Nat → Int32} {ol1f_huts : Int32} {ol1f_singers : Int32} {ol1f_villages : Int32} {ol1f_dams : Int32} {ol1f_echoes : Int32} {ol1f_deep : Int32} {ol1f_slide : Int32} {ol1a_heights : Nat → Int32} {ol1a_ladders : Nat → Int32} {ol1a_minutes : Nat → Int32} {ol1a_echoFrom : Nat → Int32} {ol1a_echoTo : Nat → Int32} {ol1a_homes : Nat → Int32} {ol1a_talls : Nat → Int32} {ol1a_known : Nat → Int32} {ov0f_deeds : Int32} {ov0a_kinds : Nat → Int32} {ov0a_firsts : Nat → Int32} {ov0a_seconds : Nat → Int32} {ov1f_deeds : Int32} {ov1a_kinds : Nat → Int32} {ov1a_firsts : Nat → Int32} {ov1a_seconds : Nat → Int32} {os0f_facts : Int32} {os0a_heard : Nat → Int32} {os0a_huts : Nat → Int32} {os0a_minutes : Nat → Int32} {os1f_facts : Int32} {os1a_heard : Nat → Int32} {os1a_huts : Nat → Int32} {os1a_minutes : Nat → Int32} {oc0f_voices : Int32} {oc0f_step : Int32} {oc0a_parts : Nat → Int32} {oc0a_heights : Nat → Int32} {oc1f_voices : Int32} {oc1f_step : Int32} {oc1a_parts : Nat → Int32} {oc1a_heights : Nat → Int32} {post : (Nat → Int32) → (Int32) → (Int32) → (Int32) → (Nat → Int32) → (Int32) → (Int32) → (Int32) → (Int32) → (Int32) → (Int32) → (Int32) → (Nat → Int32) → (Nat → Int32) → (Nat → Int32) → (Nat → Int32) → (Nat → Int32) → (Nat → Int32) → (Nat → Int32) → (Nat → Int32) → (Int32) → (Int32) → (Int32) → (Int32) → (Int32) → (Int32) → (Int32) → (Nat → Int32) → (Nat → Int32) → (Nat → Int32) → (Nat → Int32) → (Nat → Int32) → (Nat → Int32) → (Nat → Int32) → (Nat → Int32) → (Int32) → (Nat → Int32) → (Nat → Int32) → (Nat → Int32) → (Int32) → (Nat → Int32) → (Nat → Int32) → (Nat → Int32) → (Int32) → (Nat → Int32) → (Nat → Int32) → (Nat → Int32) → (Int32) → (Nat → Int32) → (Nat → Int32) → (Nat → Int32) → (Int32) → (Int32) → (Nat → Int32) → (Nat → Int32) → (Int32) → (Int32) → (Nat → Int32) → (Nat → Int32) → Prop} (hT : tG a_tape f_length f_fault f_place a_counts l0f_huts l0f_singers l0f_villages l0f_dams l0f_echoes l0f_deep l0f_slide l0a_heights l0a_ladders l0a_minutes l0a_echoFrom l0a_echoTo l0a_homes l0a_talls l0a_known l1f_huts l1f_singers l1f_villages l1f_dams l1f_echoes l1f_deep l1f_slide l1a_heights l1a_ladders l1a_minutes l1a_echoFrom l1a_echoTo l1a_homes l1a_talls l1a_known v0f_deeds v0a_kinds v0a_firsts v0a_seconds v1f_deeds v1a_kinds v1a_firsts v1a_seconds s0f_facts s0a_heard s0a_huts s0a_minutes s1f_facts s1a_heard s1a_huts s1a_minutes c0f_voices c0f_step c0a_parts c0a_heights c1f_voices c1f_step c1a_parts c1a_heights) (hO : tG oa_tape of_length of_fault of_place oa_counts ol0f_huts ol0f_singers ol0f_villages ol0f_dams ol0f_echoes ol0f_deep ol0f_slide ol0a_heights ol0a_ladders ol0a_minutes ol0a_echoFrom ol0a_echoTo ol0a_homes ol0a_talls ol0a_known ol1f_huts ol1f_singers ol1f_villages ol1f_dams ol1f_echoes ol1f_deep ol1f_slide ol1a_heights ol1a_ladders ol1a_minutes ol1a_echoFrom ol1a_echoTo ol1a_homes ol1a_talls ol1a_known ov0f_deeds ov0a_kinds ov0a_firsts ov0a_seconds ov1f_deeds ov1a_kinds ov1a_firsts ov1a_seconds os0f_facts os0a_heard os0a_huts os0a_minutes os1f_facts os1a_heard os1a_huts os1a_minutes oc0f_voices oc0f_step oc0a_parts oc0a_heights oc1f_voices oc1f_step oc1a_parts oc1a_heights) (hpost : ∀ (na_tape : Nat → Int32) (nf_length : Int32) (nf_fault : Int32) (nf_place : Int32) (na_counts : Nat → Int32) (nl0f_huts : Int32) (nl0f_singers : Int32) (nl0f_villages : Int32) (nl0f_dams : Int32) (nl0f_echoes : Int32) (nl0f_deep : Int32) (nl0f_slide : Int32) (nl0a_heights : Nat → Int32) (nl0a_ladders : Nat → Int32) (nl0a_minutes : Nat → Int32) (nl0a_echoFrom : Nat → Int32) (nl0a_echoTo : Nat → Int32) (nl0a_homes : Nat → Int32) (nl0a_talls : Nat → Int32) (nl0a_known : Nat → Int32) (nl1f_huts : Int32) (nl1f_singers : Int32) (nl1f_villages : Int32) (nl1f_dams : Int32) (nl1f_echoes : Int32) (nl1f_deep : Int32) (nl1f_slide : Int32) (nl1a_heights : Nat → Int32) (nl1a_ladders : Nat → Int32) (nl1a_minutes : Nat → Int32) (nl1a_echoFrom : Nat → Int32) (nl1a_echoTo : Nat → Int32) (nl1a_homes : Nat → Int32) (nl1a_talls : Nat → Int32) (nl1a_known : Nat → Int32) (nv0f_deeds : Int32) (nv0a_kinds : Nat → Int32) (nv0a_firsts : Nat → Int32) (nv0a_seconds : Nat → Int32) (nv1f_deeds : Int32) (nv1a_kinds : Nat → Int32) (nv1a_firsts : Nat → Int32) (nv1a_seconds : Nat → Int32) (ns0f_facts : Int32) (ns0a_heard : Nat → Int32) (ns0a_huts : Nat → Int32) (ns0a_minutes : Nat → Int32) (ns1f_facts : Int32) (ns1a_heard : Nat → Int32) (ns1a_huts : Nat → Int32) (ns1a_minutes : Nat → Int32) (nc0f_voices : Int32) (nc0f_step : Int32) (nc0a_parts : Nat → Int32) (nc0a_heights : Nat → Int32) (nc1f_voices : Int32) (nc1f_step : Int32) (nc1a_parts : Nat → Int32) (nc1a_heights : Nat → Int32), tG na_tape nf_length nf_fault nf_place na_counts nl0f_huts nl0f_singers nl0f_villages nl0f_dams nl0f_echoes nl0f_deep nl0f_slide nl0a_heights nl0a_ladders nl0a_minutes nl0a_echoFrom nl0a_echoTo nl0a_homes nl0a_talls nl0a_known nl1f_huts nl1f_singers nl1f_villages nl1f_dams nl1f_echoes nl1f_deep nl1f_slide nl1a_heights nl1a_ladders nl1a_minutes nl1a_echoFrom nl1a_echoTo nl1a_homes nl1a_talls nl1a_known nv0f_deeds nv0a_kinds nv0a_firsts nv0a_seconds nv1f_deeds nv1a_kinds nv1a_firsts nv1a_seconds ns0f_facts ns0a_heard ns0a_huts ns0a_minutes ns1f_facts ns1a_heard ns1a_huts ns1a_minutes nc0f_voices nc0f_step nc0a_parts nc0a_heights nc1f_voices nc1f_step nc1a_parts nc1a_heights → tCP (tmk na_tape nf_length nf_fault nf_place na_counts nl0f_huts nl0f_singers nl0f_villages nl0f_dams nl0f_echoes nl0f_deep nl0f_slide nl0a_heights nl0a_ladders nl0a_minutes nl0a_echoFrom nl0a_echoTo nl0a_homes nl0a_talls nl0a_known nl1f_huts nl1f_singers nl1f_villages nl1f_dams nl1f_echoes nl1f_deep nl1f_slide nl1a_heights nl1a_ladders nl1a_minutes nl1a_echoFrom nl1a_echoTo nl1a_homes nl1a_talls nl1a_known nv0f_deeds nv0a_kinds nv0a_firsts nv0a_seconds nv1f_deeds nv1a_kinds nv1a_firsts nv1a_seconds ns0f_facts ns0a_heard ns0a_huts ns0a_minutes ns1f_facts ns1a_heard ns1a_huts ns1a_minutes nc0f_voices nc0f_step nc0a_parts nc0a_heights nc1f_voices nc1f_step nc1a_parts nc1a_heights) (tmk oa_tape of_length of_fault of_place oa_counts ol0f_huts ol0f_singers ol0f_villages ol0f_dams ol0f_echoes ol0f_deep ol0f_slide ol0a_heights ol0a_ladders ol0a_minutes ol0a_echoFrom ol0a_echoTo ol0a_homes ol0a_talls ol0a_known ol1f_huts ol1f_singers ol1f_villages ol1f_dams ol1f_echoes ol1f_deep ol1f_slide ol1a_heights ol1a_ladders ol1a_minutes ol1a_echoFrom ol1a_echoTo ol1a_homes ol1a_talls ol1a_known ov0f_deeds ov0a_kinds ov0a_firsts ov0a_seconds ov1f_deeds ov1a_kinds ov1a_firsts ov1a_seconds os0f_facts os0a_heard os0a_huts os0a_minutes os1f_facts os1a_heard os1a_huts os1a_minutes oc0f_voices oc0f_step oc0a_parts oc0a_heights oc1f_voices oc1f_step oc1a_parts oc1a_heights) → post na_tape nf_length nf_fault nf_place na_counts nl0f_huts nl0f_singers nl0f_villages nl0f_dams nl0f_echoes nl0f_deep nl0f_slide nl0a_heights nl0a_ladders nl0a_minutes nl0a_echoFrom nl0a_echoTo nl0a_homes nl0a_talls nl0a_known nl1f_huts nl1f_singers nl1f_villages nl1f_dams nl1f_echoes nl1f_deep nl1f_slide nl1a_heights nl1a_ladders nl1a_minutes nl1a_echoFrom nl1a_echoTo nl1a_homes nl1a_talls nl1a_known nv0f_deeds nv0a_kinds nv0a_firsts nv0a_seconds nv1f_deeds nv1a_kinds nv1a_firsts nv1a_seconds ns0f_facts ns0a_heard ns0a_huts ns0a_minutes ns1f_facts ns1a_heard ns1a_huts ns1a_minutes nc0f_voices nc0f_step nc0a_parts nc0a_heights nc1f_voices nc1f_step nc1a_parts nc1a_heights) : q_wtt_X9_copyFrom_47_0 a_tape f_length f_fault f_place a_counts l0f_huts l0f_singers l0f_villages l0f_dams l0f_echoes l0f_deep l0f_slide l0a_heights l0a_ladders l0a_minutes l0a_echoFrom l0a_echoTo l0a_homes l0a_talls l0a_known l1f_huts l1f_singers l1f_villages l1f_dams l1f_echoes l1f_deep l1f_slide l1a_heights l1a_ladders l1a_minutes l1a_echoFrom l1a_echoTo l1a_homes l1a_talls l1a_known v0f_deeds v0a_kinds v0a_firsts v0a_seconds v1f_deeds v1a_kinds v1a_firsts v1a_seconds s0f_facts s0a_heard s0a_huts s0a_minutes s1f_facts s1a_heard s1a_huts s1a_minutes c0f_voices c0f_step c0a_parts c0a_heights c1f_voices c1f_step c1a_parts c1a_heights oa_tape of_length of_fault of_place oa_counts ol0f_huts ol0f_singers ol0f_villages ol0f_dams ol0f_echoes ol0f_deep ol0f_slide ol0a_heights ol0a_ladders ol0a_minutes ol0a_echoFrom ol0a_echoTo ol0a_homes ol0a_talls ol0a_known ol1f_huts ol1f_singers ol1f_villages ol1f_dams ol1f_echoes ol1f_deep ol1f_slide ol1a_heights ol1a_ladders ol1a_minutes ol1a_echoFrom ol1a_echoTo ol1a_homes ol1a_talls ol1a_known ov0f_deeds ov0a_kinds ov0a_firsts ov0a_seconds ov1f_deeds ov1a_kinds ov1a_firsts ov1a_seconds os0f_facts os0a_heard os0a_huts os0a_minutes os1f_facts os1a_heard os1a_huts os1a_minutes oc0f_voices oc0f_step oc0a_parts oc0a_heights oc1f_voices oc1f_step oc1a_parts oc1a_heights post := by
  obtain ⟨t_a_tape, t_f_length, t_f_fault, t_f_place, t_a_counts, t_l0f_huts, t_l0f_singers, t_l0f_villages, t_l0f_dams, t_l0f_echoes, t_l0f_deep, t_l0f_slide, t_l0a_heights, t_l0a_ladders, t_l0a_minutes, t_l0a_echoFrom, t_l0a_echoTo, t_l0a_homes, t_l0a_talls, t_l0a_known, t_l1f_huts, t_l1f_singers, t_l1f_villages, t_l1f_dams, t_l1f_echoes, t_l1f_deep, t_l1f_slide, t_l1a_heights, t_l1a_ladders, t_l1a_minutes, t_l1a_echoFrom, t_l1a_echoTo, t_l1a_homes, t_l1a_talls, t_l1a_known, t_v0f_deeds, t_v0a_kinds, t_v0a_firsts, t_v0a_seconds, t_v1f_deeds, t_v1a_kinds, t_v1a_firsts, t_v1a_seconds, t_s0f_facts, t_s0a_heard, t_s0a_huts, t_s0a_minutes, t_s1f_facts, t_s1a_heard, t_s1a_huts, t_s1a_minutes, t_c0f_voices, t_c0f_step, t_c0a_parts, t_c0a_heights, t_c1f_voices, t_c1f_step, t_c1a_parts, t_c1a_heights⟩ := hT
  obtain ⟨o_a_tape, o_f_length, o_f_fault, o_f_place, o_a_counts, o_l0f_huts, o_l0f_singers, o_l0f_villages, o_l0f_dams, o_l0f_echoes, o_l0f_deep, o_l0f_slide, o_l0a_heights, o_l0a_ladders, o_l0a_minutes, o_l0a_echoFrom, o_l0a_echoTo, o_l0a_homes, o_l0a_talls, o_l0a_known, o_l1f_huts, o_l1f_singers, o_l1f_villages, o_l1f_dams, o_l1f_echoes, o_l1f_deep, o_l1f_slide, o_l1a_heights, o_l1a_ladders, o_l1a_minutes, o_l1a_echoFrom, o_l1a_echoTo, o_l1a_homes, o_l1a_talls, o_l1a_known, o_v0f_deeds, o_v0a_kinds, o_v0a_firsts, o_v0a_seconds, o_v1f_deeds, o_v1a_kinds, o_v1a_firsts, o_v1a_seconds, o_s0f_facts, o_s0a_heard, o_s0a_huts, o_s0a_minutes, o_s1f_facts, o_s1a_heard, o_s1a_huts, o_s1a_minutes, o_c0f_voices, o_c0f_step, o_c0a_parts, o_c0a_heights, o_c1f_voices, o_c1f_step, o_c1a_parts, o_c1a_heights⟩ := hO
  refine cj_q_wtt_X9_copyFrom_47_0 (post_1 := fun na_tape nf_length nf_fault nf_place na_counts nl0f_huts nl0f_singers nl0f_villages nl0f_dams nl0f_echoes nl0f_deep nl0f_slide nl0a_heights nl0a_ladders nl0a_minutes nl0a_echoFrom nl0a_echoTo nl0a_homes nl0a_talls nl0a_known nl1f_huts nl1f_singers nl1f_villages nl1f_dams nl1f_echoes nl1f_deep nl1f_slide nl1a_heights nl1a_ladders nl1a_minutes nl1a_echoFrom nl1a_echoTo nl1a_homes nl1a_talls nl1a_known nv0f_deeds nv0a_kinds nv0a_firsts nv0a_seconds nv1f_deeds nv1a_kinds nv1a_firsts nv1a_seconds ns0f_facts ns0a_heard ns0a_huts ns0a_minutes ns1f_facts ns1a_heard ns1a_huts ns1a_minutes nc0f_voices nc0f_step nc0a_parts nc0a_heights nc1f_voices nc1f_step nc1a_parts nc1a_heights => tG na_tape nf_length nf_fault nf_place na_counts nl0f_huts nl0f_singers nl0f_villages nl0f_dams nl0f_echoes nl0f_deep nl0f_slide nl0a_heights nl0a_ladders nl0a_minutes nl0a_echoFrom nl0a_echoTo nl0a_homes nl0a_talls nl0a_known nl1f_huts nl1f_singers nl1f_villages nl1f_dams nl1f_echoes nl1f_deep nl1f_slide nl1a_heights nl1a_ladders nl1a_minutes nl1a_echoFrom nl1a_echoTo nl1a_homes nl1a_talls nl1a_known nv0f_deeds nv0a_kinds nv0a_firsts nv0a_seconds nv1f_deeds nv1a_kinds nv1a_firsts nv1a_seconds ns0f_facts ns0a_heard ns0a_huts ns0a_minutes ns1f_facts ns1a_heard ns1a_huts ns1a_minutes nc0f_voices nc0f_step nc0a_parts nc0a_heights nc1f_voices nc1f_step nc1a_parts nc1a_heights) (post_2 := fun na_tape nf_length nf_fault nf_place na_counts nl0f_huts nl0f_singers nl0f_villages nl0f_dams nl0f_echoes nl0f_deep nl0f_slide nl0a_heights nl0a_ladders nl0a_minutes nl0a_echoFrom nl0a_echoTo nl0a_homes nl0a_talls nl0a_known nl1f_huts nl1f_singers nl1f_villages nl1f_dams nl1f_echoes nl1f_deep nl1f_slide nl1a_heights nl1a_ladders nl1a_minutes nl1a_echoFrom nl1a_echoTo nl1a_homes nl1a_talls nl1a_known nv0f_deeds nv0a_kinds nv0a_firsts nv0a_seconds nv1f_deeds nv1a_kinds nv1a_firsts nv1a_seconds ns0f_facts ns0a_heard ns0a_huts ns0a_minutes ns1f_facts ns1a_heard ns1a_huts ns1a_minutes nc0f_voices nc0f_step nc0a_parts nc0a_heights nc1f_voices nc1f_step nc1a_parts nc1a_heights => tCP (tmk na_tape nf_length nf_fault nf_place na_counts nl0f_huts nl0f_singers nl0f_villages nl0f_dams nl0f_echoes nl0f_deep nl0f_slide nl0a_heights nl0a_ladders nl0a_minutes nl0a_echoFrom nl0a_echoTo nl0a_homes nl0a_talls nl0a_known nl1f_huts nl1f_singers nl1f_villages nl1f_dams nl1f_echoes nl1f_deep nl1f_slide nl1a_heights nl1a_ladders nl1a_minutes nl1a_echoFrom nl1a_echoTo nl1a_homes nl1a_talls nl1a_known nv0f_deeds nv0a_kinds nv0a_firsts nv0a_seconds nv1f_deeds nv1a_kinds nv1a_firsts nv1a_seconds ns0f_facts ns0a_heard ns0a_huts ns0a_minutes ns1f_facts ns1a_heard ns1a_huts ns1a_minutes nc0f_voices nc0f_step nc0a_parts nc0a_heights nc1f_voices nc1f_step nc1a_parts nc1a_heights) (tmk oa_tape of_length of_fault of_place oa_counts ol0f_huts ol0f_singers ol0f_villages ol0f_dams ol0f_echoes ol0f_deep ol0f_slide ol0a_heights ol0a_ladders ol0a_minutes ol0a_echoFrom ol0a_echoTo ol0a_homes ol0a_talls ol0a_known ol1f_huts ol1f_singers ol1f_villages ol1f_dams ol1f_echoes ol1f_deep ol1f_slide ol1a_heights ol1a_ladders ol1a_minutes ol1a_echoFrom ol1a_echoTo ol1a_homes ol1a_talls ol1a_known ov0f_deeds ov0a_kinds ov0a_firsts ov0a_seconds ov1f_deeds ov1a_kinds ov1a_firsts ov1a_seconds os0f_facts os0a_heard os0a_huts os0a_minutes os1f_facts os1a_heard os1a_huts os1a_minutes oc0f_voices oc0f_step oc0a_parts oc0a_heights oc1f_voices oc1f_step oc1a_parts oc1a_heights)) (fun na_tape nf_length nf_fault nf_place na_counts nl0f_huts nl0f_singers nl0f_villages nl0f_dams nl0f_echoes nl0f_deep nl0f_slide nl0a_heights nl0a_ladders nl0a_minutes nl0a_echoFrom nl0a_echoTo nl0a_homes nl0a_talls nl0a_known nl1f_huts nl1f_singers nl1f_villages nl1f_dams nl1f_echoes nl1f_deep nl1f_slide nl1a_heights nl1a_ladders nl1a_minutes nl1a_echoFrom nl1a_echoTo nl1a_homes nl1a_talls nl1a_known nv0f_deeds nv0a_kinds nv0a_firsts nv0a_seconds nv1f_deeds nv1a_kinds nv1a_firsts nv1a_seconds ns0f_facts ns0a_heard ns0a_huts ns0a_minutes ns1f_facts ns1a_heard ns1a_huts ns1a_minutes nc0f_voices nc0f_step nc0a_parts nc0a_heights nc1f_voices nc1f_step nc1a_parts nc1a_heights a b => hpost na_tape nf_length nf_fault nf_place na_counts nl0f_huts nl0f_singers nl0f_villages nl0f_dams nl0f_echoes nl0f_deep nl0f_slide nl0a_heights nl0a_ladders nl0a_minutes nl0a_echoFrom nl0a_echoTo nl0a_homes nl0a_talls nl0a_known nl1f_huts nl1f_singers nl1f_villages nl1f_dams nl1f_echoes nl1f_deep nl1f_slide nl1a_heights nl1a_ladders nl1a_minutes nl1a_echoFrom nl1a_echoTo nl1a_homes nl1a_talls nl1a_known nv0f_deeds nv0a_kinds nv0a_firsts nv0a_seconds nv1f_deeds nv1a_kinds nv1a_firsts nv1a_seconds ns0f_facts ns0a_heard ns0a_huts ns0a_minutes ns1f_facts ns1a_heard ns1a_huts ns1a_minutes nc0f_voices nc0f_step nc0a_parts nc0a_heights nc1f_voices nc1f_step nc1a_parts nc1a_heights a b) ?_ (e_cp o_f_length o_a_tape o_l0f_huts o_l0f_singers o_l0f_echoes o_v0f_deeds o_s0f_facts o_c0f_voices o_l1f_huts o_l1f_singers o_l1f_echoes o_v1f_deeds o_s1f_facts o_c1f_voices (fun _ _ _ _ _ _ _ _ _ _ _ _ _ _ _ _ _ _ _ _ _ _ _ _ _ _ _ _ _ _ _ _ _ _ _ _ _ _ _ _ _ _ _ _ _ _ _ _ _ _ _ _ _ _ _ _ _ _ _ h => h))
  exact s_wtt_X9_copyFrom_47_0 t_a_tape t_f_length t_f_fault t_f_place t_a_counts t_l0f_huts t_l0f_singers t_l0f_villages t_l0f_dams t_l0f_echoes t_l0f_deep t_l0f_slide t_l0a_heights t_l0a_ladders t_l0a_minutes t_l0a_echoFrom t_l0a_echoTo t_l0a_homes t_l0a_talls t_l0a_known t_l1f_huts t_l1f_singers t_l1f_villages t_l1f_dams t_l1f_echoes t_l1f_deep t_l1f_slide t_l1a_heights t_l1a_ladders t_l1a_minutes t_l1a_echoFrom t_l1a_echoTo t_l1a_homes t_l1a_talls t_l1a_known t_v0f_deeds t_v0a_kinds t_v0a_firsts t_v0a_seconds t_v1f_deeds t_v1a_kinds t_v1a_firsts t_v1a_seconds t_s0f_facts t_s0a_heard t_s0a_huts t_s0a_minutes t_s1f_facts t_s1a_heard t_s1a_huts t_s1a_minutes t_c0f_voices t_c0f_step t_c0a_parts t_c0a_heights t_c1f_voices t_c1f_step t_c1a_parts t_c1a_heights o_a_tape o_f_length o_f_fault o_f_place o_a_counts o_l0f_huts o_l0f_singers o_l0f_villages o_l0f_dams o_l0f_echoes o_l0f_deep o_l0f_slide o_l0a_heights o_l0a_ladders o_l0a_minutes o_l0a_echoFrom o_l0a_echoTo o_l0a_homes o_l0a_talls o_l0a_known o_l1f_huts o_l1f_singers o_l1f_villages o_l1f_dams o_l1f_echoes o_l1f_deep o_l1f_slide o_l1a_heights o_l1a_ladders o_l1a_minutes o_l1a_echoFrom o_l1a_echoTo o_l1a_homes o_l1a_talls o_l1a_known o_v0f_deeds o_v0a_kinds o_v0a_firsts o_v0a_seconds o_v1f_deeds o_v1a_kinds o_v1a_firsts o_v1a_seconds o_s0f_facts o_s0a_heard o_s0a_huts o_s0a_minutes o_s1f_facts o_s1a_heard o_s1a_huts o_s1a_minutes o_c0f_voices o_c0f_step o_c0a_parts o_c0a_heights o_c1f_voices o_c1f_step o_c1a_parts o_c1a_heights (fun na_tape nf_length nf_fault nf_place na_counts nl0f_huts nl0f_singers nl0f_villages nl0f_dams nl0f_echoes nl0f_deep nl0f_slide nl0a_heights nl0a_ladders nl0a_minutes nl0a_echoFrom nl0a_echoTo nl0a_homes nl0a_talls nl0a_known nl1f_huts nl1f_singers nl1f_villages nl1f_dams nl1f_echoes nl1f_deep nl1f_slide nl1a_heights nl1a_ladders nl1a_minutes nl1a_echoFrom nl1a_echoTo nl1a_homes nl1a_talls nl1a_known nv0f_deeds nv0a_kinds nv0a_firsts nv0a_seconds nv1f_deeds nv1a_kinds nv1a_firsts nv1a_seconds ns0f_facts ns0a_heard ns0a_huts ns0a_minutes ns1f_facts ns1a_heard ns1a_huts ns1a_minutes nc0f_voices nc0f_step nc0a_parts nc0a_heights nc1f_voices nc1f_step nc1a_parts nc1a_heights z_a_tape z_f_length z_f_fault z_f_place z_a_counts z_l0f_huts z_l0f_singers z_l0f_villages z_l0f_dams z_l0f_echoes z_l0f_deep z_l0f_slide z_l0a_heights z_l0a_ladders z_l0a_minutes z_l0a_echoFrom z_l0a_echoTo z_l0a_homes z_l0a_talls z_l0a_known z_l1f_huts z_l1f_singers z_l1f_villages z_l1f_dams z_l1f_echoes z_l1f_deep z_l1f_slide z_l1a_heights z_l1a_ladders z_l1a_minutes z_l1a_echoFrom z_l1a_echoTo z_l1a_homes z_l1a_talls z_l1a_known z_v0f_deeds z_v0a_kinds z_v0a_firsts z_v0a_seconds z_v1f_deeds z_v1a_kinds z_v1a_firsts z_v1a_seconds z_s0f_facts z_s0a_heard z_s0a_huts z_s0a_minutes z_s1f_facts z_s1a_heard z_s1a_huts z_s1a_minutes z_c0f_voices z_c0f_step z_c0a_parts z_c0a_heights z_c1f_voices z_c1f_step z_c1a_parts z_c1a_heights => (show tG na_tape nf_length nf_fault nf_place na_counts nl0f_huts nl0f_singers nl0f_villages nl0f_dams nl0f_echoes nl0f_deep nl0f_slide nl0a_heights nl0a_ladders nl0a_minutes nl0a_echoFrom nl0a_echoTo nl0a_homes nl0a_talls nl0a_known nl1f_huts nl1f_singers nl1f_villages nl1f_dams nl1f_echoes nl1f_deep nl1f_slide nl1a_heights nl1a_ladders nl1a_minutes nl1a_echoFrom nl1a_echoTo nl1a_homes nl1a_talls nl1a_known nv0f_deeds nv0a_kinds nv0a_firsts nv0a_seconds nv1f_deeds nv1a_kinds nv1a_firsts nv1a_seconds ns0f_facts ns0a_heard ns0a_huts ns0a_minutes ns1f_facts ns1a_heard ns1a_huts ns1a_minutes nc0f_voices nc0f_step nc0a_parts nc0a_heights nc1f_voices nc1f_step nc1a_parts nc1a_heights from ⟨z_a_tape, z_f_length, z_f_fault, z_f_place, z_a_counts, z_l0f_huts, z_l0f_singers, z_l0f_villages, z_l0f_dams, z_l0f_echoes, z_l0f_deep, z_l0f_slide, z_l0a_heights, z_l0a_ladders, z_l0a_minutes, z_l0a_echoFrom, z_l0a_echoTo, z_l0a_homes, z_l0a_talls, z_l0a_known, z_l1f_huts, z_l1f_singers, z_l1f_villages, z_l1f_dams, z_l1f_echoes, z_l1f_deep, z_l1f_slide, z_l1a_heights, z_l1a_ladders, z_l1a_minutes, z_l1a_echoFrom, z_l1a_echoTo, z_l1a_homes, z_l1a_talls, z_l1a_known, z_v0f_deeds, z_v0a_kinds, z_v0a_firsts, z_v0a_seconds, z_v1f_deeds, z_v1a_kinds, z_v1a_firsts, z_v1a_seconds, z_s0f_facts, z_s0a_heard, z_s0a_huts, z_s0a_minutes, z_s1f_facts, z_s1a_heard, z_s1a_huts, z_s1a_minutes, z_c0f_voices, z_c0f_step, z_c0a_parts, z_c0a_heights, z_c1f_voices, z_c1f_step, z_c1a_parts, z_c1a_heights⟩))

set_option maxRecDepth 40000 in
set_option maxHeartbeats 4000000 in
theorem im_tail3 {p : Program} {l : Launch} {e : Env} {s : State} {m : MethodId} {args : Array Value} {below : List Frame} {meth : Method} {c : Code} {H : Heap} {locs : List Loc} {ls : Array Slot} {E : zE} {qx qi kc ks : Nat} {A : Nat → Prop} {x1 : Int32} {ta_tape : Nat → Int32} {tf_length : Int32} {tf_fault : Int32} {tf_place : Int32} {ta_counts : Nat → Int32} {tl0f_huts : Int32} {tl0f_singers : Int32} {tl0f_villages : Int32} {tl0f_dams : Int32} {tl0f_echoes : Int32} {tl0f_deep : Int32} {tl0f_slide : Int32} {tl0a_heights : Nat → Int32} {tl0a_ladders : Nat → Int32} {tl0a_minutes : Nat → Int32} {tl0a_echoFrom : Nat → Int32} {tl0a_echoTo : Nat → Int32} {tl0a_homes : Nat → Int32} {tl0a_talls : Nat → Int32} {tl0a_known : Nat → Int32} {tl1f_huts : Int32} {tl1f_singers : Int32} {tl1f_villages : Int32} {tl1f_dams : Int32} {tl1f_echoes : Int32} {tl1f_deep : Int32} {tl1f_slide : Int32} {tl1a_heights : Nat → Int32} {tl1a_ladders : Nat → Int32} {tl1a_minutes : Nat → Int32} {tl1a_echoFrom : Nat → Int32} {tl1a_echoTo : Nat → Int32} {tl1a_homes : Nat → Int32} {tl1a_talls : Nat → Int32} {tl1a_known : Nat → Int32} {tv0f_deeds : Int32} {tv0a_kinds : Nat → Int32} {tv0a_firsts : Nat → Int32} {tv0a_seconds : Nat → Int32} {tv1f_deeds : Int32} {tv1a_kinds : Nat → Int32} {tv1a_firsts : Nat → Int32} {tv1a_seconds : Nat → Int32} {ts0f_facts : Int32} {ts0a_heard : Nat → Int32} {ts0a_huts : Nat → Int32} {ts0a_minutes : Nat → Int32} {ts1f_facts : Int32} {ts1a_heard : Nat → Int32} {ts1a_huts : Nat → Int32} {ts1a_minutes : Nat → Int32} {tc0f_voices : Int32} {tc0f_step : Int32} {tc0a_parts : Nat → Int32} {tc0a_heights : Nat → Int32} {tc1f_voices : Int32} {tc1f_step : Int32} {tc1a_parts : Nat → Int32} {tc1a_heights : Nat → Int32} {m_images : Nat → Option Nat} {rlf_huts : Int32} {rlf_singers : Int32} {rlf_villages : Int32} {rlf_dams : Int32} {rlf_echoes : Int32} {rlf_deep : Int32} {rlf_slide : Int32} {rla_heights : Nat → Int32} {rla_ladders : Nat → Int32} {rla_minutes : Nat → Int32} {rla_echoFrom : Nat → Int32} {rla_echoTo : Nat → Int32} {rla_homes : Nat → Int32} {rla_talls : Nat → Int32} {rla_known : Nat → Int32} {rvf_deeds : Int32} {rva_kinds : Nat → Int32} {rva_firsts : Nat → Int32} {rva_seconds : Nat → Int32} {rsf_facts : Int32} {rsa_heard : Nat → Int32} {rsa_huts : Nat → Int32} {rsa_minutes : Nat → Int32} {rcf_voices : Int32} {rcf_step : Int32} {rca_parts : Nat → Int32} {rca_heights : Nat → Int32} {rf_fault : Int32} {rf_faultPlace : Int32} {ra_numbers : Nat → Int32} {ra_tape : Nat → Int32} {rf_length : Int32} {rf_behind : Int32} {rf_kind : Int32} {rf_first : Int32} {rf_value : Int32} {rf_hutsToldOf : Int32} {rf_singersToldOf : Int32} {nf_minute : Int32} {nf_avalanches : Int32} {nf_begun : Int32} {nf_climbed : Int32} {nf_seed : Int32} {na_huts : Nat → Int32} {na_known : Nat → Int32} {na_levels : Nat → Int32} {na_snow : Nat → Int32} {na_open : Nat → Int32} {pa_heard : Nat → Int32} {pa_walked : Nat → Int32} {pa_total : Nat → Int32} {pa_longest : Nat → Int32} {pa_next : Nat → Int32} {pa_cover : Nat → Int32} {pa_now : Nat → Int32} {pa_then : Nat → Int32} {ko_stands : Option Nat} {ka_gaps : Nat → Int32} {ka_behind : Nat → Int32} {ba_less : Nat → Int32} {ba_full : Nat → Int32} {ia_tape : Nat → Int32} {if_length : Int32} {if_fault : Int32} {if_place : Int32} {ia_counts : Nat → Int32} {il0f_huts : Int32} {il0f_singers : Int32} {il0f_villages : Int32} {il0f_dams : Int32} {il0f_echoes : Int32} {il0f_deep : Int32} {il0f_slide : Int32} {il0a_heights : Nat → Int32} {il0a_ladders : Nat → Int32} {il0a_minutes : Nat → Int32} {il0a_echoFrom : Nat → Int32} {il0a_echoTo : Nat → Int32} {il0a_homes : Nat → Int32} {il0a_talls : Nat → Int32} {il0a_known : Nat → Int32} {il1f_huts : Int32} {il1f_singers : Int32} {il1f_villages : Int32} {il1f_dams : Int32} {il1f_echoes : Int32} {il1f_deep : Int32} {il1f_slide : Int32} {il1a_heights : Nat → Int32} {il1a_ladders : Nat → Int32} {il1a_minutes : Nat → Int32} {il1a_echoFrom : Nat → Int32} {il1a_echoTo : Nat → Int32} {il1a_homes : Nat → Int32} {il1a_talls : Nat → Int32} {il1a_known : Nat → Int32} {iv0f_deeds : Int32} {iv0a_kinds : Nat → Int32} {iv0a_firsts : Nat → Int32} {iv0a_seconds : Nat → Int32} {iv1f_deeds : Int32} {iv1a_kinds : Nat → Int32} {iv1a_firsts : Nat → Int32} {iv1a_seconds : Nat → Int32} {is0f_facts : Int32} {is0a_heard : Nat → Int32} {is0a_huts : Nat → Int32} {is0a_minutes : Nat → Int32} {is1f_facts : Int32} {is1a_heard : Nat → Int32} {is1a_huts : Nat → Int32} {is1a_minutes : Nat → Int32} {ic0f_voices : Int32} {ic0f_step : Int32} {ic0a_parts : Nat → Int32} {ic0a_heights : Nat → Int32} {ic1f_voices : Int32} {ic1f_step : Int32} {ic1a_parts : Nat → Int32} {ic1a_heights : Nat → Int32} (zc : zC p s m args meth c cX10_image 2 RX10 (some .boolean)) (hK : zK E s) (hM : wxiW E qx qi ta_tape tf_length tf_fault tf_place ta_counts tl0f_huts tl0f_singers tl0f_villages tl0f_dams tl0f_echoes tl0f_deep tl0f_slide tl0a_heights tl0a_ladders tl0a_minutes tl0a_echoFrom tl0a_echoTo tl0a_homes tl0a_talls tl0a_known tl1f_huts tl1f_singers tl1f_villages tl1f_dams tl1f_echoes tl1f_deep tl1f_slide tl1a_heights tl1a_ladders tl1a_minutes tl1a_echoFrom tl1a_echoTo tl1a_homes tl1a_talls tl1a_known tv0f_deeds tv0a_kinds tv0a_firsts tv0a_seconds tv1f_deeds tv1a_kinds tv1a_firsts tv1a_seconds ts0f_facts ts0a_heard ts0a_huts ts0a_minutes ts1f_facts ts1a_heard ts1a_huts ts1a_minutes tc0f_voices tc0f_step tc0a_parts tc0a_heights tc1f_voices tc1f_step tc1a_parts tc1a_heights m_images rlf_huts rlf_singers rlf_villages rlf_dams rlf_echoes rlf_deep rlf_slide rla_heights rla_ladders rla_minutes rla_echoFrom rla_echoTo rla_homes rla_talls rla_known rvf_deeds rva_kinds rva_firsts rva_seconds rsf_facts rsa_heard rsa_huts rsa_minutes rcf_voices rcf_step rca_parts rca_heights rf_fault rf_faultPlace ra_numbers ra_tape rf_length rf_behind rf_kind rf_first rf_value rf_hutsToldOf rf_singersToldOf nf_minute nf_avalanches nf_begun nf_climbed nf_seed na_huts na_known na_levels na_snow na_open pa_heard pa_walked pa_total pa_longest pa_next pa_cover pa_now pa_then ko_stands ka_gaps ka_behind ba_less ba_full ia_tape if_length if_fault if_place ia_counts il0f_huts il0f_singers il0f_villages il0f_dams il0f_echoes il0f_deep il0f_slide il0a_heights il0a_ladders il0a_minutes il0a_echoFrom il0a_echoTo il0a_homes il0a_talls il0a_known il1f_huts il1f_singers il1f_villages il1f_dams il1f_echoes il1f_deep il1f_slide il1a_heights il1a_ladders il1a_minutes il1a_echoFrom il1a_echoTo il1a_homes il1a_talls il1a_known iv0f_deeds iv0a_kinds iv0a_firsts iv0a_seconds iv1f_deeds iv1a_kinds iv1a_firsts iv1a_seconds is0f_facts is0a_heard is0a_huts is0a_minutes is1f_facts is1a_heard is1a_huts is1a_minutes ic0f_voices ic0f_step ic0a_parts ic0a_heights ic1f_voices ic1f_step ic1a_parts ic1a_heights H) (hT : tG ta_tape tf_length tf_fault tf_place ta_counts tl0f_huts tl0f_singers tl0f_villages tl0f_dams tl0f_echoes tl0f_deep tl0f_slide tl0a_heights tl0a_ladders tl0a_minutes tl0a_echoFrom tl0a_echoTo tl0a_homes tl0a_talls tl0a_known tl1f_huts tl1f_singers tl1f_villages tl1f_dams tl1f_echoes tl1f_deep tl1f_slide tl1a_heights tl1a_ladders tl1a_minutes tl1a_echoFrom tl1a_echoTo tl1a_homes tl1a_talls tl1a_known tv0f_deeds tv0a_kinds tv0a_firsts tv0a_seconds tv1f_deeds tv1a_kinds tv1a_firsts tv1a_seconds ts0f_facts ts0a_heard ts0a_huts ts0a_minutes ts1f_facts ts1a_heard ts1a_huts ts1a_minutes tc0f_voices tc0f_step tc0a_parts tc0a_heights tc1f_voices tc1f_step tc1a_parts tc1a_heights) (hI : tG ia_tape if_length if_fault if_place ia_counts il0f_huts il0f_singers il0f_villages il0f_dams il0f_echoes il0f_deep il0f_slide il0a_heights il0a_ladders il0a_minutes il0a_echoFrom il0a_echoTo il0a_homes il0a_talls il0a_known il1f_huts il1f_singers il1f_villages il1f_dams il1f_echoes il1f_deep il1f_slide il1a_heights il1a_ladders il1a_minutes il1a_echoFrom il1a_echoTo il1a_homes il1a_talls il1a_known iv0f_deeds iv0a_kinds iv0a_firsts iv0a_seconds iv1f_deeds iv1a_kinds iv1a_firsts iv1a_seconds is0f_facts is0a_heard is0a_huts is0a_minutes is1f_facts is1a_heard is1a_huts is1a_minutes ic0f_voices ic0f_step ic0a_parts ic0a_heights ic1f_voices ic1f_step ic1a_parts ic1a_heights) (hin : vp_in x1 3) (hm : m_images (Int32.toNatClampNeg x1) = some qi) (hS : va_S A s.heap H locs) (hsub : ∀ q, wttA qi (qx + 1) q → A q) (hl : lv_has ls 2 [(0, .ref qx), (1, .int x1)]) :
    W p l e (rmI kc ks) s m args below meth c H locs kc ks (MQ below (zQi (S := Unit) (fun r _ => r = 1) (fun _ H => ∃ na_tape nf_length nf_fault nf_place na_counts nl0f_huts nl0f_singers nl0f_villages nl0f_dams nl0f_echoes nl0f_deep nl0f_slide nl0a_heights nl0a_ladders nl0a_minutes nl0a_echoFrom nl0a_echoTo nl0a_homes nl0a_talls nl0a_known nl1f_huts nl1f_singers nl1f_villages nl1f_dams nl1f_echoes nl1f_deep nl1f_slide nl1a_heights nl1a_ladders nl1a_minutes nl1a_echoFrom nl1a_echoTo nl1a_homes nl1a_talls nl1a_known nv0f_deeds nv0a_kinds nv0a_firsts nv0a_seconds nv1f_deeds nv1a_kinds nv1a_firsts nv1a_seconds ns0f_facts ns0a_heard ns0a_huts ns0a_minutes ns1f_facts ns1a_heard ns1a_huts ns1a_minutes nc0f_voices nc0f_step nc0a_parts nc0a_heights nc1f_voices nc1f_step nc1a_parts nc1a_heights, tG na_tape nf_length nf_fault nf_place na_counts nl0f_huts nl0f_singers nl0f_villages nl0f_dams nl0f_echoes nl0f_deep nl0f_slide nl0a_heights nl0a_ladders nl0a_minutes nl0a_echoFrom nl0a_echoTo nl0a_homes nl0a_talls nl0a_known nl1f_huts nl1f_singers nl1f_villages nl1f_dams nl1f_echoes nl1f_deep nl1f_slide nl1a_heights nl1a_ladders nl1a_minutes nl1a_echoFrom nl1a_echoTo nl1a_homes nl1a_talls nl1a_known nv0f_deeds nv0a_kinds nv0a_firsts nv0a_seconds nv1f_deeds nv1a_kinds nv1a_firsts nv1a_seconds ns0f_facts ns0a_heard ns0a_huts ns0a_minutes ns1f_facts ns1a_heard ns1a_huts ns1a_minutes nc0f_voices nc0f_step nc0a_parts nc0a_heights nc1f_voices nc1f_step nc1a_parts nc1a_heights ∧ tCP (tmk na_tape nf_length nf_fault nf_place na_counts nl0f_huts nl0f_singers nl0f_villages nl0f_dams nl0f_echoes nl0f_deep nl0f_slide nl0a_heights nl0a_ladders nl0a_minutes nl0a_echoFrom nl0a_echoTo nl0a_homes nl0a_talls nl0a_known nl1f_huts nl1f_singers nl1f_villages nl1f_dams nl1f_echoes nl1f_deep nl1f_slide nl1a_heights nl1a_ladders nl1a_minutes nl1a_echoFrom nl1a_echoTo nl1a_homes nl1a_talls nl1a_known nv0f_deeds nv0a_kinds nv0a_firsts nv0a_seconds nv1f_deeds nv1a_kinds nv1a_firsts nv1a_seconds ns0f_facts ns0a_heard ns0a_huts ns0a_minutes ns1f_facts ns1a_heard ns1a_huts ns1a_minutes nc0f_voices nc0f_step nc0a_parts nc0a_heights nc1f_voices nc1f_step nc1a_parts nc1a_heights) (tmk ta_tape tf_length tf_fault tf_place ta_counts tl0f_huts tl0f_singers tl0f_villages tl0f_dams tl0f_echoes tl0f_deep tl0f_slide tl0a_heights tl0a_ladders tl0a_minutes tl0a_echoFrom tl0a_echoTo tl0a_homes tl0a_talls tl0a_known tl1f_huts tl1f_singers tl1f_villages tl1f_dams tl1f_echoes tl1f_deep tl1f_slide tl1a_heights tl1a_ladders tl1a_minutes tl1a_echoFrom tl1a_echoTo tl1a_homes tl1a_talls tl1a_known tv0f_deeds tv0a_kinds tv0a_firsts tv0a_seconds tv1f_deeds tv1a_kinds tv1a_firsts tv1a_seconds ts0f_facts ts0a_heard ts0a_huts ts0a_minutes ts1f_facts ts1a_heard ts1a_huts ts1a_minutes tc0f_voices tc0f_step tc0a_parts tc0a_heights tc1f_voices tc1f_step tc1a_parts tc1a_heights) ∧ wxiW E qx qi ta_tape tf_length tf_fault tf_place ta_counts tl0f_huts tl0f_singers tl0f_villages tl0f_dams tl0f_echoes tl0f_deep tl0f_slide tl0a_heights tl0a_ladders tl0a_minutes tl0a_echoFrom tl0a_echoTo tl0a_homes tl0a_talls tl0a_known tl1f_huts tl1f_singers tl1f_villages tl1f_dams tl1f_echoes tl1f_deep tl1f_slide tl1a_heights tl1a_ladders tl1a_minutes tl1a_echoFrom tl1a_echoTo tl1a_homes tl1a_talls tl1a_known tv0f_deeds tv0a_kinds tv0a_firsts tv0a_seconds tv1f_deeds tv1a_kinds tv1a_firsts tv1a_seconds ts0f_facts ts0a_heard ts0a_huts ts0a_minutes ts1f_facts ts1a_heard ts1a_huts ts1a_minutes tc0f_voices tc0f_step tc0a_parts tc0a_heights tc1f_voices tc1f_step tc1a_parts tc1a_heights m_images rlf_huts rlf_singers rlf_villages rlf_dams rlf_echoes rlf_deep rlf_slide rla_heights rla_ladders rla_minutes rla_echoFrom rla_echoTo rla_homes rla_talls rla_known rvf_deeds rva_kinds rva_firsts rva_seconds rsf_facts rsa_heard rsa_huts rsa_minutes rcf_voices rcf_step rca_parts rca_heights rf_fault rf_faultPlace ra_numbers ra_tape rf_length rf_behind rf_kind rf_first rf_value rf_hutsToldOf rf_singersToldOf nf_minute nf_avalanches nf_begun nf_climbed nf_seed na_huts na_known na_levels na_snow na_open pa_heard pa_walked pa_total pa_longest pa_next pa_cover pa_now pa_then ko_stands ka_gaps ka_behind ba_less ba_full na_tape nf_length nf_fault nf_place na_counts nl0f_huts nl0f_singers nl0f_villages nl0f_dams nl0f_echoes nl0f_deep nl0f_slide nl0a_heights nl0a_ladders nl0a_minutes nl0a_echoFrom nl0a_echoTo nl0a_homes nl0a_talls nl0a_known nl1f_huts nl1f_singers nl1f_villages nl1f_dams nl1f_echoes nl1f_deep nl1f_slide nl1a_heights nl1a_ladders nl1a_minutes nl1a_echoFrom nl1a_echoTo nl1a_homes nl1a_talls nl1a_known nv0f_deeds nv0a_kinds nv0a_firsts nv0a_seconds nv1f_deeds nv1a_kinds nv1a_firsts nv1a_seconds ns0f_facts ns0a_heard ns0a_huts ns0a_minutes ns1f_facts ns1a_heard ns1a_huts ns1a_minutes nc0f_voices nc0f_step nc0a_parts nc0a_heights nc1f_voices nc1f_step nc1a_parts nc1a_heights H) A) args s kc ks A) (F0 m 33 ls []) := by
  have hx := zc.1
  have hb := zc.2.1
  have hMx := xi_x hM
  refine lv_aload_n hx hb dX10_image_33 rfl (lv_at hl 0 rfl) ?_
  refine va_get (D := E.1) (ci := 10) (v := .ref (qx + 48)) (C := RX10) (T := TX10) (N := 7) hx hb zc.2.2.2.2.1 uw10 zc.2.2.2.1 hK.1 hMx 0 rfl rfl 1 (by decide) (zc.2.2.2.2.1 _ kf_10_16) (fun _ h9 => h9) rfl dX10_image_34 ?_
  refine lv_iload_n hx hb dX10_image_37 rfl (lv_at hl 1 rfl) ?_
  refine va_aldq hx hb hK.1 hMx 48 8 rfl rfl hin dX10_image_38 ?_
  rw [hm]
  refine W.eq (g2 := F0 m 39 ls (.ref qi :: [])) rfl ?_
  refine lv_aload_n hx hb dX10_image_39 rfl (lv_at hl 0 rfl) ?_
  refine va_get (D := E.1) (ci := 10) (v := .ref (qx + 1)) (C := RX10) (T := TX10) (N := 7) hx hb zc.2.2.2.2.1 uw10 zc.2.2.2.1 hK.1 hMx 0 rfl rfl 0 (by decide) (zc.2.2.2.2.1 _ kf_10_10) (fun _ h9 => h9) rfl dX10_image_40 ?_
  refine zVa_v [.ref (qx + 1)] [] zc ky_X9_copyFrom kz_X9_copyFrom km_10_323 (c_wtt_X9_copyFrom_47 l (post := fun na_tape nf_length nf_fault nf_place na_counts nl0f_huts nl0f_singers nl0f_villages nl0f_dams nl0f_echoes nl0f_deep nl0f_slide nl0a_heights nl0a_ladders nl0a_minutes nl0a_echoFrom nl0a_echoTo nl0a_homes nl0a_talls nl0a_known nl1f_huts nl1f_singers nl1f_villages nl1f_dams nl1f_echoes nl1f_deep nl1f_slide nl1a_heights nl1a_ladders nl1a_minutes nl1a_echoFrom nl1a_echoTo nl1a_homes nl1a_talls nl1a_known nv0f_deeds nv0a_kinds nv0a_firsts nv0a_seconds nv1f_deeds nv1a_kinds nv1a_firsts nv1a_seconds ns0f_facts ns0a_heard ns0a_huts ns0a_minutes ns1f_facts ns1a_heard ns1a_huts ns1a_minutes nc0f_voices nc0f_step nc0a_parts nc0a_heights nc1f_voices nc1f_step nc1a_parts nc1a_heights => tG na_tape nf_length nf_fault nf_place na_counts nl0f_huts nl0f_singers nl0f_villages nl0f_dams nl0f_echoes nl0f_deep nl0f_slide nl0a_heights nl0a_ladders nl0a_minutes nl0a_echoFrom nl0a_echoTo nl0a_homes nl0a_talls nl0a_known nl1f_huts nl1f_singers nl1f_villages nl1f_dams nl1f_echoes nl1f_deep nl1f_slide nl1a_heights nl1a_ladders nl1a_minutes nl1a_echoFrom nl1a_echoTo nl1a_homes nl1a_talls nl1a_known nv0f_deeds nv0a_kinds nv0a_firsts nv0a_seconds nv1f_deeds nv1a_kinds nv1a_firsts nv1a_seconds ns0f_facts ns0a_heard ns0a_huts ns0a_minutes ns1f_facts ns1a_heard ns1a_huts ns1a_minutes nc0f_voices nc0f_step nc0a_parts nc0a_heights nc1f_voices nc1f_step nc1a_parts nc1a_heights ∧ tCP (tmk na_tape nf_length nf_fault nf_place na_counts nl0f_huts nl0f_singers nl0f_villages nl0f_dams nl0f_echoes nl0f_deep nl0f_slide nl0a_heights nl0a_ladders nl0a_minutes nl0a_echoFrom nl0a_echoTo nl0a_homes nl0a_talls nl0a_known nl1f_huts nl1f_singers nl1f_villages nl1f_dams nl1f_echoes nl1f_deep nl1f_slide nl1a_heights nl1a_ladders nl1a_minutes nl1a_echoFrom nl1a_echoTo nl1a_homes nl1a_talls nl1a_known nv0f_deeds nv0a_kinds nv0a_firsts nv0a_seconds nv1f_deeds nv1a_kinds nv1a_firsts nv1a_seconds ns0f_facts ns0a_heard ns0a_huts ns0a_minutes ns1f_facts ns1a_heard ns1a_huts ns1a_minutes nc0f_voices nc0f_step nc0a_parts nc0a_heights nc1f_voices nc1f_step nc1a_parts nc1a_heights) (tmk ta_tape tf_length tf_fault tf_place ta_counts tl0f_huts tl0f_singers tl0f_villages tl0f_dams tl0f_echoes tl0f_deep tl0f_slide tl0a_heights tl0a_ladders tl0a_minutes tl0a_echoFrom tl0a_echoTo tl0a_homes tl0a_talls tl0a_known tl1f_huts tl1f_singers tl1f_villages tl1f_dams tl1f_echoes tl1f_deep tl1f_slide tl1a_heights tl1a_ladders tl1a_minutes tl1a_echoFrom tl1a_echoTo tl1a_homes tl1a_talls tl1a_known tv0f_deeds tv0a_kinds tv0a_firsts tv0a_seconds tv1f_deeds tv1a_kinds tv1a_firsts tv1a_seconds ts0f_facts ts0a_heard ts0a_huts ts0a_minutes ts1f_facts ts1a_heard ts1a_huts ts1a_minutes tc0f_voices tc0f_step tc0a_parts tc0a_heights tc1f_voices tc1f_step tc1a_parts tc1a_heights)) (tG_copy3 hI hT (fun _ _ _ _ _ _ _ _ _ _ _ _ _ _ _ _ _ _ _ _ _ _ _ _ _ _ _ _ _ _ _ _ _ _ _ _ _ _ _ _ _ _ _ _ _ _ _ _ _ _ _ _ _ _ _ _ _ _ _ h1 h2 => ⟨h1, h2⟩))) (wttPreV0 hK (pj_wxi_wtt_93_1 hM)) hS hsub rfl rfl hl.1 (Nat.le_of_ble_eq_true rfl) ⟨rfl, rfl⟩ ⟨(Nat.le_of_ble_eq_true rfl), (Nat.le_of_ble_eq_true rfl)⟩ ⟨Nat.le_refl _, Nat.le_refl _⟩ dX10_image_43 (fun u H4 locs hw hB hsz hk hS => ?_)
  have hM := jn_wxi_wtt_93_1 hM hB hk
  refine lv_iconst (v := (1 : Int32)) hx hb dX10_image_46 (by decide) ?_
  exact zret_zw () zc hS rfl rfl ⟨_, _, _, _, _, _, _, _, _, _, _, _, _, _, _, _, _, _, _, _, _, _, _, _, _, _, _, _, _, _, _, _, _, _, _, _, _, _, _, _, _, _, _, _, _, _, _, _, _, _, _, _, _, _, _, _, _, _, _, hw.1, hw.2, hM⟩ dX10_image_47

set_option maxRecDepth 40000 in
set_option maxHeartbeats 4000000 in
theorem c3_image_old (l : Launch) {E : zE} {qx qi : Nat} {ta_tape : Nat → Int32} {tf_length : Int32} {tf_fault : Int32} {tf_place : Int32} {ta_counts : Nat → Int32} {tl0f_huts : Int32} {tl0f_singers : Int32} {tl0f_villages : Int32} {tl0f_dams : Int32} {tl0f_echoes : Int32} {tl0f_deep : Int32} {tl0f_slide : Int32} {tl0a_heights : Nat → Int32} {tl0a_ladders : Nat → Int32} {tl0a_minutes : Nat → Int32} {tl0a_echoFrom : Nat → Int32} {tl0a_echoTo : Nat → Int32} {tl0a_homes : Nat → Int32} {tl0a_talls : Nat → Int32} {tl0a_known : Nat → Int32} {tl1f_huts : Int32} {tl1f_singers : Int32} {tl1f_villages : Int32} {tl1f_dams : Int32} {tl1f_echoes : Int32} {tl1f_deep : Int32} {tl1f_slide : Int32} {tl1a_heights : Nat → Int32} {tl1a_ladders : Nat → Int32} {tl1a_minutes : Nat → Int32} {tl1a_echoFrom : Nat → Int32} {tl1a_echoTo : Nat → Int32} {tl1a_homes : Nat → Int32} {tl1a_talls : Nat → Int32} {tl1a_known : Nat → Int32} {tv0f_deeds : Int32} {tv0a_kinds : Nat → Int32} {tv0a_firsts : Nat → Int32} {tv0a_seconds : Nat → Int32} {tv1f_deeds : Int32} {tv1a_kinds : Nat → Int32} {tv1a_firsts : Nat → Int32} {tv1a_seconds : Nat → Int32} {ts0f_facts : Int32} {ts0a_heard : Nat → Int32} {ts0a_huts : Nat → Int32} {ts0a_minutes : Nat → Int32} {ts1f_facts : Int32} {ts1a_heard : Nat → Int32} {ts1a_huts : Nat → Int32} {ts1a_minutes : Nat → Int32} {tc0f_voices : Int32} {tc0f_step : Int32} {tc0a_parts : Nat → Int32} {tc0a_heights : Nat → Int32} {tc1f_voices : Int32} {tc1f_step : Int32} {tc1a_parts : Nat → Int32} {tc1a_heights : Nat → Int32} {m_images : Nat → Option Nat} {rlf_huts : Int32} {rlf_singers : Int32} {rlf_villages : Int32} {rlf_dams : Int32} {rlf_echoes : Int32} {rlf_deep : Int32} {rlf_slide : Int32} {rla_heights : Nat → Int32} {rla_ladders : Nat → Int32} {rla_minutes : Nat → Int32} {rla_echoFrom : Nat → Int32} {rla_echoTo : Nat → Int32} {rla_homes : Nat → Int32} {rla_talls : Nat → Int32} {rla_known : Nat → Int32} {rvf_deeds : Int32} {rva_kinds : Nat → Int32} {rva_firsts : Nat → Int32} {rva_seconds : Nat → Int32} {rsf_facts : Int32} {rsa_heard : Nat → Int32} {rsa_huts : Nat → Int32} {rsa_minutes : Nat → Int32} {rcf_voices : Int32} {rcf_step : Int32} {rca_parts : Nat → Int32} {rca_heights : Nat → Int32} {rf_fault : Int32} {rf_faultPlace : Int32} {ra_numbers : Nat → Int32} {ra_tape : Nat → Int32} {rf_length : Int32} {rf_behind : Int32} {rf_kind : Int32} {rf_first : Int32} {rf_value : Int32} {rf_hutsToldOf : Int32} {rf_singersToldOf : Int32} {nf_minute : Int32} {nf_avalanches : Int32} {nf_begun : Int32} {nf_climbed : Int32} {nf_seed : Int32} {na_huts : Nat → Int32} {na_known : Nat → Int32} {na_levels : Nat → Int32} {na_snow : Nat → Int32} {na_open : Nat → Int32} {pa_heard : Nat → Int32} {pa_walked : Nat → Int32} {pa_total : Nat → Int32} {pa_longest : Nat → Int32} {pa_next : Nat → Int32} {pa_cover : Nat → Int32} {pa_now : Nat → Int32} {pa_then : Nat → Int32} {ko_stands : Option Nat} {ka_gaps : Nat → Int32} {ka_behind : Nat → Int32} {ba_less : Nat → Int32} {ba_full : Nat → Int32} {ia_tape : Nat → Int32} {if_length : Int32} {if_fault : Int32} {if_place : Int32} {ia_counts : Nat → Int32} {il0f_huts : Int32} {il0f_singers : Int32} {il0f_villages : Int32} {il0f_dams : Int32} {il0f_echoes : Int32} {il0f_deep : Int32} {il0f_slide : Int32} {il0a_heights : Nat → Int32} {il0a_ladders : Nat → Int32} {il0a_minutes : Nat → Int32} {il0a_echoFrom : Nat → Int32} {il0a_echoTo : Nat → Int32} {il0a_homes : Nat → Int32} {il0a_talls : Nat → Int32} {il0a_known : Nat → Int32} {il1f_huts : Int32} {il1f_singers : Int32} {il1f_villages : Int32} {il1f_dams : Int32} {il1f_echoes : Int32} {il1f_deep : Int32} {il1f_slide : Int32} {il1a_heights : Nat → Int32} {il1a_ladders : Nat → Int32} {il1a_minutes : Nat → Int32} {il1a_echoFrom : Nat → Int32} {il1a_echoTo : Nat → Int32} {il1a_homes : Nat → Int32} {il1a_talls : Nat → Int32} {il1a_known : Nat → Int32} {iv0f_deeds : Int32} {iv0a_kinds : Nat → Int32} {iv0a_firsts : Nat → Int32} {iv0a_seconds : Nat → Int32} {iv1f_deeds : Int32} {iv1a_kinds : Nat → Int32} {iv1a_firsts : Nat → Int32} {iv1a_seconds : Nat → Int32} {is0f_facts : Int32} {is0a_heard : Nat → Int32} {is0a_huts : Nat → Int32} {is0a_minutes : Nat → Int32} {is1f_facts : Int32} {is1a_heard : Nat → Int32} {is1a_huts : Nat → Int32} {is1a_minutes : Nat → Int32} {ic0f_voices : Int32} {ic0f_step : Int32} {ic0a_parts : Nat → Int32} {ic0a_heights : Nat → Int32} {ic1f_voices : Int32} {ic1f_step : Int32} {ic1a_parts : Nat → Int32} {ic1a_heights : Nat → Int32} {x1 : Int32} (hr : ¬ x1 < 0 ∧ x1 < 3) (hm : m_images (Int32.toNatClampNeg x1) = some qi) (hT : tG ta_tape tf_length tf_fault tf_place ta_counts tl0f_huts tl0f_singers tl0f_villages tl0f_dams tl0f_echoes tl0f_deep tl0f_slide tl0a_heights tl0a_ladders tl0a_minutes tl0a_echoFrom tl0a_echoTo tl0a_homes tl0a_talls tl0a_known tl1f_huts tl1f_singers tl1f_villages tl1f_dams tl1f_echoes tl1f_deep tl1f_slide tl1a_heights tl1a_ladders tl1a_minutes tl1a_echoFrom tl1a_echoTo tl1a_homes tl1a_talls tl1a_known tv0f_deeds tv0a_kinds tv0a_firsts tv0a_seconds tv1f_deeds tv1a_kinds tv1a_firsts tv1a_seconds ts0f_facts ts0a_heard ts0a_huts ts0a_minutes ts1f_facts ts1a_heard ts1a_huts ts1a_minutes tc0f_voices tc0f_step tc0a_parts tc0a_heights tc1f_voices tc1f_step tc1a_parts tc1a_heights) (hI : tG ia_tape if_length if_fault if_place ia_counts il0f_huts il0f_singers il0f_villages il0f_dams il0f_echoes il0f_deep il0f_slide il0a_heights il0a_ladders il0a_minutes il0a_echoFrom il0a_echoTo il0a_homes il0a_talls il0a_known il1f_huts il1f_singers il1f_villages il1f_dams il1f_echoes il1f_deep il1f_slide il1a_heights il1a_ladders il1a_minutes il1a_echoFrom il1a_echoTo il1a_homes il1a_talls il1a_known iv0f_deeds iv0a_kinds iv0a_firsts iv0a_seconds iv1f_deeds iv1a_kinds iv1a_firsts iv1a_seconds is0f_facts is0a_heard is0a_huts is0a_minutes is1f_facts is1a_heard is1a_huts is1a_minutes ic0f_voices ic0f_step ic0a_parts ic0a_heights ic1f_voices ic1f_step ic1a_parts ic1a_heights) : Met l yX10_image (Cond.code yX10_image cX10_image 2 (some .boolean) :: zb) (rmI 0 0) (va_Pc [.ref qx, .int x1] (fun U => wxiW E qx qi ta_tape tf_length tf_fault tf_place ta_counts tl0f_huts tl0f_singers tl0f_villages tl0f_dams tl0f_echoes tl0f_deep tl0f_slide tl0a_heights tl0a_ladders tl0a_minutes tl0a_echoFrom tl0a_echoTo tl0a_homes tl0a_talls tl0a_known tl1f_huts tl1f_singers tl1f_villages tl1f_dams tl1f_echoes tl1f_deep tl1f_slide tl1a_heights tl1a_ladders tl1a_minutes tl1a_echoFrom tl1a_echoTo tl1a_homes tl1a_talls tl1a_known tv0f_deeds tv0a_kinds tv0a_firsts tv0a_seconds tv1f_deeds tv1a_kinds tv1a_firsts tv1a_seconds ts0f_facts ts0a_heard ts0a_huts ts0a_minutes ts1f_facts ts1a_heard ts1a_huts ts1a_minutes tc0f_voices tc0f_step tc0a_parts tc0a_heights tc1f_voices tc1f_step tc1a_parts tc1a_heights m_images rlf_huts rlf_singers rlf_villages rlf_dams rlf_echoes rlf_deep rlf_slide rla_heights rla_ladders rla_minutes rla_echoFrom rla_echoTo rla_homes rla_talls rla_known rvf_deeds rva_kinds rva_firsts rva_seconds rsf_facts rsa_heard rsa_huts rsa_minutes rcf_voices rcf_step rca_parts rca_heights rf_fault rf_faultPlace ra_numbers ra_tape rf_length rf_behind rf_kind rf_first rf_value rf_hutsToldOf rf_singersToldOf nf_minute nf_avalanches nf_begun nf_climbed nf_seed na_huts na_known na_levels na_snow na_open pa_heard pa_walked pa_total pa_longest pa_next pa_cover pa_now pa_then ko_stands ka_gaps ka_behind ba_less ba_full ia_tape if_length if_fault if_place ia_counts il0f_huts il0f_singers il0f_villages il0f_dams il0f_echoes il0f_deep il0f_slide il0a_heights il0a_ladders il0a_minutes il0a_echoFrom il0a_echoTo il0a_homes il0a_talls il0a_known il1f_huts il1f_singers il1f_villages il1f_dams il1f_echoes il1f_deep il1f_slide il1a_heights il1a_ladders il1a_minutes il1a_echoFrom il1a_echoTo il1a_homes il1a_talls il1a_known iv0f_deeds iv0a_kinds iv0a_firsts iv0a_seconds iv1f_deeds iv1a_kinds iv1a_firsts iv1a_seconds is0f_facts is0a_heard is0a_huts is0a_minutes is1f_facts is1a_heard is1a_huts is1a_minutes ic0f_voices ic0f_step ic0a_parts ic0a_heights ic1f_voices ic1f_step ic1a_parts ic1a_heights U.heap ∧ zK E U)) (zQi (S := Unit) (fun r _ => r = 1) (fun _ H => ∃ na_tape nf_length nf_fault nf_place na_counts nl0f_huts nl0f_singers nl0f_villages nl0f_dams nl0f_echoes nl0f_deep nl0f_slide nl0a_heights nl0a_ladders nl0a_minutes nl0a_echoFrom nl0a_echoTo nl0a_homes nl0a_talls nl0a_known nl1f_huts nl1f_singers nl1f_villages nl1f_dams nl1f_echoes nl1f_deep nl1f_slide nl1a_heights nl1a_ladders nl1a_minutes nl1a_echoFrom nl1a_echoTo nl1a_homes nl1a_talls nl1a_known nv0f_deeds nv0a_kinds nv0a_firsts nv0a_seconds nv1f_deeds nv1a_kinds nv1a_firsts nv1a_seconds ns0f_facts ns0a_heard ns0a_huts ns0a_minutes ns1f_facts ns1a_heard ns1a_huts ns1a_minutes nc0f_voices nc0f_step nc0a_parts nc0a_heights nc1f_voices nc1f_step nc1a_parts nc1a_heights, tG na_tape nf_length nf_fault nf_place na_counts nl0f_huts nl0f_singers nl0f_villages nl0f_dams nl0f_echoes nl0f_deep nl0f_slide nl0a_heights nl0a_ladders nl0a_minutes nl0a_echoFrom nl0a_echoTo nl0a_homes nl0a_talls nl0a_known nl1f_huts nl1f_singers nl1f_villages nl1f_dams nl1f_echoes nl1f_deep nl1f_slide nl1a_heights nl1a_ladders nl1a_minutes nl1a_echoFrom nl1a_echoTo nl1a_homes nl1a_talls nl1a_known nv0f_deeds nv0a_kinds nv0a_firsts nv0a_seconds nv1f_deeds nv1a_kinds nv1a_firsts nv1a_seconds ns0f_facts ns0a_heard ns0a_huts ns0a_minutes ns1f_facts ns1a_heard ns1a_huts ns1a_minutes nc0f_voices nc0f_step nc0a_parts nc0a_heights nc1f_voices nc1f_step nc1a_parts nc1a_heights ∧ tCP (tmk na_tape nf_length nf_fault nf_place na_counts nl0f_huts nl0f_singers nl0f_villages nl0f_dams nl0f_echoes nl0f_deep nl0f_slide nl0a_heights nl0a_ladders nl0a_minutes nl0a_echoFrom nl0a_echoTo nl0a_homes nl0a_talls nl0a_known nl1f_huts nl1f_singers nl1f_villages nl1f_dams nl1f_echoes nl1f_deep nl1f_slide nl1a_heights nl1a_ladders nl1a_minutes nl1a_echoFrom nl1a_echoTo nl1a_homes nl1a_talls nl1a_known nv0f_deeds nv0a_kinds nv0a_firsts nv0a_seconds nv1f_deeds nv1a_kinds nv1a_firsts nv1a_seconds ns0f_facts ns0a_heard ns0a_huts ns0a_minutes ns1f_facts ns1a_heard ns1a_huts ns1a_minutes nc0f_voices nc0f_step nc0a_parts nc0a_heights nc1f_voices nc1f_step nc1a_parts nc1a_heights) (tmk ta_tape tf_length tf_fault tf_place ta_counts tl0f_huts tl0f_singers tl0f_villages tl0f_dams tl0f_echoes tl0f_deep tl0f_slide tl0a_heights tl0a_ladders tl0a_minutes tl0a_echoFrom tl0a_echoTo tl0a_homes tl0a_talls tl0a_known tl1f_huts tl1f_singers tl1f_villages tl1f_dams tl1f_echoes tl1f_deep tl1f_slide tl1a_heights tl1a_ladders tl1a_minutes tl1a_echoFrom tl1a_echoTo tl1a_homes tl1a_talls tl1a_known tv0f_deeds tv0a_kinds tv0a_firsts tv0a_seconds tv1f_deeds tv1a_kinds tv1a_firsts tv1a_seconds ts0f_facts ts0a_heard ts0a_huts ts0a_minutes ts1f_facts ts1a_heard ts1a_huts ts1a_minutes tc0f_voices tc0f_step tc0a_parts tc0a_heights tc1f_voices tc1f_step tc1a_parts tc1a_heights) ∧ wxiW E qx qi ta_tape tf_length tf_fault tf_place ta_counts tl0f_huts tl0f_singers tl0f_villages tl0f_dams tl0f_echoes tl0f_deep tl0f_slide tl0a_heights tl0a_ladders tl0a_minutes tl0a_echoFrom tl0a_echoTo tl0a_homes tl0a_talls tl0a_known tl1f_huts tl1f_singers tl1f_villages tl1f_dams tl1f_echoes tl1f_deep tl1f_slide tl1a_heights tl1a_ladders tl1a_minutes tl1a_echoFrom tl1a_echoTo tl1a_homes tl1a_talls tl1a_known tv0f_deeds tv0a_kinds tv0a_firsts tv0a_seconds tv1f_deeds tv1a_kinds tv1a_firsts tv1a_seconds ts0f_facts ts0a_heard ts0a_huts ts0a_minutes ts1f_facts ts1a_heard ts1a_huts ts1a_minutes tc0f_voices tc0f_step tc0a_parts tc0a_heights tc1f_voices tc1f_step tc1a_parts tc1a_heights m_images rlf_huts rlf_singers rlf_villages rlf_dams rlf_echoes rlf_deep rlf_slide rla_heights rla_ladders rla_minutes rla_echoFrom rla_echoTo rla_homes rla_talls rla_known rvf_deeds rva_kinds rva_firsts rva_seconds rsf_facts rsa_heard rsa_huts rsa_minutes rcf_voices rcf_step rca_parts rca_heights rf_fault rf_faultPlace ra_numbers ra_tape rf_length rf_behind rf_kind rf_first rf_value rf_hutsToldOf rf_singersToldOf nf_minute nf_avalanches nf_begun nf_climbed nf_seed na_huts na_known na_levels na_snow na_open pa_heard pa_walked pa_total pa_longest pa_next pa_cover pa_now pa_then ko_stands ka_gaps ka_behind ba_less ba_full na_tape nf_length nf_fault nf_place na_counts nl0f_huts nl0f_singers nl0f_villages nl0f_dams nl0f_echoes nl0f_deep nl0f_slide nl0a_heights nl0a_ladders nl0a_minutes nl0a_echoFrom nl0a_echoTo nl0a_homes nl0a_talls nl0a_known nl1f_huts nl1f_singers nl1f_villages nl1f_dams nl1f_echoes nl1f_deep nl1f_slide nl1a_heights nl1a_ladders nl1a_minutes nl1a_echoFrom nl1a_echoTo nl1a_homes nl1a_talls nl1a_known nv0f_deeds nv0a_kinds nv0a_firsts nv0a_seconds nv1f_deeds nv1a_kinds nv1a_firsts nv1a_seconds ns0f_facts ns0a_heard ns0a_huts ns0a_minutes ns1f_facts ns1a_heard ns1a_huts ns1a_minutes nc0f_voices nc0f_step nc0a_parts nc0a_heights nc1f_voices nc1f_step nc1a_parts nc1a_heights H) (wttA qi (qx + 1))) 0 0 (wttA qi (qx + 1)) := by
  refine Met.ofW (cc := cX10_image) (maxL := 2) (ret := (some .boolean)) (by decide) rfl ?_
  intro p e s m args below meth c s₁ B hml hv
  obtain ⟨rfl, hM, hK⟩ := hv
  have zc := zc_of B hml
  have hx := zc.1
  have hb := zc.2.1
  have hl := lv_entry ([.ref qx, .int x1]) (n := 2) (Nat.le_of_ble_eq_true rfl)
  rw [lg_entry_eq]
  generalize (lg_sl ([.ref qx, .int x1]) ++ List.replicate (2 - (lg_sl ([.ref qx, .int x1])).length) Slot.unset).toArray = ls at hl ⊢
  have hl : lv_has ls 2 [(0, .ref qx), (1, .int x1)] := hl
  have hMx := xi_x hM
  have hin : vp_in x1 3 := iv_in (iv_lta (l := 0) (h := 2) (r_lt hr.2) (iv_leb (l := 0) (h := 2147483647) (r_nlt hr.1) (iv_lit (x := 0) (l := 0) (h := 0) (by decide)) (iv_top x1) (by decide)) (iv_lit (x := 3) (l := 3) (h := 3) (by decide)) (by decide)) (by decide)
  refine lv_iload_n hx hb dX10_image_0 rfl (lv_at hl 1 rfl) ?_
  refine lv_if_lt (tgt := 9) hx hb dX10_image_1 (by decide) (fun hc => absurd hc hr.1) (fun hc => ?_)
  refine lv_iload_n hx hb dX10_image_4 rfl (lv_at hl 1 rfl) ?_
  refine lv_iconst (v := (3 : Int32)) hx hb dX10_image_5 (by decide) ?_
  refine lv_icmp_lt (tgt := 11) hx hb dX10_image_6 (by decide) (fun hd => ?_) (fun hd => absurd hr.2 hd)
  refine lv_aload_n hx hb dX10_image_11 rfl (lv_at hl 0 rfl) ?_
  refine va_get (D := E.1) (ci := 10) (v := .ref (qx + 48)) (C := RX10) (T := TX10) (N := 7) hx hb zc.2.2.2.2.1 uw10 zc.2.2.2.1 hK.1 hMx 0 rfl rfl 1 (by decide) (zc.2.2.2.2.1 _ kf_10_16) (fun _ h9 => h9) rfl dX10_image_12 ?_
  refine lv_iload_n hx hb dX10_image_15 rfl (lv_at hl 1 rfl) ?_
  refine va_aldq hx hb hK.1 hMx 48 8 rfl rfl hin dX10_image_16 ?_
  rw [hm]
  refine W.eq (g2 := F0 m 17 ls (.ref qi :: [])) rfl ?_
  refine lv_ifnonnull (tgt := 33) hx hb dX10_image_17 (by decide) ?_
  exact im_tail3 zc hK hM hT hI hin hm va_S.rf (fun _ h => h) hl

set_option maxRecDepth 40000 in
set_option maxHeartbeats 4000000 in
theorem c3_image_new (l : Launch) {E : zE} {qx h : Nat} {ta_tape : Nat → Int32} {tf_length : Int32} {tf_fault : Int32} {tf_place : Int32} {ta_counts : Nat → Int32} {tl0f_huts : Int32} {tl0f_singers : Int32} {tl0f_villages : Int32} {tl0f_dams : Int32} {tl0f_echoes : Int32} {tl0f_deep : Int32} {tl0f_slide : Int32} {tl0a_heights : Nat → Int32} {tl0a_ladders : Nat → Int32} {tl0a_minutes : Nat → Int32} {tl0a_echoFrom : Nat → Int32} {tl0a_echoTo : Nat → Int32} {tl0a_homes : Nat → Int32} {tl0a_talls : Nat → Int32} {tl0a_known : Nat → Int32} {tl1f_huts : Int32} {tl1f_singers : Int32} {tl1f_villages : Int32} {tl1f_dams : Int32} {tl1f_echoes : Int32} {tl1f_deep : Int32} {tl1f_slide : Int32} {tl1a_heights : Nat → Int32} {tl1a_ladders : Nat → Int32} {tl1a_minutes : Nat → Int32} {tl1a_echoFrom : Nat → Int32} {tl1a_echoTo : Nat → Int32} {tl1a_homes : Nat → Int32} {tl1a_talls : Nat → Int32} {tl1a_known : Nat → Int32} {tv0f_deeds : Int32} {tv0a_kinds : Nat → Int32} {tv0a_firsts : Nat → Int32} {tv0a_seconds : Nat → Int32} {tv1f_deeds : Int32} {tv1a_kinds : Nat → Int32} {tv1a_firsts : Nat → Int32} {tv1a_seconds : Nat → Int32} {ts0f_facts : Int32} {ts0a_heard : Nat → Int32} {ts0a_huts : Nat → Int32} {ts0a_minutes : Nat → Int32} {ts1f_facts : Int32} {ts1a_heard : Nat → Int32} {ts1a_huts : Nat → Int32} {ts1a_minutes : Nat → Int32} {tc0f_voices : Int32} {tc0f_step : Int32} {tc0a_parts : Nat → Int32} {tc0a_heights : Nat → Int32} {tc1f_voices : Int32} {tc1f_step : Int32} {tc1a_parts : Nat → Int32} {tc1a_heights : Nat → Int32} {m_images : Nat → Option Nat} {rlf_huts : Int32} {rlf_singers : Int32} {rlf_villages : Int32} {rlf_dams : Int32} {rlf_echoes : Int32} {rlf_deep : Int32} {rlf_slide : Int32} {rla_heights : Nat → Int32} {rla_ladders : Nat → Int32} {rla_minutes : Nat → Int32} {rla_echoFrom : Nat → Int32} {rla_echoTo : Nat → Int32} {rla_homes : Nat → Int32} {rla_talls : Nat → Int32} {rla_known : Nat → Int32} {rvf_deeds : Int32} {rva_kinds : Nat → Int32} {rva_firsts : Nat → Int32} {rva_seconds : Nat → Int32} {rsf_facts : Int32} {rsa_heard : Nat → Int32} {rsa_huts : Nat → Int32} {rsa_minutes : Nat → Int32} {rcf_voices : Int32} {rcf_step : Int32} {rca_parts : Nat → Int32} {rca_heights : Nat → Int32} {rf_fault : Int32} {rf_faultPlace : Int32} {ra_numbers : Nat → Int32} {ra_tape : Nat → Int32} {rf_length : Int32} {rf_behind : Int32} {rf_kind : Int32} {rf_first : Int32} {rf_value : Int32} {rf_hutsToldOf : Int32} {rf_singersToldOf : Int32} {nf_minute : Int32} {nf_avalanches : Int32} {nf_begun : Int32} {nf_climbed : Int32} {nf_seed : Int32} {na_huts : Nat → Int32} {na_known : Nat → Int32} {na_levels : Nat → Int32} {na_snow : Nat → Int32} {na_open : Nat → Int32} {pa_heard : Nat → Int32} {pa_walked : Nat → Int32} {pa_total : Nat → Int32} {pa_longest : Nat → Int32} {pa_next : Nat → Int32} {pa_cover : Nat → Int32} {pa_now : Nat → Int32} {pa_then : Nat → Int32} {ko_stands : Option Nat} {ka_gaps : Nat → Int32} {ka_behind : Nat → Int32} {ba_less : Nat → Int32} {ba_full : Nat → Int32} {x1 : Int32} (hr : ¬ x1 < 0 ∧ x1 < 3) (hm : m_images (Int32.toNatClampNeg x1) = none) (hT : tG ta_tape tf_length tf_fault tf_place ta_counts tl0f_huts tl0f_singers tl0f_villages tl0f_dams tl0f_echoes tl0f_deep tl0f_slide tl0a_heights tl0a_ladders tl0a_minutes tl0a_echoFrom tl0a_echoTo tl0a_homes tl0a_talls tl0a_known tl1f_huts tl1f_singers tl1f_villages tl1f_dams tl1f_echoes tl1f_deep tl1f_slide tl1a_heights tl1a_ladders tl1a_minutes tl1a_echoFrom tl1a_echoTo tl1a_homes tl1a_talls tl1a_known tv0f_deeds tv0a_kinds tv0a_firsts tv0a_seconds tv1f_deeds tv1a_kinds tv1a_firsts tv1a_seconds ts0f_facts ts0a_heard ts0a_huts ts0a_minutes ts1f_facts ts1a_heard ts1a_huts ts1a_minutes tc0f_voices tc0f_step tc0a_parts tc0a_heights tc1f_voices tc1f_step tc1a_parts tc1a_heights) : Met l yX10_image (Cond.code yX10_image cX10_image 2 (some .boolean) :: zb) (rmI 47 1261) (va_Pc [.ref qx, .int x1] (fun U => (U.heap.size = h ∧ qx + 93 ≤ h) ∧ wxW E qx ta_tape tf_length tf_fault tf_place ta_counts tl0f_huts tl0f_singers tl0f_villages tl0f_dams tl0f_echoes tl0f_deep tl0f_slide tl0a_heights tl0a_ladders tl0a_minutes tl0a_echoFrom tl0a_echoTo tl0a_homes tl0a_talls tl0a_known tl1f_huts tl1f_singers tl1f_villages tl1f_dams tl1f_echoes tl1f_deep tl1f_slide tl1a_heights tl1a_ladders tl1a_minutes tl1a_echoFrom tl1a_echoTo tl1a_homes tl1a_talls tl1a_known tv0f_deeds tv0a_kinds tv0a_firsts tv0a_seconds tv1f_deeds tv1a_kinds tv1a_firsts tv1a_seconds ts0f_facts ts0a_heard ts0a_huts ts0a_minutes ts1f_facts ts1a_heard ts1a_huts ts1a_minutes tc0f_voices tc0f_step tc0a_parts tc0a_heights tc1f_voices tc1f_step tc1a_parts tc1a_heights m_images rlf_huts rlf_singers rlf_villages rlf_dams rlf_echoes rlf_deep rlf_slide rla_heights rla_ladders rla_minutes rla_echoFrom rla_echoTo rla_homes rla_talls rla_known rvf_deeds rva_kinds rva_firsts rva_seconds rsf_facts rsa_heard rsa_huts rsa_minutes rcf_voices rcf_step rca_parts rca_heights rf_fault rf_faultPlace ra_numbers ra_tape rf_length rf_behind rf_kind rf_first rf_value rf_hutsToldOf rf_singersToldOf nf_minute nf_avalanches nf_begun nf_climbed nf_seed na_huts na_known na_levels na_snow na_open pa_heard pa_walked pa_total pa_longest pa_next pa_cover pa_now pa_then ko_stands ka_gaps ka_behind ba_less ba_full U.heap ∧ zK E U ∧ zO U)) (zQi (S := Unit) (fun r _ => r = 1) (fun _ H => ∃ na_tape nf_length nf_fault nf_place na_counts nl0f_huts nl0f_singers nl0f_villages nl0f_dams nl0f_echoes nl0f_deep nl0f_slide nl0a_heights nl0a_ladders nl0a_minutes nl0a_echoFrom nl0a_echoTo nl0a_homes nl0a_talls nl0a_known nl1f_huts nl1f_singers nl1f_villages nl1f_dams nl1f_echoes nl1f_deep nl1f_slide nl1a_heights nl1a_ladders nl1a_minutes nl1a_echoFrom nl1a_echoTo nl1a_homes nl1a_talls nl1a_known nv0f_deeds nv0a_kinds nv0a_firsts nv0a_seconds nv1f_deeds nv1a_kinds nv1a_firsts nv1a_seconds ns0f_facts ns0a_heard ns0a_huts ns0a_minutes ns1f_facts ns1a_heard ns1a_huts ns1a_minutes nc0f_voices nc0f_step nc0a_parts nc0a_heights nc1f_voices nc1f_step nc1a_parts nc1a_heights, tG na_tape nf_length nf_fault nf_place na_counts nl0f_huts nl0f_singers nl0f_villages nl0f_dams nl0f_echoes nl0f_deep nl0f_slide nl0a_heights nl0a_ladders nl0a_minutes nl0a_echoFrom nl0a_echoTo nl0a_homes nl0a_talls nl0a_known nl1f_huts nl1f_singers nl1f_villages nl1f_dams nl1f_echoes nl1f_deep nl1f_slide nl1a_heights nl1a_ladders nl1a_minutes nl1a_echoFrom nl1a_echoTo nl1a_homes nl1a_talls nl1a_known nv0f_deeds nv0a_kinds nv0a_firsts nv0a_seconds nv1f_deeds nv1a_kinds nv1a_firsts nv1a_seconds ns0f_facts ns0a_heard ns0a_huts ns0a_minutes ns1f_facts ns1a_heard ns1a_huts ns1a_minutes nc0f_voices nc0f_step nc0a_parts nc0a_heights nc1f_voices nc1f_step nc1a_parts nc1a_heights ∧ tCP (tmk na_tape nf_length nf_fault nf_place na_counts nl0f_huts nl0f_singers nl0f_villages nl0f_dams nl0f_echoes nl0f_deep nl0f_slide nl0a_heights nl0a_ladders nl0a_minutes nl0a_echoFrom nl0a_echoTo nl0a_homes nl0a_talls nl0a_known nl1f_huts nl1f_singers nl1f_villages nl1f_dams nl1f_echoes nl1f_deep nl1f_slide nl1a_heights nl1a_ladders nl1a_minutes nl1a_echoFrom nl1a_echoTo nl1a_homes nl1a_talls nl1a_known nv0f_deeds nv0a_kinds nv0a_firsts nv0a_seconds nv1f_deeds nv1a_kinds nv1a_firsts nv1a_seconds ns0f_facts ns0a_heard ns0a_huts ns0a_minutes ns1f_facts ns1a_heard ns1a_huts ns1a_minutes nc0f_voices nc0f_step nc0a_parts nc0a_heights nc1f_voices nc1f_step nc1a_parts nc1a_heights) (tmk ta_tape tf_length tf_fault tf_place ta_counts tl0f_huts tl0f_singers tl0f_villages tl0f_dams tl0f_echoes tl0f_deep tl0f_slide tl0a_heights tl0a_ladders tl0a_minutes tl0a_echoFrom tl0a_echoTo tl0a_homes tl0a_talls tl0a_known tl1f_huts tl1f_singers tl1f_villages tl1f_dams tl1f_echoes tl1f_deep tl1f_slide tl1a_heights tl1a_ladders tl1a_minutes tl1a_echoFrom tl1a_echoTo tl1a_homes tl1a_talls tl1a_known tv0f_deeds tv0a_kinds tv0a_firsts tv0a_seconds tv1f_deeds tv1a_kinds tv1a_firsts tv1a_seconds ts0f_facts ts0a_heard ts0a_huts ts0a_minutes ts1f_facts ts1a_heard ts1a_huts ts1a_minutes tc0f_voices tc0f_step tc0a_parts tc0a_heights tc1f_voices tc1f_step tc1a_parts tc1a_heights) ∧ wxiW E qx h ta_tape tf_length tf_fault tf_place ta_counts tl0f_huts tl0f_singers tl0f_villages tl0f_dams tl0f_echoes tl0f_deep tl0f_slide tl0a_heights tl0a_ladders tl0a_minutes tl0a_echoFrom tl0a_echoTo tl0a_homes tl0a_talls tl0a_known tl1f_huts tl1f_singers tl1f_villages tl1f_dams tl1f_echoes tl1f_deep tl1f_slide tl1a_heights tl1a_ladders tl1a_minutes tl1a_echoFrom tl1a_echoTo tl1a_homes tl1a_talls tl1a_known tv0f_deeds tv0a_kinds tv0a_firsts tv0a_seconds tv1f_deeds tv1a_kinds tv1a_firsts tv1a_seconds ts0f_facts ts0a_heard ts0a_huts ts0a_minutes ts1f_facts ts1a_heard ts1a_huts ts1a_minutes tc0f_voices tc0f_step tc0a_parts tc0a_heights tc1f_voices tc1f_step tc1a_parts tc1a_heights (va_up m_images (Int32.toNatClampNeg x1) (some h)) rlf_huts rlf_singers rlf_villages rlf_dams rlf_echoes rlf_deep rlf_slide rla_heights rla_ladders rla_minutes rla_echoFrom rla_echoTo rla_homes rla_talls rla_known rvf_deeds rva_kinds rva_firsts rva_seconds rsf_facts rsa_heard rsa_huts rsa_minutes rcf_voices rcf_step rca_parts rca_heights rf_fault rf_faultPlace ra_numbers ra_tape rf_length rf_behind rf_kind rf_first rf_value rf_hutsToldOf rf_singersToldOf nf_minute nf_avalanches nf_begun nf_climbed nf_seed na_huts na_known na_levels na_snow na_open pa_heard pa_walked pa_total pa_longest pa_next pa_cover pa_now pa_then ko_stands ka_gaps ka_behind ba_less ba_full na_tape nf_length nf_fault nf_place na_counts nl0f_huts nl0f_singers nl0f_villages nl0f_dams nl0f_echoes nl0f_deep nl0f_slide nl0a_heights nl0a_ladders nl0a_minutes nl0a_echoFrom nl0a_echoTo nl0a_homes nl0a_talls nl0a_known nl1f_huts nl1f_singers nl1f_villages nl1f_dams nl1f_echoes nl1f_deep nl1f_slide nl1a_heights nl1a_ladders nl1a_minutes nl1a_echoFrom nl1a_echoTo nl1a_homes nl1a_talls nl1a_known nv0f_deeds nv0a_kinds nv0a_firsts nv0a_seconds nv1f_deeds nv1a_kinds nv1a_firsts nv1a_seconds ns0f_facts ns0a_heard ns0a_huts ns0a_minutes ns1f_facts ns1a_heard ns1a_huts ns1a_minutes nc0f_voices nc0f_step nc0a_parts nc0a_heights nc1f_voices nc1f_step nc1a_parts nc1a_heights H) (zImA qx h)) 47 1261 (zImA qx h) := by
  refine Met.ofW (cc := cX10_image) (maxL := 2) (ret := (some .boolean)) (by decide) rfl ?_
  intro p e s m args below meth c s₁ B hml hv
  obtain ⟨rfl, ⟨hsz, hqh⟩, hMx, hK, hO⟩ := hv
  have zc := zc_of B hml
  have hx := zc.1
  have hb := zc.2.1
  have hl := lv_entry ([.ref qx, .int x1]) (n := 2) (Nat.le_of_ble_eq_true rfl)
  rw [lg_entry_eq]
  generalize (lg_sl ([.ref qx, .int x1]) ++ List.replicate (2 - (lg_sl ([.ref qx, .int x1])).length) Slot.unset).toArray = ls at hl ⊢
  have hl : lv_has ls 2 [(0, .ref qx), (1, .int x1)] := hl
  have hS : va_S (zImA qx h) s.heap s.heap [] := va_S.rf
  have hin : vp_in x1 3 := iv_in (iv_lta (l := 0) (h := 2) (r_lt hr.2) (iv_leb (l := 0) (h := 2147483647) (r_nlt hr.1) (iv_lit (x := 0) (l := 0) (h := 0) (by decide)) (iv_top x1) (by decide)) (iv_lit (x := 3) (l := 3) (h := 3) (by decide)) (by decide)) (by decide)
  refine lv_iload_n hx hb dX10_image_0 rfl (lv_at hl 1 rfl) ?_
  refine lv_if_lt (tgt := 9) hx hb dX10_image_1 (by decide) (fun hc => absurd hc hr.1) (fun hc => ?_)
  refine lv_iload_n hx hb dX10_image_4 rfl (lv_at hl 1 rfl) ?_
  refine lv_iconst (v := (3 : Int32)) hx hb dX10_image_5 (by decide) ?_
  refine lv_icmp_lt (tgt := 11) hx hb dX10_image_6 (by decide) (fun hd => ?_) (fun hd => absurd hr.2 hd)
  refine lv_aload_n hx hb dX10_image_11 rfl (lv_at hl 0 rfl) ?_
  refine va_get (D := E.1) (ci := 10) (v := .ref (qx + 48)) (C := RX10) (T := TX10) (N := 7) hx hb zc.2.2.2.2.1 uw10 zc.2.2.2.1 hK.1 hMx 0 rfl rfl 1 (by decide) (zc.2.2.2.2.1 _ kf_10_16) (fun _ h9 => h9) rfl dX10_image_12 ?_
  refine lv_iload_n hx hb dX10_image_15 rfl (lv_at hl 1 rfl) ?_
  refine va_aldq hx hb hK.1 hMx 48 8 rfl rfl hin dX10_image_16 ?_
  rw [hm]
  refine W.eq (g2 := F0 m 17 ls (.null :: [])) rfl ?_
  refine lv_ifnonnullN hx hb dX10_image_17 ?_
  refine lv_aload_n hx hb dX10_image_20 rfl (lv_at hl 0 rfl) ?_
  refine va_get (D := E.1) (ci := 10) (v := .ref (qx + 48)) (C := RX10) (T := TX10) (N := 7) hx hb zc.2.2.2.2.1 uw10 zc.2.2.2.1 hK.1 hMx 0 rfl rfl 1 (by decide) (zc.2.2.2.2.1 _ kf_10_16) (fun _ h9 => h9) rfl dX10_image_21 ?_
  refine lv_iload_n hx hb dX10_image_24 rfl (lv_at hl 1 rfl) ?_
  refine zNew (ws := []) (C := RX9) (T := TX9) (N := 9) (ci := 9) zc hK (fun k q h => by simp at h) hS hsz uw9 tyX9 tyX9_ok kcl_10_7 kins_9 kinit_9 rfl [.null, .int 0, .int 0, .int 0, .null, .null, .null, .null, .null] (fun j hj => match j, hj with | 0, _ => rfl | 1, _ => rfl | 2, _ => rfl | 3, _ => rfl | 4, _ => rfl | 5, _ => rfl | 6, _ => rfl | 7, _ => rfl | 8, _ => rfl | j + 9, hj => absurd hj (by omega)) (Nat.le_of_ble_eq_true rfl) (Nat.le_of_ble_eq_true rfl) dX10_image_25 (fun H1 hN o1 hz1 hS => ?_)
  have hMx := wx_kp hMx (fun z _ _ h3 => o1 z (Nat.lt_of_lt_of_le h3 hqh))
  have g9 : va_P E.1 zcl [(h, .inr (9, [.null, .int 0, .int 0, .int 0, .null, .null, .null, .null, .null]))] H1 := hN
  refine W.cs (cells' := 1) (slots' := 9) rfl rfl ?_
  refine lv_dup hx hb dX10_image_28 rfl ?_
  refine zIc zc ky_X9_init kz_X9_init rfl km_10_9 (ci_X9_init l) (zIpre hK hO g9 hz1) hS (fun q (hq : h ≤ q) => Or.inr hq) hl.1 (Nat.le_of_ble_eq_true rfl) ⟨rfl, rfl⟩ ⟨(Nat.le_of_ble_eq_true rfl), (Nat.le_of_ble_eq_true rfl)⟩ ⟨(Nat.le_of_ble_eq_true rfl), (Nat.le_of_ble_eq_true rfl)⟩ dX10_image_29 (fun _ H2 locs _ hJ hk hS => ?_)
  have hMx := wx_kp hMx (fun z h1 _ h3 => hk z h1 (fun (hq : h ≤ z) => absurd (Nat.lt_of_lt_of_le h3 hqh) (Nat.not_lt.mpr hq)))
  have g9 := hJ.1
  refine W.cs (cells' := 47) (slots' := 1261) rfl rfl ?_
  refine zAast (t := 8) (r := (RX9, TX9, 9)) zc hK hMx ((wxD E qx ta_tape tf_length tf_fault tf_place ta_counts tl0f_huts tl0f_singers tl0f_villages tl0f_dams tl0f_echoes tl0f_deep tl0f_slide tl0a_heights tl0a_ladders tl0a_minutes tl0a_echoFrom tl0a_echoTo tl0a_homes tl0a_talls tl0a_known tl1f_huts tl1f_singers tl1f_villages tl1f_dams tl1f_echoes tl1f_deep tl1f_slide tl1a_heights tl1a_ladders tl1a_minutes tl1a_echoFrom tl1a_echoTo tl1a_homes tl1a_talls tl1a_known tv0f_deeds tv0a_kinds tv0a_firsts tv0a_seconds tv1f_deeds tv1a_kinds tv1a_firsts tv1a_seconds ts0f_facts ts0a_heard ts0a_huts ts0a_minutes ts1f_facts ts1a_heard ts1a_huts ts1a_minutes tc0f_voices tc0f_step tc0a_parts tc0a_heights tc1f_voices tc1f_step tc1a_parts tc1a_heights m_images rlf_huts rlf_singers rlf_villages rlf_dams rlf_echoes rlf_deep rlf_slide rla_heights rla_ladders rla_minutes rla_echoFrom rla_echoTo rla_homes rla_talls rla_known rvf_deeds rva_kinds rva_firsts rva_seconds rsf_facts rsa_heard rsa_huts rsa_minutes rcf_voices rcf_step rca_parts rca_heights rf_fault rf_faultPlace ra_numbers ra_tape rf_length rf_behind rf_kind rf_first rf_value rf_hutsToldOf rf_singersToldOf nf_minute nf_avalanches nf_begun nf_climbed nf_seed na_huts na_known na_levels na_snow na_open pa_heard pa_walked pa_total pa_longest pa_next pa_cover pa_now pa_then ko_stands ka_gaps ka_behind ba_less ba_full).weaken (fun _ _ _ h => Or.inl h)) hS 48 0 rfl rfl g9 rfl rfl hin dX10_image_32 (fun H3 locs hN oq hz3 hS => ?_)
  have hMx : wxW E qx ta_tape tf_length tf_fault tf_place ta_counts tl0f_huts tl0f_singers tl0f_villages tl0f_dams tl0f_echoes tl0f_deep tl0f_slide tl0a_heights tl0a_ladders tl0a_minutes tl0a_echoFrom tl0a_echoTo tl0a_homes tl0a_talls tl0a_known tl1f_huts tl1f_singers tl1f_villages tl1f_dams tl1f_echoes tl1f_deep tl1f_slide tl1a_heights tl1a_ladders tl1a_minutes tl1a_echoFrom tl1a_echoTo tl1a_homes tl1a_talls tl1a_known tv0f_deeds tv0a_kinds tv0a_firsts tv0a_seconds tv1f_deeds tv1a_kinds tv1a_firsts tv1a_seconds ts0f_facts ts0a_heard ts0a_huts ts0a_minutes ts1f_facts ts1a_heard ts1a_huts ts1a_minutes tc0f_voices tc0f_step tc0a_parts tc0a_heights tc1f_voices tc1f_step tc1a_parts tc1a_heights (va_up m_images (Int32.toNatClampNeg x1) (some h)) rlf_huts rlf_singers rlf_villages rlf_dams rlf_echoes rlf_deep rlf_slide rla_heights rla_ladders rla_minutes rla_echoFrom rla_echoTo rla_homes rla_talls rla_known rvf_deeds rva_kinds rva_firsts rva_seconds rsf_facts rsa_heard rsa_huts rsa_minutes rcf_voices rcf_step rca_parts rca_heights rf_fault rf_faultPlace ra_numbers ra_tape rf_length rf_behind rf_kind rf_first rf_value rf_hutsToldOf rf_singersToldOf nf_minute nf_avalanches nf_begun nf_climbed nf_seed na_huts na_known na_levels na_snow na_open pa_heard pa_walked pa_total pa_longest pa_next pa_cover pa_now pa_then ko_stands ka_gaps ka_behind ba_less ba_full H3 := hN
  have g9 := zkp g9 zrg_X9_init (fun q _ h2 _ => oq q (by omega))
  exact im_tail3 zc hK (xi_of hMx (wt_0 g9) hqh) hT tG_0 hin (va_up_self _ _ _) hS (fun q hq => by unfold wttA at hq; unfold zImA zR; omega) hl

set_option maxRecDepth 40000 in
set_option maxHeartbeats 4000000 in
theorem c3_again_yes (l : Launch) {E : zE} {qx qi : Nat} {ta_tape : Nat → Int32} {tf_length : Int32} {tf_fault : Int32} {tf_place : Int32} {ta_counts : Nat → Int32} {tl0f_huts : Int32} {tl0f_singers : Int32} {tl0f_villages : Int32} {tl0f_dams : Int32} {tl0f_echoes : Int32} {tl0f_deep : Int32} {tl0f_slide : Int32} {tl0a_heights : Nat → Int32} {tl0a_ladders : Nat → Int32} {tl0a_minutes : Nat → Int32} {tl0a_echoFrom : Nat → Int32} {tl0a_echoTo : Nat → Int32} {tl0a_homes : Nat → Int32} {tl0a_talls : Nat → Int32} {tl0a_known : Nat → Int32} {tl1f_huts : Int32} {tl1f_singers : Int32} {tl1f_villages : Int32} {tl1f_dams : Int32} {tl1f_echoes : Int32} {tl1f_deep : Int32} {tl1f_slide : Int32} {tl1a_heights : Nat → Int32} {tl1a_ladders : Nat → Int32} {tl1a_minutes : Nat → Int32} {tl1a_echoFrom : Nat → Int32} {tl1a_echoTo : Nat → Int32} {tl1a_homes : Nat → Int32} {tl1a_talls : Nat → Int32} {tl1a_known : Nat → Int32} {tv0f_deeds : Int32} {tv0a_kinds : Nat → Int32} {tv0a_firsts : Nat → Int32} {tv0a_seconds : Nat → Int32} {tv1f_deeds : Int32} {tv1a_kinds : Nat → Int32} {tv1a_firsts : Nat → Int32} {tv1a_seconds : Nat → Int32} {ts0f_facts : Int32} {ts0a_heard : Nat → Int32} {ts0a_huts : Nat → Int32} {ts0a_minutes : Nat → Int32} {ts1f_facts : Int32} {ts1a_heard : Nat → Int32} {ts1a_huts : Nat → Int32} {ts1a_minutes : Nat → Int32} {tc0f_voices : Int32} {tc0f_step : Int32} {tc0a_parts : Nat → Int32} {tc0a_heights : Nat → Int32} {tc1f_voices : Int32} {tc1f_step : Int32} {tc1a_parts : Nat → Int32} {tc1a_heights : Nat → Int32} {m_images : Nat → Option Nat} {rlf_huts : Int32} {rlf_singers : Int32} {rlf_villages : Int32} {rlf_dams : Int32} {rlf_echoes : Int32} {rlf_deep : Int32} {rlf_slide : Int32} {rla_heights : Nat → Int32} {rla_ladders : Nat → Int32} {rla_minutes : Nat → Int32} {rla_echoFrom : Nat → Int32} {rla_echoTo : Nat → Int32} {rla_homes : Nat → Int32} {rla_talls : Nat → Int32} {rla_known : Nat → Int32} {rvf_deeds : Int32} {rva_kinds : Nat → Int32} {rva_firsts : Nat → Int32} {rva_seconds : Nat → Int32} {rsf_facts : Int32} {rsa_heard : Nat → Int32} {rsa_huts : Nat → Int32} {rsa_minutes : Nat → Int32} {rcf_voices : Int32} {rcf_step : Int32} {rca_parts : Nat → Int32} {rca_heights : Nat → Int32} {rf_fault : Int32} {rf_faultPlace : Int32} {ra_numbers : Nat → Int32} {ra_tape : Nat → Int32} {rf_length : Int32} {rf_behind : Int32} {rf_kind : Int32} {rf_first : Int32} {rf_value : Int32} {rf_hutsToldOf : Int32} {rf_singersToldOf : Int32} {nf_minute : Int32} {nf_avalanches : Int32} {nf_begun : Int32} {nf_climbed : Int32} {nf_seed : Int32} {na_huts : Nat → Int32} {na_known : Nat → Int32} {na_levels : Nat → Int32} {na_snow : Nat → Int32} {na_open : Nat → Int32} {pa_heard : Nat → Int32} {pa_walked : Nat → Int32} {pa_total : Nat → Int32} {pa_longest : Nat → Int32} {pa_next : Nat → Int32} {pa_cover : Nat → Int32} {pa_now : Nat → Int32} {pa_then : Nat → Int32} {ko_stands : Option Nat} {ka_gaps : Nat → Int32} {ka_behind : Nat → Int32} {ba_less : Nat → Int32} {ba_full : Nat → Int32} {ia_tape : Nat → Int32} {if_length : Int32} {if_fault : Int32} {if_place : Int32} {ia_counts : Nat → Int32} {il0f_huts : Int32} {il0f_singers : Int32} {il0f_villages : Int32} {il0f_dams : Int32} {il0f_echoes : Int32} {il0f_deep : Int32} {il0f_slide : Int32} {il0a_heights : Nat → Int32} {il0a_ladders : Nat → Int32} {il0a_minutes : Nat → Int32} {il0a_echoFrom : Nat → Int32} {il0a_echoTo : Nat → Int32} {il0a_homes : Nat → Int32} {il0a_talls : Nat → Int32} {il0a_known : Nat → Int32} {il1f_huts : Int32} {il1f_singers : Int32} {il1f_villages : Int32} {il1f_dams : Int32} {il1f_echoes : Int32} {il1f_deep : Int32} {il1f_slide : Int32} {il1a_heights : Nat → Int32} {il1a_ladders : Nat → Int32} {il1a_minutes : Nat → Int32} {il1a_echoFrom : Nat → Int32} {il1a_echoTo : Nat → Int32} {il1a_homes : Nat → Int32} {il1a_talls : Nat → Int32} {il1a_known : Nat → Int32} {iv0f_deeds : Int32} {iv0a_kinds : Nat → Int32} {iv0a_firsts : Nat → Int32} {iv0a_seconds : Nat → Int32} {iv1f_deeds : Int32} {iv1a_kinds : Nat → Int32} {iv1a_firsts : Nat → Int32} {iv1a_seconds : Nat → Int32} {is0f_facts : Int32} {is0a_heard : Nat → Int32} {is0a_huts : Nat → Int32} {is0a_minutes : Nat → Int32} {is1f_facts : Int32} {is1a_heard : Nat → Int32} {is1a_huts : Nat → Int32} {is1a_minutes : Nat → Int32} {ic0f_voices : Int32} {ic0f_step : Int32} {ic0a_parts : Nat → Int32} {ic0a_heights : Nat → Int32} {ic1f_voices : Int32} {ic1f_step : Int32} {ic1a_parts : Nat → Int32} {ic1a_heights : Nat → Int32} {x1 : Int32} (hr : ¬ x1 < 0 ∧ x1 < 3) (hm : m_images (Int32.toNatClampNeg x1) = some qi) (hT : tG ta_tape tf_length tf_fault tf_place ta_counts tl0f_huts tl0f_singers tl0f_villages tl0f_dams tl0f_echoes tl0f_deep tl0f_slide tl0a_heights tl0a_ladders tl0a_minutes tl0a_echoFrom tl0a_echoTo tl0a_homes tl0a_talls tl0a_known tl1f_huts tl1f_singers tl1f_villages tl1f_dams tl1f_echoes tl1f_deep tl1f_slide tl1a_heights tl1a_ladders tl1a_minutes tl1a_echoFrom tl1a_echoTo tl1a_homes tl1a_talls tl1a_known tv0f_deeds tv0a_kinds tv0a_firsts tv0a_seconds tv1f_deeds tv1a_kinds tv1a_firsts tv1a_seconds ts0f_facts ts0a_heard ts0a_huts ts0a_minutes ts1f_facts ts1a_heard ts1a_huts ts1a_minutes tc0f_voices tc0f_step tc0a_parts tc0a_heights tc1f_voices tc1f_step tc1a_parts tc1a_heights) (hI : tG ia_tape if_length if_fault if_place ia_counts il0f_huts il0f_singers il0f_villages il0f_dams il0f_echoes il0f_deep il0f_slide il0a_heights il0a_ladders il0a_minutes il0a_echoFrom il0a_echoTo il0a_homes il0a_talls il0a_known il1f_huts il1f_singers il1f_villages il1f_dams il1f_echoes il1f_deep il1f_slide il1a_heights il1a_ladders il1a_minutes il1a_echoFrom il1a_echoTo il1a_homes il1a_talls il1a_known iv0f_deeds iv0a_kinds iv0a_firsts iv0a_seconds iv1f_deeds iv1a_kinds iv1a_firsts iv1a_seconds is0f_facts is0a_heard is0a_huts is0a_minutes is1f_facts is1a_heard is1a_huts is1a_minutes ic0f_voices ic0f_step ic0a_parts ic0a_heights ic1f_voices ic1f_step ic1a_parts ic1a_heights) : Met l yX10_again (Cond.code yX10_again cX10_again 2 (some .boolean) :: zb) (rmI 0 0) (va_Pc [.ref qx, .int x1] (fun U => wxiW E qx qi ta_tape tf_length tf_fault tf_place ta_counts tl0f_huts tl0f_singers tl0f_villages tl0f_dams tl0f_echoes tl0f_deep tl0f_slide tl0a_heights tl0a_ladders tl0a_minutes tl0a_echoFrom tl0a_echoTo tl0a_homes tl0a_talls tl0a_known tl1f_huts tl1f_singers tl1f_villages tl1f_dams tl1f_echoes tl1f_deep tl1f_slide tl1a_heights tl1a_ladders tl1a_minutes tl1a_echoFrom tl1a_echoTo tl1a_homes tl1a_talls tl1a_known tv0f_deeds tv0a_kinds tv0a_firsts tv0a_seconds tv1f_deeds tv1a_kinds tv1a_firsts tv1a_seconds ts0f_facts ts0a_heard ts0a_huts ts0a_minutes ts1f_facts ts1a_heard ts1a_huts ts1a_minutes tc0f_voices tc0f_step tc0a_parts tc0a_heights tc1f_voices tc1f_step tc1a_parts tc1a_heights m_images rlf_huts rlf_singers rlf_villages rlf_dams rlf_echoes rlf_deep rlf_slide rla_heights rla_ladders rla_minutes rla_echoFrom rla_echoTo rla_homes rla_talls rla_known rvf_deeds rva_kinds rva_firsts rva_seconds rsf_facts rsa_heard rsa_huts rsa_minutes rcf_voices rcf_step rca_parts rca_heights rf_fault rf_faultPlace ra_numbers ra_tape rf_length rf_behind rf_kind rf_first rf_value rf_hutsToldOf rf_singersToldOf nf_minute nf_avalanches nf_begun nf_climbed nf_seed na_huts na_known na_levels na_snow na_open pa_heard pa_walked pa_total pa_longest pa_next pa_cover pa_now pa_then ko_stands ka_gaps ka_behind ba_less ba_full ia_tape if_length if_fault if_place ia_counts il0f_huts il0f_singers il0f_villages il0f_dams il0f_echoes il0f_deep il0f_slide il0a_heights il0a_ladders il0a_minutes il0a_echoFrom il0a_echoTo il0a_homes il0a_talls il0a_known il1f_huts il1f_singers il1f_villages il1f_dams il1f_echoes il1f_deep il1f_slide il1a_heights il1a_ladders il1a_minutes il1a_echoFrom il1a_echoTo il1a_homes il1a_talls il1a_known iv0f_deeds iv0a_kinds iv0a_firsts iv0a_seconds iv1f_deeds iv1a_kinds iv1a_firsts iv1a_seconds is0f_facts is0a_heard is0a_huts is0a_minutes is1f_facts is1a_heard is1a_huts is1a_minutes ic0f_voices ic0f_step ic0a_parts ic0a_heights ic1f_voices ic1f_step ic1a_parts ic1a_heights U.heap ∧ zK E U)) (zQi (S := Unit) (fun r _ => r = 1) (fun _ H => ∃ na_tape nf_length nf_fault nf_place na_counts nl0f_huts nl0f_singers nl0f_villages nl0f_dams nl0f_echoes nl0f_deep nl0f_slide nl0a_heights nl0a_ladders nl0a_minutes nl0a_echoFrom nl0a_echoTo nl0a_homes nl0a_talls nl0a_known nl1f_huts nl1f_singers nl1f_villages nl1f_dams nl1f_echoes nl1f_deep nl1f_slide nl1a_heights nl1a_ladders nl1a_minutes nl1a_echoFrom nl1a_echoTo nl1a_homes nl1a_talls nl1a_known nv0f_deeds nv0a_kinds nv0a_firsts nv0a_seconds nv1f_deeds nv1a_kinds nv1a_firsts nv1a_seconds ns0f_facts ns0a_heard ns0a_huts ns0a_minutes ns1f_facts ns1a_heard ns1a_huts ns1a_minutes nc0f_voices nc0f_step nc0a_parts nc0a_heights nc1f_voices nc1f_step nc1a_parts nc1a_heights, tG na_tape nf_length nf_fault nf_place na_counts nl0f_huts nl0f_singers nl0f_villages nl0f_dams nl0f_echoes nl0f_deep nl0f_slide nl0a_heights nl0a_ladders nl0a_minutes nl0a_echoFrom nl0a_echoTo nl0a_homes nl0a_talls nl0a_known nl1f_huts nl1f_singers nl1f_villages nl1f_dams nl1f_echoes nl1f_deep nl1f_slide nl1a_heights nl1a_ladders nl1a_minutes nl1a_echoFrom nl1a_echoTo nl1a_homes nl1a_talls nl1a_known nv0f_deeds nv0a_kinds nv0a_firsts nv0a_seconds nv1f_deeds nv1a_kinds nv1a_firsts nv1a_seconds ns0f_facts ns0a_heard ns0a_huts ns0a_minutes ns1f_facts ns1a_heard ns1a_huts ns1a_minutes nc0f_voices nc0f_step nc0a_parts nc0a_heights nc1f_voices nc1f_step nc1a_parts nc1a_heights ∧ tCP (tmk na_tape nf_length nf_fault nf_place na_counts nl0f_huts nl0f_singers nl0f_villages nl0f_dams nl0f_echoes nl0f_deep nl0f_slide nl0a_heights nl0a_ladders nl0a_minutes nl0a_echoFrom nl0a_echoTo nl0a_homes nl0a_talls nl0a_known nl1f_huts nl1f_singers nl1f_villages nl1f_dams nl1f_echoes nl1f_deep nl1f_slide nl1a_heights nl1a_ladders nl1a_minutes nl1a_echoFrom nl1a_echoTo nl1a_homes nl1a_talls nl1a_known nv0f_deeds nv0a_kinds nv0a_firsts nv0a_seconds nv1f_deeds nv1a_kinds nv1a_firsts nv1a_seconds ns0f_facts ns0a_heard ns0a_huts ns0a_minutes ns1f_facts ns1a_heard ns1a_huts ns1a_minutes nc0f_voices nc0f_step nc0a_parts nc0a_heights nc1f_voices nc1f_step nc1a_parts nc1a_heights) (tmk ia_tape if_length if_fault if_place ia_counts il0f_huts il0f_singers il0f_villages il0f_dams il0f_echoes il0f_deep il0f_slide il0a_heights il0a_ladders il0a_minutes il0a_echoFrom il0a_echoTo il0a_homes il0a_talls il0a_known il1f_huts il1f_singers il1f_villages il1f_dams il1f_echoes il1f_deep il1f_slide il1a_heights il1a_ladders il1a_minutes il1a_echoFrom il1a_echoTo il1a_homes il1a_talls il1a_known iv0f_deeds iv0a_kinds iv0a_firsts iv0a_seconds iv1f_deeds iv1a_kinds iv1a_firsts iv1a_seconds is0f_facts is0a_heard is0a_huts is0a_minutes is1f_facts is1a_heard is1a_huts is1a_minutes ic0f_voices ic0f_step ic0a_parts ic0a_heights ic1f_voices ic1f_step ic1a_parts ic1a_heights) ∧ wxiW E qx qi na_tape nf_length nf_fault nf_place na_counts nl0f_huts nl0f_singers nl0f_villages nl0f_dams nl0f_echoes nl0f_deep nl0f_slide nl0a_heights nl0a_ladders nl0a_minutes nl0a_echoFrom nl0a_echoTo nl0a_homes nl0a_talls nl0a_known nl1f_huts nl1f_singers nl1f_villages nl1f_dams nl1f_echoes nl1f_deep nl1f_slide nl1a_heights nl1a_ladders nl1a_minutes nl1a_echoFrom nl1a_echoTo nl1a_homes nl1a_talls nl1a_known nv0f_deeds nv0a_kinds nv0a_firsts nv0a_seconds nv1f_deeds nv1a_kinds nv1a_firsts nv1a_seconds ns0f_facts ns0a_heard ns0a_huts ns0a_minutes ns1f_facts ns1a_heard ns1a_huts ns1a_minutes nc0f_voices nc0f_step nc0a_parts nc0a_heights nc1f_voices nc1f_step nc1a_parts nc1a_heights m_images rlf_huts rlf_singers rlf_villages rlf_dams rlf_echoes rlf_deep rlf_slide rla_heights rla_ladders rla_minutes rla_echoFrom rla_echoTo rla_homes rla_talls rla_known rvf_deeds rva_kinds rva_firsts rva_seconds rsf_facts rsa_heard rsa_huts rsa_minutes rcf_voices rcf_step rca_parts rca_heights rf_fault rf_faultPlace ra_numbers ra_tape rf_length rf_behind rf_kind rf_first rf_value rf_hutsToldOf rf_singersToldOf nf_minute nf_avalanches nf_begun nf_climbed nf_seed na_huts na_known na_levels na_snow na_open pa_heard pa_walked pa_total pa_longest pa_next pa_cover pa_now pa_then ko_stands ka_gaps ka_behind ba_less ba_full ia_tape if_length if_fault if_place ia_counts il0f_huts il0f_singers il0f_villages il0f_dams il0f_echoes il0f_deep il0f_slide il0a_heights il0a_ladders il0a_minutes il0a_echoFrom il0a_echoTo il0a_homes il0a_talls il0a_known il1f_huts il1f_singers il1f_villages il1f_dams il1f_echoes il1f_deep il1f_slide il1a_heights il1a_ladders il1a_minutes il1a_echoFrom il1a_echoTo il1a_homes il1a_talls il1a_known iv0f_deeds iv0a_kinds iv0a_firsts iv0a_seconds iv1f_deeds iv1a_kinds iv1a_firsts iv1a_seconds is0f_facts is0a_heard is0a_huts is0a_minutes is1f_facts is1a_heard is1a_huts is1a_minutes ic0f_voices ic0f_step ic0a_parts ic0a_heights ic1f_voices ic1f_step ic1a_parts ic1a_heights H) (wttA (qx + 1) qi)) 0 0 (wttA (qx + 1) qi) := by
  refine Met.ofW (cc := cX10_again) (maxL := 2) (ret := (some .boolean)) (by decide) rfl ?_
  intro p e s m args below meth c s₁ B hml hv
  obtain ⟨rfl, hM, hK⟩ := hv
  have zc := zc_of B hml
  have hx := zc.1
  have hb := zc.2.1
  have hl := lv_entry ([.ref qx, .int x1]) (n := 2) (Nat.le_of_ble_eq_true rfl)
  rw [lg_entry_eq]
  generalize (lg_sl ([.ref qx, .int x1]) ++ List.replicate (2 - (lg_sl ([.ref qx, .int x1])).length) Slot.unset).toArray = ls at hl ⊢
  have hl : lv_has ls 2 [(0, .ref qx), (1, .int x1)] := hl
  have hMx := xi_x hM
  have hS : va_S (wttA (qx + 1) qi) s.heap s.heap [] := va_S.rf
  have hsub : ∀ q, wttA (qx + 1) qi q → wttA (qx + 1) qi q := fun _ h => h
  have hin : vp_in x1 3 := iv_in (iv_lta (l := 0) (h := 2) (r_lt hr.2) (iv_leb (l := 0) (h := 2147483647) (r_nlt hr.1) (iv_lit (x := 0) (l := 0) (h := 0) (by decide)) (iv_top x1) (by decide)) (iv_lit (x := 3) (l := 3) (h := 3) (by decide)) (by decide)) (by decide)
  refine lv_iload_n hx hb dX10_again_0 rfl (lv_at hl 1 rfl) ?_
  refine lv_if_lt (tgt := 18) hx hb dX10_again_1 (by decide) (fun hc => absurd hc hr.1) (fun hc => ?_)
  refine lv_iload_n hx hb dX10_again_4 rfl (lv_at hl 1 rfl) ?_
  refine lv_iconst (v := (3 : Int32)) hx hb dX10_again_5 (by decide) ?_
  refine lv_icmp_ge (tgt := 18) hx hb dX10_again_6 (by decide) (fun hd => absurd hr.2 (Int32.not_lt.mpr hd)) (fun hd => ?_)
  refine lv_aload_n hx hb dX10_again_9 rfl (lv_at hl 0 rfl) ?_
  refine va_get (D := E.1) (ci := 10) (v := .ref (qx + 48)) (C := RX10) (T := TX10) (N := 7) hx hb zc.2.2.2.2.1 uw10 zc.2.2.2.1 hK.1 hMx 0 rfl rfl 1 (by decide) (zc.2.2.2.2.1 _ kf_10_16) (fun _ h9 => h9) rfl dX10_again_10 ?_
  refine lv_iload_n hx hb dX10_again_13 rfl (lv_at hl 1 rfl) ?_
  refine va_aldq hx hb hK.1 hMx 48 8 rfl rfl hin dX10_again_14 ?_
  rw [hm]
  refine W.eq (g2 := F0 m 15 ls (.ref qi :: [])) rfl ?_
  refine lv_ifnonnull (tgt := 20) hx hb dX10_again_15 (by decide) ?_
  refine lv_aload_n hx hb dX10_again_20 rfl (lv_at hl 0 rfl) ?_
  refine va_get (D := E.1) (ci := 10) (v := .ref (qx + 1)) (C := RX10) (T := TX10) (N := 7) hx hb zc.2.2.2.2.1 uw10 zc.2.2.2.1 hK.1 hMx 0 rfl rfl 0 (by decide) (zc.2.2.2.2.1 _ kf_10_10) (fun _ h9 => h9) rfl dX10_again_21 ?_
  refine lv_aload_n hx hb dX10_again_24 rfl (lv_at hl 0 rfl) ?_
  refine va_get (D := E.1) (ci := 10) (v := .ref (qx + 48)) (C := RX10) (T := TX10) (N := 7) hx hb zc.2.2.2.2.1 uw10 zc.2.2.2.1 hK.1 hMx 0 rfl rfl 1 (by decide) (zc.2.2.2.2.1 _ kf_10_16) (fun _ h9 => h9) rfl dX10_again_25 ?_
  refine lv_iload_n hx hb dX10_again_28 rfl (lv_at hl 1 rfl) ?_
  refine va_aldq hx hb hK.1 hMx 48 8 rfl rfl hin dX10_again_29 ?_
  rw [hm]
  refine W.eq (g2 := F0 m 30 ls (.ref qi :: .ref (qx + 1) :: [])) rfl ?_
  refine zVa_v [.ref qi] [] zc ky_X9_copyFrom kz_X9_copyFrom km_10_323 (c_wtt_X9_copyFrom_47 l (post := fun na_tape nf_length nf_fault nf_place na_counts nl0f_huts nl0f_singers nl0f_villages nl0f_dams nl0f_echoes nl0f_deep nl0f_slide nl0a_heights nl0a_ladders nl0a_minutes nl0a_echoFrom nl0a_echoTo nl0a_homes nl0a_talls nl0a_known nl1f_huts nl1f_singers nl1f_villages nl1f_dams nl1f_echoes nl1f_deep nl1f_slide nl1a_heights nl1a_ladders nl1a_minutes nl1a_echoFrom nl1a_echoTo nl1a_homes nl1a_talls nl1a_known nv0f_deeds nv0a_kinds nv0a_firsts nv0a_seconds nv1f_deeds nv1a_kinds nv1a_firsts nv1a_seconds ns0f_facts ns0a_heard ns0a_huts ns0a_minutes ns1f_facts ns1a_heard ns1a_huts ns1a_minutes nc0f_voices nc0f_step nc0a_parts nc0a_heights nc1f_voices nc1f_step nc1a_parts nc1a_heights => tG na_tape nf_length nf_fault nf_place na_counts nl0f_huts nl0f_singers nl0f_villages nl0f_dams nl0f_echoes nl0f_deep nl0f_slide nl0a_heights nl0a_ladders nl0a_minutes nl0a_echoFrom nl0a_echoTo nl0a_homes nl0a_talls nl0a_known nl1f_huts nl1f_singers nl1f_villages nl1f_dams nl1f_echoes nl1f_deep nl1f_slide nl1a_heights nl1a_ladders nl1a_minutes nl1a_echoFrom nl1a_echoTo nl1a_homes nl1a_talls nl1a_known nv0f_deeds nv0a_kinds nv0a_firsts nv0a_seconds nv1f_deeds nv1a_kinds nv1a_firsts nv1a_seconds ns0f_facts ns0a_heard ns0a_huts ns0a_minutes ns1f_facts ns1a_heard ns1a_huts ns1a_minutes nc0f_voices nc0f_step nc0a_parts nc0a_heights nc1f_voices nc1f_step nc1a_parts nc1a_heights ∧ tCP (tmk na_tape nf_length nf_fault nf_place na_counts nl0f_huts nl0f_singers nl0f_villages nl0f_dams nl0f_echoes nl0f_deep nl0f_slide nl0a_heights nl0a_ladders nl0a_minutes nl0a_echoFrom nl0a_echoTo nl0a_homes nl0a_talls nl0a_known nl1f_huts nl1f_singers nl1f_villages nl1f_dams nl1f_echoes nl1f_deep nl1f_slide nl1a_heights nl1a_ladders nl1a_minutes nl1a_echoFrom nl1a_echoTo nl1a_homes nl1a_talls nl1a_known nv0f_deeds nv0a_kinds nv0a_firsts nv0a_seconds nv1f_deeds nv1a_kinds nv1a_firsts nv1a_seconds ns0f_facts ns0a_heard ns0a_huts ns0a_minutes ns1f_facts ns1a_heard ns1a_huts ns1a_minutes nc0f_voices nc0f_step nc0a_parts nc0a_heights nc1f_voices nc1f_step nc1a_parts nc1a_heights) (tmk ia_tape if_length if_fault if_place ia_counts il0f_huts il0f_singers il0f_villages il0f_dams il0f_echoes il0f_deep il0f_slide il0a_heights il0a_ladders il0a_minutes il0a_echoFrom il0a_echoTo il0a_homes il0a_talls il0a_known il1f_huts il1f_singers il1f_villages il1f_dams il1f_echoes il1f_deep il1f_slide il1a_heights il1a_ladders il1a_minutes il1a_echoFrom il1a_echoTo il1a_homes il1a_talls il1a_known iv0f_deeds iv0a_kinds iv0a_firsts iv0a_seconds iv1f_deeds iv1a_kinds iv1a_firsts iv1a_seconds is0f_facts is0a_heard is0a_huts is0a_minutes is1f_facts is1a_heard is1a_huts is1a_minutes ic0f_voices ic0f_step ic0a_parts ic0a_heights ic1f_voices ic1f_step ic1a_parts ic1a_heights)) (tG_copy3 hT hI (fun _ _ _ _ _ _ _ _ _ _ _ _ _ _ _ _ _ _ _ _ _ _ _ _ _ _ _ _ _ _ _ _ _ _ _ _ _ _ _ _ _ _ _ _ _ _ _ _ _ _ _ _ _ _ _ _ _ _ _ h1 h2 => ⟨h1, h2⟩))) (wttPreV0 hK (pj_wxi_wtt_1_93 hM)) hS hsub rfl rfl hl.1 (Nat.le_of_ble_eq_true rfl) ⟨rfl, rfl⟩ ⟨(Nat.le_of_ble_eq_true rfl), (Nat.le_of_ble_eq_true rfl)⟩ ⟨Nat.le_refl _, Nat.le_refl _⟩ dX10_again_30 (fun u H4 locs hw hB hsz hk hS => ?_)
  have hM := jn_wxi_wtt_1_93 hM hB hk
  refine lv_iconst (v := (1 : Int32)) hx hb dX10_again_33 (by decide) ?_
  exact zret_zw () zc hS rfl rfl ⟨_, _, _, _, _, _, _, _, _, _, _, _, _, _, _, _, _, _, _, _, _, _, _, _, _, _, _, _, _, _, _, _, _, _, _, _, _, _, _, _, _, _, _, _, _, _, _, _, _, _, _, _, _, _, _, _, _, _, _, hw.1, hw.2, hM⟩ dX10_again_34
end
section
/-- bits of a number -/
def hb (s : Int32) (k : Nat) : Bool := s.toBitVec.getLsbD k
theorem sm_tab : ∀ k, k < 31 → ((nI k).toBitVec.smod 32).toNat = k := by decide +kernel
theorem hb_sh {s : Int32} {k : Nat} (hk : k < 31) : (s >>> (nI k &&& 31)) &&& 1 = if hb s k = true then 1 else 0 := by
  have e : (nI k &&& 31 : Int32) = nI k := by
    rw [pk_andN (n := k) (by omega) (m := 31) 5 (by decide), Nat.mod_eq_of_lt (by omega)]
  have sh : (s >>> nI k).toBitVec = s.toBitVec.sshiftRight k := by
    have h3 : (s >>> nI k).toBitVec = s.toBitVec.sshiftRight' ((nI k).toBitVec.smod 32) := rfl
    rw [h3, BitVec.sshiftRight_eq', sm_tab k hk]
  have g0 : (s >>> nI k).toBitVec.getLsbD 0 = hb s k := by
    unfold hb
    rw [sh, BitVec.getLsbD_sshiftRight]
    simp [show k < 32 by omega]
  have t0 : (s >>> nI k).toBitVec.getLsbD 0 = decide ((s >>> nI k).toBitVec.toNat % 2 = 1) := by
    rw [BitVec.getLsbD, Nat.testBit_zero]
  rw [e, pk_and (s >>> nI k) (m := 1) 1 (by decide), ← g0, t0]
  by_cases h : (s >>> nI k).toBitVec.toNat % 2 = 1
  · rw [decide_eq_true h, if_pos rfl, show (2 : Nat) ^ 1 = 2 from rfl, h]; rfl
  · have h2 : (s >>> nI k).toBitVec.toNat % 2 = 0 := by omega
    rw [decide_eq_false h, if_neg (by decide), show (2 : Nat) ^ 1 = 2 from rfl, h2]; rfl
theorem e_hasX {s : Int32} {k : Nat} {post : Int32 → Prop} (hk : k < 31) (h0 : hb s k = false → post 0) (h1 : hb s k = true → post 1) : q_z_X10_has_0 s (nI k) post := by
  unfold q_z_X10_has_0
  rw [hb_sh hk]
  cases h : hb s k with
  | true => rw [if_pos rfl]; exact ⟨fun h9 => absurd h9 (by decide), fun _ => h1 h⟩
  | false => rw [if_neg (by decide)]; exact ⟨fun _ => h0 h, fun h9 => absurd rfl h9⟩
theorem e_damX {s : Int32} {k : Nat} {post : Int32 → Prop} (hk : k < 31) (h0 : hb s k = false → post 0) (h1 : hb s k = true → post 1) : q_wl_X2_isDam_0 s (nI k) post := by
  unfold q_wl_X2_isDam_0
  rw [hb_sh hk]
  cases h : hb s k with
  | true => rw [if_pos rfl]; exact ⟨fun h9 => absurd h9 (by decide), fun _ => h1 h⟩
  | false => rw [if_neg (by decide)]; exact ⟨fun _ => h0 h, fun h9 => absurd rfl h9⟩
theorem e_hasM {s : Int32} {k : Nat} {post : Int32 → Prop} (hk : k < 31) (h0 : hb s k = false → post 0) (h1 : hb s k = true → post 1) : q_m_has_0 s (nI k) post := by
  unfold q_m_has_0
  rw [hb_sh hk]
  cases h : hb s k with
  | true =>
    rw [if_pos rfl]
    first | exact ⟨fun h9 => absurd rfl h9, fun _ => h1 h⟩ | exact ⟨fun _ => h1 h, fun h9 => absurd rfl h9⟩
  | false =>
    rw [if_neg (by decide)]
    first | exact ⟨fun _ => h0 h, fun h9 => absurd h9 (by decide)⟩ | exact ⟨fun h9 => absurd h9 (by decide), fun _ => h0 h⟩
theorem hb_0 (k : Nat) : hb 0 k = false := by
  unfold hb
  rw [show (0 : Int32).toBitVec = 0#32 from rfl, BitVec.getLsbD_zero]
theorem hb_or (s t : Int32) (k : Nat) : hb (s ||| t) k = (hb s k || hb t k) := by
  unfold hb
  rw [Int32.toBitVec_or, BitVec.getLsbD_or]
theorem hb_and (s t : Int32) (k : Nat) : hb (s &&& t) k = (hb s k && hb t k) := by
  unfold hb
  rw [Int32.toBitVec_and, BitVec.getLsbD_and]
theorem hb_not (t : Int32) {k : Nat} (hk : k < 32) : hb (t ^^^ (-1)) k = !hb t k := by
  unfold hb
  rw [Int32.toBitVec_xor, BitVec.getLsbD_xor, show (-1 : Int32).toBitVec = BitVec.allOnes 32 from by decide, BitVec.getLsbD_allOnes]
  simp [hk]
theorem hb_bit_tab : ((List.range 31).all fun i => (List.range 31).all fun k => hb ((1 : Int32) <<< (nI i &&& 31)) k == decide (i = k)) = true := by decide +kernel
theorem hb_bit {i k : Nat} (hi : i < 31) (hk : k < 31) : hb ((1 : Int32) <<< (nI i &&& 31)) k = decide (i = k) := by
  have h := List.all_eq_true.mp (List.all_eq_true.mp hb_bit_tab i (List.mem_range.mpr hi)) k (List.mem_range.mpr hk)
  exact eq_of_beq h
/-- a set of bits below n -/
theorem hb_ext {s t : Int32} {n : Nat} (hs : iv 0 (2 ^ n - 1 : Nat) s) (ht : iv 0 (2 ^ n - 1 : Nat) t) (hn : n ≤ 30) (h : ∀ k, k < n → hb s k = hb t k) : s = t := by
  obtain ⟨a, rfl, -, ha, -⟩ := iv_nI hs (by decide)
  obtain ⟨b, rfl, -, hb', -⟩ := iv_nI ht (by decide)
  have h2 : 2 ^ n ≤ 2 ^ 30 := Nat.pow_le_pow_right (by decide) hn
  have h0 : 0 < 2 ^ n := Nat.two_pow_pos n
  have tb : ∀ (m k : Nat), m < 2 ^ 31 → hb (nI m) k = m.testBit k := by
    intro m k hm
    unfold hb
    rw [BitVec.getLsbD, iv_tn hm]
  have e : a = b := by
    apply Nat.eq_of_testBit_eq
    intro k
    by_cases hk : k < n
    · rw [← tb a k (by omega), ← tb b k (by omega)]
      exact h k hk
    · have ha2 : a < 2 ^ k := Nat.lt_of_lt_of_le (by omega) (Nat.pow_le_pow_right (by decide) (Nat.le_of_not_lt hk))
      have hb2 : b < 2 ^ k := Nat.lt_of_lt_of_le (by omega) (Nat.pow_le_pow_right (by decide) (Nat.le_of_not_lt hk))
      rw [Nat.testBit_lt_two_pow ha2, Nat.testBit_lt_two_pow hb2]
  rw [e]
end
section
/-- a state of an evening: rows 0 at, 1 knows, 2 climbed, 3 snow, 4 level, 5 (begun, minute, avalanches) -/
def smk (at_ kn cl sn lv : Nat → Int32) (be mi av : Int32) : Nat → Nat → Int32 := fun r => match r with | 0 => at_ | 1 => kn | 2 => cl | 3 => sn | 4 => lv | 5 => (fun j => if j = 0 then be else if j = 1 then mi else av) | _ => fun _ => 0
def bitI (k : Nat) : Int32 := (1 : Int32) <<< (nI k &&& 31)
def cN (x : Int32) : Nat := x.toNatClampNeg
/-- how high a singer is -/
def hgh (td : Nat → Int32) (at_ cl : Nat → Int32) (s : Nat) : Int32 := (td (7 + cN (at_ s)) - td (31 + s)) + cl s * td (16 + cN (at_ s))
def dam (td : Nat → Int32) (h : Nat) : Bool := hb (td 3) h
def ech (td : Nat → Int32) (h x : Nat) : Nat → Bool
  | 0 => false
  | k + 1 => ech td h x k || (decide (td (43 + 2 * k) = nI h) && decide (td (44 + 2 * k) = nI x))
/-- whether a song that sounds in h is heard in x -/
def hear (td : Nat → Int32) (h x : Nat) : Bool := !dam td x && (decide (x = h) || ech td h x (cN (td 4)))
def knS (td at_ kn : Nat → Int32) (s t : Nat) : Nat → Int32 := fun o => if o < cN (td 1) ∧ hear td (cN (at_ s)) (cN (at_ o)) = true then kn o ||| bitI t else kn o
/-- begin, sing, whistle: who may -/
def mayR (td at_ kn : Nat → Int32) (be : Int32) (s : Nat) (x : Int32) (b : Bool) : Bool := decide (0 ≤ x ∧ x < 5) && hb (kn s) (cN x) && (hb be (cN x) == b) && !dam td (cN (at_ s))
def wrongR (td at_ cl lv : Nat → Int32) (s t : Nat) (whi : Bool) : Bool := decide (lv t < hgh td at_ cl s) || (!whi && decide (hgh td at_ cl s = lv t))
def rais (td at_ kn cl sn lv : Nat → Int32) (be mi av : Int32) (s t : Nat) (w : Bool) : Nat → Nat → Int32 :=
  smk at_ (knS td at_ kn s t) cl (upd sn (cN (at_ s)) (sn (cN (at_ s)) + (if w = true then 1 else 0))) (upd lv t (hgh td at_ cl s)) (be ||| bitI t) mi (av + (if w = true then 1 else 0))
def mayW (td at_ cl sn : Nat → Int32) (s : Nat) (x : Int32) : Bool := decide (0 ≤ x ∧ x < td 0) && !decide (td (51 + 9 * cN (at_ s) + cN x) = 0) && !decide (cl s = 1) && decide (sn (cN (at_ s)) < td 5) && decide (sn (cN x) < td 5)
/-- a deed: whether it can be, and the state behind it -/
def act (td : Nat → Int32) (k s x : Int32) (at_ kn cl sn lv : Nat → Int32) (be mi av : Int32) : Bool × (Nat → Nat → Int32) :=
  if ¬ (0 ≤ s ∧ s < td 1) then (false, smk at_ kn cl sn lv be mi av)
  else if k = 0 then (if mayR td at_ kn be (cN s) x false = true then (true, smk at_ (knS td at_ kn (cN s) (cN x)) cl sn (upd lv (cN x) (hgh td at_ cl (cN s))) (be ||| bitI (cN x)) mi av) else (false, smk at_ kn cl sn lv be mi av))
  else if k = 1 ∨ k = 2 then (if mayR td at_ kn be (cN s) x true = true then (true, rais td at_ kn cl sn lv be mi av (cN s) (cN x) (wrongR td at_ cl lv (cN s) (cN x) (decide (k = 2)))) else (false, smk at_ kn cl sn lv be mi av))
  else if k = 3 then (if mayW td at_ cl sn (cN s) x = true then (true, smk (upd at_ (cN s) x) kn cl sn lv be (mi + td (51 + 9 * cN (at_ (cN s)) + cN x)) av) else (false, smk at_ kn cl sn lv be mi av))
  else if k = 4 then (if ¬ td (16 + cN (at_ (cN s))) = 0 ∧ ¬ cl (cN s) = 1 then (true, smk at_ kn (upd cl (cN s) 1) sn lv be mi av) else (false, smk at_ kn cl sn lv be mi av))
  else (if ¬ cl (cN s) = 0 then (true, smk at_ kn (upd cl (cN s) 0) sn lv be mi av) else (false, smk at_ kn cl sn lv be mi av))
end
section
/-- the land's row of the reference -/
abbrev tdM (M : Nat → Nat → Int32) (k : Nat) : Nat → Int32 := rowM M 0 (nI k)
theorem cN_nI {n : Nat} (h : n < 2 ^ 31) : cN (nI n) = n := nI_clamp h
theorem e_highM {M : Nat → Nat → Int32} {at_ cl : Nat → Int32} {k s : Nat} {post : Int32 → Prop} (hk : k < 2) (hs : s < 6) (ha : iv 0 8 (at_ s)) (hp : post (hgh (tdM M k) at_ cl s)) : q_m_high_0 (M 5) (nI k) at_ cl (nI s) post := by
  have hin : vp_in (nI s) 6 := vp_in_nI hs (by omega)
  obtain ⟨a, ea, -, ha8, -⟩ := iv_nI ha (by decide)
  unfold hgh at hp
  rw [ea, cN_nI (by omega)] at hp
  refine ⟨hin, ?_⟩
  rw [nI_clamp (by omega), ea]
  refine e_of (i := 7 + a) hk (by omega) (jx 7 a) ?_
  refine e_of (i := 31 + s) hk (by omega) (jx 31 s) ⟨hin, hin, ?_⟩
  exact e_of (i := 16 + a) hk (by omega) (jx 16 a) hp
theorem e_damM {M : Nat → Nat → Int32} {k h : Nat} {post : Int32 → Prop} (hk : k < 2) (hh : h < 31) (h0 : dam (tdM M k) h = false → post 0) (h1 : dam (tdM M k) h = true → post 1) : q_m_isDam_0 (M 5) (nI k) (nI h) post :=
  e_of (i := 3) hk (by omega) rfl (e_hasM hh (fun e => ⟨rfl, h0 e⟩) (fun e => ⟨rfl, h1 e⟩))
theorem e_cutM {M : Nat → Nat → Int32} {sn : Nat → Int32} {k h : Nat} {post : Int32 → Prop} (hk : k < 2) (hh : h < 9) (h0 : sn h < tdM M k 5 → post 0) (h1 : ¬ sn h < tdM M k 5 → post 1) : q_m_isCut_0 (M 5) (nI k) sn (nI h) post := by
  refine ⟨vp_in_nI hh (by omega), e_of (i := 5) hk (by omega) rfl ?_⟩
  rw [nI_clamp (by omega)]
  exact ⟨h0, h1⟩
theorem e_hearM {M : Nat → Nat → Int32} {k h : Nat} {post : Int32 → Prop} (hk : k < 2) (hh : h < 9) (hL : mLand (M 5)) (hp : ∀ set, (∀ x, x < 31 → hb set x = hear (tdM M k) h x) → post set) : q_m_hearing_0 (M 5) (nI k) (nI h) post := by
  have h4 : iv 0 4 (tdM M k 4) := row_iv hL hk (by omega)
  obtain ⟨c, hc, -, hc4, -⟩ := iv_nI h4 (by decide)
  intro v ev P hP
  have loop : ∀ m j (x2 : Int32), m + j = c → (∀ x, x < 31 → hb x2 x = (decide (x = h) || ech (tdM M k) h x j)) → P x2 (nI j) := by
    intro m
    induction m with
    | zero =>
      intro j x2 hj hx
      apply hP
      refine e_of (i := 4) hk (by omega) rfl ?_
      rw [show rowM M 0 (nI k) 4 = nI c from hc]
      refine pk_le c j (fun _ => e_of (i := 3) hk (by omega) rfl (hp _ (fun x hx9 => ?_))) (fun h9 => absurd h9 (by omega))
      rw [hb_and, hb_not _ (by omega), hx x hx9]
      unfold hear
      rw [hc, cN_nI (by omega), show c = j by omega, Bool.and_comm]
      rfl
    | succ m ih =>
      intro j x2 hj hx
      apply hP
      refine e_of (i := 4) hk (by omega) rfl ?_
      rw [show rowM M 0 (nI k) 4 = nI c from hc]
      refine pk_le c j (fun h9 => absurd h9 (by omega)) (fun _ => ?_)
      have hi : (43 : Int32) + 2 * nI j = nI (43 + 2 * j) := by rw [show (43 : Int32) = nI 43 from rfl, show (2 : Int32) = nI 2 from rfl, pk_mul, nI_add]
      have st : ∀ y : Int32, (∀ x, x < 31 → hb y x = (decide (tdM M k (43 + 2 * j) = nI h) && decide (tdM M k (44 + 2 * j) = nI x))) → q_m_hearing_48 P (M 5) (nI k) (nI h) (nI j) x2 y post := by
        intro y hy v1 e1 v2 e2
        rw [e1, e2, nI_1]
        refine ih (j + 1) _ (by omega) (fun x hx9 => ?_)
        rw [hb_or, hx x hx9, hy x hx9]
        show _ = (decide (x = h) || (ech (tdM M k) h x j || _))
        rw [Bool.or_assoc]
      refine e_of (i := 43 + 2 * j) hk (by omega) hi ⟨fun hne => st 0 (fun x hx9 => ?_), fun he => ?_⟩
      · rw [hb_0, decide_eq_false hne]; rfl
      · have hy8 : iv 0 8 (tdM M k (44 + 2 * j)) := iv_w (row_iv hL hk (by omega)) (by
          have : mRh (44 + 2 * j) = 8 := by
            have hj4 : j < 4 := by omega
            have hc : j = 0 ∨ j = 1 ∨ j = 2 ∨ j = 3 := by omega
            rcases hc with rfl | rfl | rfl | rfl <;> decide
          rw [this]; decide)
        obtain ⟨y, ey, -, hy, -⟩ := iv_nI hy8 (by decide)
        refine e_of (i := 44 + 2 * j) hk (by omega) (by rw [hi, nI_1, show 43 + 2 * j + 1 = 44 + 2 * j by omega]) (st _ (fun x hx9 => ?_))
        rw [show rowM M 0 (nI k) (44 + 2 * j) = nI y from ey, ey, hb_bit (by omega) hx9, decide_eq_true (show tdM M k (43 + 2 * j) = nI h from he), Bool.true_and]
        by_cases hxy : y = x
        · subst hxy; rw [decide_eq_true rfl, decide_eq_true rfl]
        · rw [decide_eq_false hxy, decide_eq_false (fun h9 => hxy ((nI_eq (by omega) (by omega)).mp h9))]
  have h0 := loop c 0 v (by omega) (fun x hx => ?_)
  · exact h0
  · rw [ev, hb_bit (by omega) hx]
    show decide (h = x) = (decide (x = h) || false)
    rw [Bool.or_false]
    by_cases hxh : h = x
    · rw [decide_eq_true hxh, decide_eq_true hxh.symm]
    · rw [decide_eq_false hxh, decide_eq_false (fun h9 => hxh h9.symm)]
/-- the state's ranges -/
def nR (at_ kn cl sn lv : Nat → Int32) : Prop := (∀ j, j < 6 → iv 0 8 (at_ j)) ∧ (∀ j, j < 6 → cl j = 0 ∨ cl j = 1)
theorem e_soundsM {M : Nat → Nat → Int32} {at_ kn cl lv : Nat → Int32} {be : Int32} {k s t : Nat} {post : (Nat → Int32) → (Nat → Int32) → Int32 → Prop} (hk : k < 2) (hs : s < 6) (ht : t < 5) (hL : mLand (M 5)) (ha : ∀ j, j < 6 → iv 0 8 (at_ j)) (hp : post (knS (tdM M k) at_ kn s t) (upd lv t (hgh (tdM M k) at_ cl s)) (be ||| bitI t)) : q_m_sounds_0 (M 5) (nI k) (tdM M k 1) at_ kn cl lv be (nI s) (nI t) post := by
  have h1 : iv 0 6 (tdM M k 1) := row_iv hL hk (by omega)
  obtain ⟨c, hc, -, hc6, -⟩ := iv_nI h1 (by decide)
  obtain ⟨a, ea, -, ha8, -⟩ := iv_nI (ha s hs) (by decide)
  refine ⟨vp_in_nI hs (by omega), ?_⟩
  rw [nI_clamp (by omega), ea]
  refine e_hearM hk (by omega) hL (fun set hset => e_highM hk hs (ha s hs) ⟨vp_in_nI ht (by omega), fun lv1 e1 v e2 => ?_⟩)
  rw [nI_clamp (by omega)] at e1
  subst e1
  have e3 : v = be ||| bitI t := e2
  subst e3
  intro P hP
  have loop : ∀ m o (kn1 : Nat → Int32), m + o = c → (∀ j, kn1 j = if j < o ∧ hear (tdM M k) a (cN (at_ j)) = true then kn j ||| bitI t else kn j) → P (nI o) kn1 := by
    intro m
    induction m with
    | zero =>
      intro o kn1 ho hq
      apply hP
      rw [hc]
      refine pk_le c o (fun _ => ?_) (fun h9 => absurd h9 (by omega))
      have e : kn1 = knS (tdM M k) at_ kn s t := by
        funext j
        rw [hq j]
        unfold knS
        rw [hc, cN_nI (by omega), ea, cN_nI (by omega), show c = o by omega]
      rw [e]
      exact hp
    | succ m ih =>
      intro o kn1 ho hq
      apply hP
      have hin : vp_in (nI o) 6 := vp_in_nI (by omega) (by omega)
      rw [hc]
      refine pk_le c o (fun h9 => absurd h9 (by omega)) (fun _ => ⟨hin, hin, ?_⟩)
      rw [nI_clamp (by omega)]
      obtain ⟨b, eb, -, hb8, -⟩ := iv_nI (ha o (by omega)) (by decide)
      have hko : kn1 o = kn o := by rw [hq o, if_neg (fun h9 => by omega)]
      have st : ∀ y : Int32, (kn1 o ||| y) = (if hear (tdM M k) a b = true then kn o ||| bitI t else kn o) → q_m_sounds_75 P (M 5) (nI k) (nI c) at_ kn1 cl (upd lv t (hgh (tdM M k) at_ cl s)) (be ||| bitI t) (nI t) set (nI o) (nI o) (kn1 o) y post := by
        intro y hy v1 e1
        refine ⟨hin, fun k1 e2 v2 e3 => ?_⟩
        rw [nI_clamp (by omega), e1, hy] at e2
        rw [e3, nI_1, e2]
        refine ih (o + 1) _ (by omega) (fun j => ?_)
        by_cases hjo : j = o
        · subst hjo
          rw [up_s, eb, cN_nI (by omega)]
          by_cases hh : hear (tdM M k) a b = true
          · rw [if_pos hh, if_pos ⟨by omega, hh⟩]
          · rw [if_neg hh, if_neg (fun h9 => hh h9.2)]
        · rw [up_n hjo, hq j]
          by_cases hh : hear (tdM M k) a (cN (at_ j)) = true
          · by_cases hlt : j < o
            · rw [if_pos ⟨hlt, hh⟩, if_pos ⟨by omega, hh⟩]
            · rw [if_neg (fun h9 => hlt h9.1), if_neg (fun h9 => by omega)]
          · rw [if_neg (fun h9 => hh h9.2), if_neg (fun h9 => hh h9.2)]
      rw [eb]
      refine e_hasM (by omega) (fun h9 => iz (st 0 ?_)) (fun h9 => oi (st _ ?_))
      · rw [hset b (by omega)] at h9
        rw [if_neg (by rw [h9]; decide), hko]
        simp
      · rw [hset b (by omega)] at h9
        rw [if_pos h9, hko]
        rfl
  exact loop c 0 kn (by omega) (fun j => by rw [if_neg (fun h9 => by omega)])
theorem kn_hi : ((List.range 32).all fun m => (List.range 31).all fun x => decide (x < 5) || !hb (nI m) x) = true := by decide +kernel
theorem kn_m1 : ∀ m, m < 32 → ((nI m >>> ((-1 : Int32) &&& 31)) &&& 1) = 0 := by decide +kernel
theorem e_hasK {kn x : Int32} {post : Int32 → Prop} (hkn : iv 0 31 kn) (hx : iv (-1) 8 x) (h0 : (decide (0 ≤ x ∧ x < 5) && hb kn (cN x)) = false → post 0) (h1 : ∀ t, t < 5 → x = nI t → hb kn t = true → post 1) : q_m_has_0 kn x post := by
  obtain ⟨m, rfl, -, hm, -⟩ := iv_nI hkn (by decide)
  by_cases hneg : x < 0
  · have e : x = -1 := by
      apply Int32.toInt_inj.mp
      have := r_lt hneg
      have e0 : (0 : Int32).toInt = 0 := rfl
      have em : (-1 : Int32).toInt = -1 := rfl
      have := hx.1
      omega
    have hf := h0 (by rw [decide_eq_false (fun h9 => absurd hneg (Int32.not_lt.mpr h9.1))]; rfl)
    subst e
    unfold q_m_has_0
    rw [kn_m1 m (by omega)]
    exact ⟨fun _ => hf, fun h9 => absurd h9 (by decide)⟩
  · obtain ⟨t, ht, rfl⟩ := nI_of hneg
    have ht8 : t ≤ 8 := by
      have := hx.2
      rw [nI_toInt ht] at this
      omega
    rw [cN_nI ht] at h0
    refine e_hasM (by omega) (fun h9 => h0 (by rw [h9, Bool.and_false])) (fun h9 => ?_)
    have h5 : t < 5 := by
      have g := List.all_eq_true.mp (List.all_eq_true.mp kn_hi m (List.mem_range.mpr (by omega))) t (List.mem_range.mpr (by omega))
      rw [h9] at g
      simpa using g
    exact h1 t h5 rfl h9
theorem e_mayBeginM {M : Nat → Nat → Int32} {at_ kn : Nat → Int32} {be x : Int32} {k s : Nat} {post : Int32 → Prop} (hk : k < 2) (hs : s < 6) (ha : iv 0 8 (at_ s)) (hkn : iv 0 31 (kn s)) (hx : iv (-1) 8 x) (h0 : mayR (tdM M k) at_ kn be s x false = false → post 0) (h1 : mayR (tdM M k) at_ kn be s x false = true → post 1) : q_m_mayBegin_0 (M 5) (nI k) at_ kn be (nI s) x post := by
  have hin : vp_in (nI s) 6 := vp_in_nI hs (by omega)
  obtain ⟨a, ea, -, ha8, -⟩ := iv_nI ha (by decide)
  unfold mayR at h0 h1
  refine ⟨hin, ?_⟩
  rw [nI_clamp (by omega)]
  refine e_hasK hkn hx (fun h9 => iz (h0 (by rw [h9]; rfl))) (fun t ht ex h9 => oi ?_)
  subst ex
  rw [cN_nI (by omega), h9, decide_eq_true (show 0 ≤ nI t ∧ nI t < 5 from ⟨nI_pos' (by omega), nI_lt (b := 5) ht (by omega)⟩), ea, cN_nI (by omega)] at h0 h1
  refine e_hasM (by omega) (fun hb0 => zi ⟨hin, ?_⟩) (fun hb1 => io (h0 (by rw [hb1]; rfl)))
  rw [ea]
  rw [hb0] at h0 h1
  exact e_damM hk (by omega) (fun hd => zi (h1 (by rw [hd]; rfl))) (fun hd => io (h0 (by rw [hd]; rfl)))
theorem e_maySingM {M : Nat → Nat → Int32} {at_ kn : Nat → Int32} {be x : Int32} {k s : Nat} {post : Int32 → Prop} (hk : k < 2) (hs : s < 6) (ha : iv 0 8 (at_ s)) (hkn : iv 0 31 (kn s)) (hx : iv (-1) 8 x) (h0 : mayR (tdM M k) at_ kn be s x true = false → post 0) (h1 : mayR (tdM M k) at_ kn be s x true = true → post 1) : q_m_maySing_0 (M 5) (nI k) at_ kn be (nI s) x post := by
  have hin : vp_in (nI s) 6 := vp_in_nI hs (by omega)
  obtain ⟨a, ea, -, ha8, -⟩ := iv_nI ha (by decide)
  unfold mayR at h0 h1
  refine ⟨hin, ?_⟩
  rw [nI_clamp (by omega)]
  refine e_hasK hkn hx (fun h9 => iz (h0 (by rw [h9]; rfl))) (fun t ht ex h9 => oi ?_)
  subst ex
  rw [cN_nI (by omega), h9, decide_eq_true (show 0 ≤ nI t ∧ nI t < 5 from ⟨nI_pos' (by omega), nI_lt (b := 5) ht (by omega)⟩), ea, cN_nI (by omega)] at h0 h1
  refine e_hasM (by omega) (fun hb0 => iz (h0 (by rw [hb0]; rfl))) (fun hb1 => oi ⟨hin, ?_⟩)
  rw [ea]
  rw [hb1] at h0 h1
  exact e_damM hk (by omega) (fun hd => zi (h1 (by rw [hd]; rfl))) (fun hd => io (h0 (by rw [hd]; rfl)))
theorem mayR_x {td at_ kn : Nat → Int32} {be x : Int32} {s : Nat} {b : Bool} (h : mayR td at_ kn be s x b = true) : ∃ t, t < 5 ∧ x = nI t := by
  unfold mayR at h
  simp only [Bool.and_eq_true, decide_eq_true_eq] at h
  exact lt_nI (c := 5) (m := 5) (iv_lit (by decide)) h.1.1.1
theorem e_singsM {M : Nat → Nat → Int32} {at_ kn cl sn lv : Nat → Int32} {be av : Int32} {k s t : Nat} {w : Bool} {wi : Int32} {post : (Nat → Int32) → (Nat → Int32) → (Nat → Int32) → Int32 → Int32 → Prop} (hk : k < 2) (hs : s < 6) (ht : t < 5) (hL : mLand (M 5)) (ha : ∀ j, j < 6 → iv 0 8 (at_ j)) (hw : wi = if w = true then 1 else 0)
    (hp : ∀ g, g = wrongR (tdM M k) at_ cl lv s t w → post (knS (tdM M k) at_ kn s t) (upd sn (cN (at_ s)) (sn (cN (at_ s)) + (if g = true then 1 else 0))) (upd lv t (hgh (tdM M k) at_ cl s)) (be ||| bitI t) (av + (if g = true then 1 else 0))) : q_m_sings_0 (M 5) (nI k) (tdM M k 1) at_ kn cl sn lv be av (nI s) (nI t) wi post := by
  obtain ⟨a, ea, -, ha8, -⟩ := iv_nI (ha s hs) (by decide)
  have hin : vp_in (nI s) 6 := vp_in_nI hs (by omega)
  have hin5 : vp_in (nI t) 5 := vp_in_nI ht (by omega)
  have s37 : ∀ (g : Bool) (y : Int32), y = (if g = true then 1 else 0) → g = wrongR (tdM M k) at_ cl lv s t w → q_m_sings_37 (M 5) (nI k) (tdM M k 1) at_ kn cl sn lv be av (nI s) (nI t) y post := by
    intro g y hy hg
    have hq := hp g hg
    rw [ea, cN_nI (by omega)] at hq
    have s61 : q_m_sings_61 (M 5) (nI k) (tdM M k 1) at_ kn cl sn lv be av (nI s) (nI t) y (nI a) (sn a) (if g = true then 1 else 0) post := by
      intro v1 e1
      refine ⟨vp_in_nI (by omega) (by omega), fun sn1 e2 => ?_⟩
      rw [nI_clamp (by omega), e1] at e2
      have s78 : q_m_sings_78 (M 5) (nI k) (tdM M k 1) at_ kn cl sn1 lv be av (nI s) (nI t) av (if g = true then 1 else 0) post := by
        intro v2 e3
        refine e_soundsM hk hs ht hL ha ?_
        rw [e3, e2]
        exact hq
      cases g with
      | true =>
        rw [if_pos rfl] at hy s78
        subst hy
        exact ⟨fun h9 => absurd h9 (by decide), fun _ => s78⟩
      | false =>
        rw [if_neg (by decide)] at hy s78
        subst hy
        exact ⟨fun _ => s78, fun h9 => absurd rfl h9⟩
    refine ⟨hin, ?_⟩
    rw [nI_clamp (by omega), ea]
    refine ⟨vp_in_nI (by omega) (by omega), ?_⟩
    rw [nI_clamp (by omega)]
    cases g with
    | true =>
      rw [if_pos rfl] at hy s61
      subst hy
      exact ⟨fun h9 => absurd h9 (by decide), fun _ => s61⟩
    | false =>
      rw [if_neg (by decide)] at hy s61
      subst hy
      exact ⟨fun _ => s61, fun h9 => absurd rfl h9⟩
  refine e_highM hk hs (ha s hs) ⟨hin5, ?_⟩
  rw [nI_clamp (by omega)]
  unfold wrongR at s37
  refine ⟨fun hlt => s37 true 1 rfl (by rw [decide_eq_true hlt]; rfl), fun hlt => ⟨fun hw1 => s37 false 0 rfl ?_, fun hw0 => ?_⟩⟩
  · have e : w = true := by
      cases w with
      | true => rfl
      | false => rw [if_neg (by decide)] at hw; exact absurd hw hw1
    rw [decide_eq_false hlt, e]; rfl
  · have e : w = false := by
      cases w with
      | true => rw [if_pos rfl] at hw; rw [hw] at hw0; exact absurd hw0 (by decide)
      | false => rfl
    refine e_highM hk hs (ha s hs) ⟨hin5, ?_⟩
    refine ⟨fun hne => s37 false 0 rfl (by rw [decide_eq_false hlt, decide_eq_false hne, e]; rfl), fun he => s37 true 1 rfl (by rw [decide_eq_true he, e]; simp)⟩
end
section
theorem e_walksM {M : Nat → Nat → Int32} {at_ cl sn : Nat → Int32} {mi x : Int32} {k s : Nat} {post : Int32 → (Nat → Int32) → Int32 → Prop} (hk : k < 2) (hs : s < 6) (hL : mLand (M 5)) (ha : iv 0 8 (at_ s)) (h0 : mayW (tdM M k) at_ cl sn s x = false → post 0 at_ mi) (h1 : mayW (tdM M k) at_ cl sn s x = true → post 1 (upd at_ s x) (mi + tdM M k (51 + 9 * cN (at_ s) + cN x))) : q_m_walks_0 (M 5) (nI k) (tdM M k 0) at_ cl sn mi (nI s) x post := by
  obtain ⟨a, ea, -, ha8, -⟩ := iv_nI ha (by decide)
  have hin : vp_in (nI s) 6 := vp_in_nI hs (by omega)
  have b0 : iv 0 9 (tdM M k 0) := row_iv hL hk (by omega)
  unfold mayW at h0 h1
  unfold q_m_walks_0 q_m_isHut_0
  refine sp_in (fun hn => ⟨rfl, iz ?_⟩) (fun g1 g2 => ⟨rfl, oi ⟨hin, ?_⟩⟩)
  · refine ⟨fun _ => h0 ?_, fun h9 => absurd rfl h9⟩
    rw [decide_eq_false (fun h9 => hn ((in_lt (iv_w b0 (by decide))).mpr h9))]
    simp
  · have hlt := (in_lt (iv_w b0 (by decide) : iv 0 1000 (tdM M k 0))).mp ⟨g1, g2⟩
    obtain ⟨y, hy, ex⟩ := lt_nI (m := 9) b0 hlt
    rw [decide_eq_true hlt] at h0 h1
    rw [ea, ex, cN_nI (by omega), cN_nI (by omega)] at h0 h1
    rw [nI_clamp (by omega), ea, ex]
    refine e_of (i := 51 + 9 * a + y) hk (by omega) (ix9 a y) ?_
    refine ⟨fun hz => h0 ?_, fun hz => ⟨hin, ?_⟩⟩
    · rw [decide_eq_true hz]; simp
    · rw [decide_eq_false hz] at h0 h1
      rw [nI_clamp (by omega)]
      refine ⟨fun hc => h0 (by rw [decide_eq_true hc]; simp), fun hc => ⟨hin, ?_⟩⟩
      rw [decide_eq_false hc] at h0 h1
      rw [ea]
      refine e_cutM hk (by omega) (fun hc1 => zi ?_) (fun hc1 => io (h0 (by rw [decide_eq_false hc1]; simp)))
      rw [decide_eq_true hc1] at h0 h1
      refine e_cutM hk (by omega) (fun hc2 => iz ⟨hin, fun at1 e1 v e2 => ?_⟩) (fun hc2 => oi (h0 (by rw [decide_eq_false hc2]; simp)))
      rw [decide_eq_true hc2] at h1
      rw [e1, e2]
      exact h1 (by simp)
/-- the evening's row of the reference: deed j, number i -/
theorem e_deedOfM {M : Nat → Nat → Int32} {e j i : Nat} {x : Int32} {post : Int32 → Prop} (he : e < 2) (hj : j < 40) (hi : i < 3) (hx : x = nI i) (hp : post (rowM M 1 (nI e) (1 + 3 * j + i))) : q_m_deedOf_0 (M 6) (nI e) (nI j) x post := by
  have e9 : (((121 * nI e) + 1) + (3 * nI j)) + x = nI (121 * e + 1 + 3 * j + i) := by rw [hx]; exact ix3 121
  refine ⟨by rw [e9]; exact vp_in_nI (by omega) (by omega), ?_⟩
  rw [e9, nI_clamp (by omega)]
  unfold rowM at hp
  rw [nI_clamp (by omega)] at hp
  rw [show 121 * e + 1 + 3 * j + i = wD 1 * e + (1 + 3 * j + i) from by show _ = 121 * e + (1 + 3 * j + i); omega]
  exact hp
abbrev NT : Type := Int32 → (Nat → Int32) → (Nat → Int32) → (Nat → Int32) → (Nat → Int32) → (Nat → Int32) → Int32 → Int32 → Int32 → Prop
/-- a post of a state -/
def nP (post : NT) (r : Int32) (S : Nat → Nat → Int32) : Prop := post r (S 0) (S 1) (S 2) (S 3) (S 4) (S 5 0) (S 5 1) (S 5 2)
def bI (b : Bool) : Int32 := if b = true then 1 else 0
/-- deed j of an evening's row -/
def actR (td ev : Nat → Int32) (j : Nat) (at_ kn cl sn lv : Nat → Int32) (be mi av : Int32) : Bool × (Nat → Nat → Int32) := act td (ev (1 + 3 * j)) (ev (2 + 3 * j)) (ev (3 + 3 * j)) at_ kn cl sn lv be mi av
end
section
theorem de_ne {a b : Nat} (h : ¬ b = a) : decide (a = b) = false := decide_eq_false (fun h2 => h h2.symm)
theorem eve_iv {M : Nat → Nat → Int32} {e j : Nat} (hE : mEve (M 6)) (he : e < 2) (hj : j < 40) : iv 0 5 (rowM M 1 (nI e) (1 + 3 * j)) ∧ iv 0 5 (rowM M 1 (nI e) (2 + 3 * j)) ∧ iv (-1) 8 (rowM M 1 (nI e) (3 + 3 * j)) := by
  have g := (hE e (by omega)).2 j hj
  have w : ∀ i, rowM M 1 (nI e) i = M 6 (121 * e + i) := by
    intro i
    unfold rowM
    rw [nI_clamp (by omega)]
    rfl
  rw [w, w, w]
  rw [show 121 * e + (1 + 3 * j) = 121 * e + 1 + 3 * j by omega, show 121 * e + (2 + 3 * j) = 121 * e + 1 + 3 * j + 1 by omega, show 121 * e + (3 + 3 * j) = 121 * e + 1 + 3 * j + 2 by omega]
  exact g
theorem iv_k5 {K : Int32} (hK : iv 0 5 K) (h : K.toInt < 0 ∨ 4 < K.toInt) : K = 5 := by
  apply Int32.toInt_inj.mp
  have := hK.1
  have := hK.2
  have e5 : (5 : Int32).toInt = 5 := rfl
  omega
theorem e_beginM {M : Nat → Nat → Int32} {at_ kn cl sn : Nat → Int32} {be mi av : Int32} {k : Nat} {post : (Nat → Int32) → (Nat → Int32) → (Nat → Int32) → (Nat → Int32) → Int32 → Int32 → Int32 → Prop} (hk : k < 2)
    (hp : ∀ at1 kn1 cl1 sn1, (∀ j, j < 6 → at1 j = tdM M k (25 + j) ∧ kn1 j = tdM M k (37 + j) ∧ cl1 j = 0) → (∀ j, j < 9 → sn1 j = 0) → post at1 kn1 cl1 sn1 0 0 0) : q_m_begin_0 (M 5) (nI k) at_ kn cl sn be mi av post := by
  intro P hP
  have loop : ∀ m i (at1 kn1 cl1 : Nat → Int32), m = 6 - i → i ≤ 6 → (∀ j, j < i → at1 j = tdM M k (25 + j) ∧ kn1 j = tdM M k (37 + j) ∧ cl1 j = 0) → P (nI i) at1 kn1 cl1 := by
    intro m
    induction m using Nat.strongRecOn with
    | ind m ih =>
      intro i at1 kn1 cl1 hm hi hI
      apply hP
      refine pk_le 6 i (fun h6 => ?_) (fun h6 => ?_)
      · have e6 : i = 6 := by omega
        subst e6
        intro P2 hP2
        have loop2 : ∀ m i (sn1 : Nat → Int32), m = 9 - i → i ≤ 9 → (∀ j, j < i → sn1 j = 0) → P2 (nI i) sn1 := by
          intro m
          induction m using Nat.strongRecOn with
          | ind m ih2 =>
            intro i sn1 hm hi hS
            apply hP2
            refine pk_le 9 i (fun h9 => ?_) (fun h9 => ⟨vp_in_nI h9 (by omega), fun sn2 e1 v e2 => ?_⟩)
            · exact hp at1 kn1 cl1 sn1 hI (fun j hj => hS j (by omega))
            · rw [e2, nI_1]
              refine ih2 (9 - (i + 1)) (by omega) (i + 1) sn2 rfl (by omega) (fun j hj => ?_)
              rw [e1, nI_clamp (by omega)]
              by_cases hji : j = i
              · rw [hji, up_s]
              · rw [up_n hji]; exact hS j (by omega)
        exact loop2 _ 0 sn rfl (by omega) (fun j hj => absurd hj (by omega))
      · have hin : vp_in (nI i) 6 := vp_in_nI h6 (by omega)
        refine e_of (i := 25 + i) hk (by omega) (jx 25 i) ⟨hin, fun at2 e1 => ?_⟩
        refine e_of (i := 37 + i) hk (by omega) (jx 37 i) ⟨hin, fun kn2 e2 => ⟨hin, fun cl2 e3 v e4 => ?_⟩⟩
        rw [nI_clamp (by omega)] at e1 e2 e3
        rw [e4, nI_1]
        refine ih (6 - (i + 1)) (by omega) (i + 1) at2 kn2 cl2 rfl (by omega) (fun j hj => ?_)
        by_cases hji : j = i
        · subst hji
          rw [e1, e2, e3, up_s, up_s, up_s]
          exact ⟨rfl, rfl, rfl⟩
        · rw [e1, e2, e3, up_n hji, up_n hji, up_n hji]
          exact hI j (by omega)
  exact loop _ 0 at_ kn cl rfl (by omega) (fun j hj => absurd hj (by omega))
theorem e_doesM {M : Nat → Nat → Int32} {k e j : Nat} {at_ kn cl sn lv : Nat → Int32} {be mi av : Int32} {post : NT} (hk : k < 2) (he : e < 2) (hj : j < 40) (hL : mLand (M 5)) (hE : mEve (M 6)) (ha : ∀ j, j < 6 → iv 0 8 (at_ j)) (hkn : ∀ j, j < 6 → iv 0 31 (kn j))
    (hp : nP post (bI (actR (tdM M k) (rowM M 1 (nI e)) j at_ kn cl sn lv be mi av).1) (actR (tdM M k) (rowM M 1 (nI e)) j at_ kn cl sn lv be mi av).2) : q_m_does_0 (M 5) (M 6) (nI k) (tdM M k 0) (tdM M k 1) (nI e) at_ kn cl sn lv be mi av (nI j) post := by
  have hs1 : iv 0 6 (tdM M k 1) := row_iv hL hk (by omega)
  obtain ⟨hK, hS, hX⟩ := eve_iv hE he hj
  unfold actR at hp
  generalize eK : rowM M 1 (nI e) (1 + 3 * j) = K at hp hK
  generalize eS : rowM M 1 (nI e) (2 + 3 * j) = s at hp hS
  generalize eX : rowM M 1 (nI e) (3 + 3 * j) = x at hp hX
  have dK : ∀ {post : Int32 → Prop}, post K → q_m_deedOf_0 (M 6) (nI e) (nI j) 0 post := fun h => e_deedOfM he hj (i := 0) (by omega) rfl (by rw [Nat.add_zero, eK]; exact h)
  have dS : ∀ {post : Int32 → Prop}, post s → q_m_deedOf_0 (M 6) (nI e) (nI j) 1 post := fun h => e_deedOfM he hj (i := 1) (by omega) rfl (by rw [show 1 + 3 * j + 1 = 2 + 3 * j by omega, eS]; exact h)
  have dX : ∀ {post : Int32 → Prop}, post x → q_m_deedOf_0 (M 6) (nI e) (nI j) 2 post := fun h => e_deedOfM he hj (i := 2) (by omega) rfl (by rw [show 1 + 3 * j + 2 = 3 + 3 * j by omega, eX]; exact h)
  clear eS eX
  refine dS (dX ?_)
  unfold q_m_isSinger_0
  unfold act at hp
  refine sp_in (fun hn => ⟨rfl, zi ?_⟩) (fun g1 g2 => ⟨rfl, io ?_⟩)
  · rw [if_pos (fun h9 => hn ((in_lt (iv_w hs1 (by decide))).mpr h9))] at hp
    exact hp
  · have hlt := (in_lt (iv_w hs1 (by decide))).mp ⟨g1, g2⟩
    rw [if_neg (fun h9 => h9 hlt)] at hp
    obtain ⟨s', hs', es⟩ := lt_nI (m := 6) hs1 hlt
    subst es
    rw [cN_nI (by omega)] at hp
    have hin : vp_in (nI s') 6 := vp_in_nI hs' (by omega)
    refine dK ⟨fun hd => ?_, fun h0 => ?_, fun h1 => ?_, fun h2 => ?_, fun h3 => ?_, fun h4 => ?_⟩
    · have h5 : K = 5 := iv_k5 hK hd
      subst h5
      rw [if_neg (by decide), if_neg (by decide), if_neg (by decide), if_neg (by decide)] at hp
      refine ⟨hin, ?_⟩
      rw [nI_clamp (by omega)]
      refine ⟨fun hne => ⟨hin, fun c2 e2 => ?_⟩, fun he0 => ?_⟩
      · rw [if_pos hne] at hp
        rw [e2]
        exact hp
      · rw [if_neg (fun h9 => h9 he0)] at hp
        exact hp
    · subst h0
      rw [if_pos rfl] at hp
      refine e_mayBeginM hk hs' (ha s' hs') (hkn s' hs') hX (fun hf => zi ?_) (fun ht => io ?_)
      · rw [if_neg (by rw [hf]; decide)] at hp
        exact hp
      · rw [if_pos ht] at hp
        obtain ⟨t, ht5, ex⟩ := mayR_x ht
        subst ex
        rw [cN_nI (by omega)] at hp
        exact e_soundsM hk hs' ht5 hL ha hp
    · subst h1
      rw [if_neg (by decide), if_pos (Or.inl rfl)] at hp
      refine e_maySingM hk hs' (ha s' hs') (hkn s' hs') hX (fun hf => zi ?_) (fun ht => io ?_)
      · rw [if_neg (by rw [hf]; decide)] at hp
        exact hp
      · rw [if_pos ht] at hp
        obtain ⟨t, ht5, ex⟩ := mayR_x ht
        subst ex
        rw [cN_nI (by omega)] at hp
        refine dK ⟨fun _ => ?_, fun h9 => absurd h9 (by decide)⟩
        exact e_singsM (w := false) hk hs' ht5 hL ha rfl (fun g eg => by rw [eg]; exact hp)
    · subst h2
      rw [if_neg (by decide), if_pos (Or.inr rfl)] at hp
      refine e_maySingM hk hs' (ha s' hs') (hkn s' hs') hX (fun hf => zi ?_) (fun ht => io ?_)
      · rw [if_neg (by rw [hf]; decide)] at hp
        exact hp
      · rw [if_pos ht] at hp
        obtain ⟨t, ht5, ex⟩ := mayR_x ht
        subst ex
        rw [cN_nI (by omega)] at hp
        refine dK ⟨fun h9 => absurd rfl h9, fun _ => ?_⟩
        exact e_singsM (w := true) hk hs' ht5 hL ha rfl (fun g eg => by rw [eg]; exact hp)
    · subst h3
      rw [if_neg (by decide), if_neg (by decide), if_pos rfl] at hp
      refine e_walksM hk hs' hL (ha s' hs') (fun hf => ⟨rfl, ?_⟩) (fun ht => ⟨rfl, ?_⟩)
      · rw [if_neg (by rw [hf]; decide)] at hp
        exact hp
      · rw [if_pos ht] at hp
        exact hp
    · subst h4
      rw [if_neg (by decide), if_neg (by decide), if_neg (by decide), if_pos rfl] at hp
      obtain ⟨a, ea, -, ha8, -⟩ := iv_nI (ha s' hs') (by decide)
      rw [ea, cN_nI (by omega)] at hp
      refine ⟨hin, ?_⟩
      rw [nI_clamp (by omega), ea]
      refine e_of (i := 16 + a) hk (by omega) (jx 16 a) ⟨fun hz => ?_, fun hz => ⟨hin, fun hc => ⟨hin, fun c2 e2 => ?_⟩, fun hc => ?_⟩⟩
      · rw [if_neg (fun h9 => h9.1 hz)] at hp
        exact hp
      · rw [if_pos ⟨hz, hc⟩] at hp
        rw [e2]
        exact hp
      · rw [if_neg (fun h9 => h9.2 hc)] at hp
        exact hp
/-- a state, packed -/
def actS (td : Nat → Int32) (k s x : Int32) (S : Nat → Nat → Int32) : Bool × (Nat → Nat → Int32) := act td k s x (S 0) (S 1) (S 2) (S 3) (S 4) (S 5 0) (S 5 1) (S 5 2)
/-- a land's row, as told -/
def RNG (td : Nat → Int32) : Prop := ∀ j, j < 132 → iv 0 (mRh j) (td j)
def LOK (td : Nat → Int32) : Prop := (∀ s : Nat, s < 6 → nI s < td 1 → td (25 + s) < td 0) ∧ (∀ k : Nat, k < 4 → nI k < td 4 → td (43 + 2 * k) < td 0 ∧ td (44 + 2 * k) < td 0) ∧ ∀ h : Nat, h < 32 → hb (td 2) h = true → nI h < td 0
/-- a state's ranges -/
def NOK (td : Nat → Int32) (S : Nat → Nat → Int32) : Prop := (∀ j, j < 6 → iv 0 8 (S 0 j)) ∧ (∀ j, j < 6 → iv 0 31 (S 1 j)) ∧ (∀ j, j < 6 → S 2 j = 0 ∨ S 2 j = 1) ∧ iv 0 31 (S 5 0) ∧ (∀ j, j < 6 → nI j < td 1 → S 0 j < td 0) ∧ (∀ t, t < 5 → iv (-9) 108 (S 4 t)) ∧ (∀ t, t < 5 → hb (S 5 0) t = false → S 4 t = -1)
/-- two states are alike in what they show -/
def AGs (S' S : Nat → Nat → Int32) : Prop := (∀ j, j < 6 → S' 0 j = S 0 j ∧ S' 1 j = S 1 j ∧ S' 2 j = S 2 j) ∧ (∀ j, j < 9 → S' 3 j = S 3 j) ∧ (∀ t, t < 5 → hb (S 5 0) t = true → S' 4 t = S 4 t) ∧ S' 5 0 = S 5 0 ∧ S' 5 1 = S 5 1 ∧ S' 5 2 = S 5 2
theorem bit5 : ∀ t, t < 5 → iv 0 31 (bitI t) := by
  intro t ht
  have : t = 0 ∨ t = 1 ∨ t = 2 ∨ t = 3 ∨ t = 4 := by omega
  rcases this with rfl | rfl | rfl | rfl | rfl <;> exact iv_lit (by decide)
theorem hgh_iv {td : Nat → Int32} {at_ cl : Nat → Int32} {s : Nat} (hR : RNG td) (hs : s < 6) (ha : iv 0 8 (at_ s)) (hc : cl s = 0 ∨ cl s = 1) : iv (-9) 108 (hgh td at_ cl s) := by
  obtain ⟨a, ea, -, ha8, -⟩ := iv_nI ha (by decide)
  unfold hgh
  rw [ea, cN_nI (by omega)]
  have r1 : iv 0 99 (td (7 + a)) := iv_w (hR (7 + a) (by omega)) (by
    have h2 : a = 0 ∨ a = 1 ∨ a = 2 ∨ a = 3 ∨ a = 4 ∨ a = 5 ∨ a = 6 ∨ a = 7 ∨ a = 8 := by omega
    rcases h2 with rfl | rfl | rfl | rfl | rfl | rfl | rfl | rfl | rfl <;> decide)
  have r2 : iv 0 9 (td (31 + s)) := iv_w (hR (31 + s) (by omega)) (by
    have h2 : s = 0 ∨ s = 1 ∨ s = 2 ∨ s = 3 ∨ s = 4 ∨ s = 5 := by omega
    rcases h2 with rfl | rfl | rfl | rfl | rfl | rfl <;> decide)
  have r3 : iv 0 9 (td (16 + a)) := iv_w (hR (16 + a) (by omega)) (by
    have h2 : a = 0 ∨ a = 1 ∨ a = 2 ∨ a = 3 ∨ a = 4 ∨ a = 5 ∨ a = 6 ∨ a = 7 ∨ a = 8 := by omega
    rcases h2 with rfl | rfl | rfl | rfl | rfl | rfl | rfl | rfl | rfl <;> decide)
  have r4 : iv 0 9 (cl s * td (16 + a)) := by
    rcases hc with e | e
    · rw [e, Int32.zero_mul]; exact iv_lit (by decide)
    · rw [e, Int32.one_mul]; exact r3
  exact iv_add (l := -9) (h := 108) (iv_sub (l := -9) (h := 99) r1 r2 (by decide)) r4 (by decide)
end
section
theorem hb_bitI {i k : Nat} (hi : i < 31) (hk : k < 31) : hb (bitI i) k = decide (i = k) := hb_bit hi hk
theorem NOK_snd {td : Nat → Int32} {S : Nat → Nat → Int32} {s t : Nat} {sn : Nat → Int32} {mi av : Int32} (hR : RNG td) (h : NOK td S) (hs : s < 6) (ht : t < 5) : NOK td (smk (S 0) (knS td (S 0) (S 1) s t) (S 2) sn (upd (S 4) t (hgh td (S 0) (S 2) s)) (S 5 0 ||| bitI t) mi av) := by
  refine ⟨h.1, fun j hj => ?_, h.2.2.1, ?_, h.2.2.2.2.1, fun t' ht' => ?_, fun t' ht' hf => ?_⟩
  · show iv 0 31 (knS td (S 0) (S 1) s t j)
    unfold knS
    split
    · exact iv_or 5 (h.2.1 j hj) (bit5 t ht) (by decide)
    · exact h.2.1 j hj
  · show iv 0 31 (S 5 0 ||| bitI t)
    exact iv_or 5 h.2.2.2.1 (bit5 t ht) (by decide)
  · show iv (-9) 108 (upd (S 4) t (hgh td (S 0) (S 2) s) t')
    by_cases e : t' = t
    · rw [e, up_s]
      exact hgh_iv hR hs (h.1 s hs) (h.2.2.1 s hs)
    · rw [up_n e]
      exact h.2.2.2.2.2.1 t' ht'
  · show upd (S 4) t (hgh td (S 0) (S 2) s) t' = -1
    have hf' : hb (S 5 0 ||| bitI t) t' = false := hf
    rw [hb_or, Bool.or_eq_false_iff, hb_bitI (by omega) (by omega)] at hf'
    have e : ¬ t' = t := fun e => by
      rw [e] at hf'
      simp at hf'
    rw [up_n e]
    exact h.2.2.2.2.2.2 t' ht' hf'.1
theorem act_ok {td : Nat → Int32} {S : Nat → Nat → Int32} {k s x : Int32} (hR : RNG td) (h : NOK td S) : NOK td (actS td k s x S).2 := by
  have base : NOK td (smk (S 0) (S 1) (S 2) (S 3) (S 4) (S 5 0) (S 5 1) (S 5 2)) := h
  have h1 : iv 0 6 (td 1) := hR 1 (by omega)
  have h0 : iv 0 9 (td 0) := hR 0 (by omega)
  unfold actS act
  by_cases hs : ¬ (0 ≤ s ∧ s < td 1)
  · rw [if_pos hs]; exact base
  rw [if_neg hs]
  obtain ⟨s', hs', es⟩ := lt_nI (m := 6) h1 (Decidable.not_not.mp hs)
  subst es
  rw [cN_nI (by omega)]
  by_cases k0 : k = 0
  · rw [if_pos k0]
    by_cases hm : mayR td (S 0) (S 1) (S 5 0) s' x false = true
    · rw [if_pos hm]
      obtain ⟨t, ht5, ex⟩ := mayR_x hm
      subst ex
      rw [cN_nI (by omega)]
      exact NOK_snd hR h hs' ht5
    · rw [if_neg hm]; exact base
  rw [if_neg k0]
  by_cases k1 : k = 1 ∨ k = 2
  · rw [if_pos k1]
    by_cases hm : mayR td (S 0) (S 1) (S 5 0) s' x true = true
    · rw [if_pos hm]
      obtain ⟨t, ht5, ex⟩ := mayR_x hm
      subst ex
      rw [cN_nI (by omega)]
      exact NOK_snd hR h hs' ht5
    · rw [if_neg hm]; exact base
  rw [if_neg k1]
  by_cases k3 : k = 3
  · rw [if_pos k3]
    by_cases hm : mayW td (S 0) (S 2) (S 3) s' x = true
    · rw [if_pos hm]
      unfold mayW at hm
      simp only [Bool.and_eq_true, decide_eq_true_eq] at hm
      have hx := hm.1.1.1.1
      obtain ⟨y, hy, ex⟩ := lt_nI (m := 9) h0 hx
      refine ⟨fun j hj => ?_, h.2.1, h.2.2.1, h.2.2.2.1, fun j hj hl => ?_, h.2.2.2.2.2⟩
      · show iv 0 8 (upd (S 0) s' x j)
        by_cases e : j = s'
        · rw [e, up_s, ex]; exact iv_ofN (by omega) (by omega) (by omega)
        · rw [up_n e]; exact h.1 j hj
      · show upd (S 0) s' x j < td 0
        by_cases e : j = s'
        · rw [e, up_s]; exact hx.2
        · rw [up_n e]; exact h.2.2.2.2.1 j hj hl
    · rw [if_neg hm]; exact base
  rw [if_neg k3]
  have cl : ∀ v : Int32, v = 0 ∨ v = 1 → NOK td (smk (S 0) (S 1) (upd (S 2) s' v) (S 3) (S 4) (S 5 0) (S 5 1) (S 5 2)) := by
    intro v hv
    refine ⟨h.1, h.2.1, fun j hj => ?_, h.2.2.2⟩
    show upd (S 2) s' v j = 0 ∨ upd (S 2) s' v j = 1
    by_cases e : j = s'
    · rw [e, up_s]; exact hv
    · rw [up_n e]; exact h.2.2.1 j hj
  by_cases k4 : k = 4
  · rw [if_pos k4]
    split
    · exact cl 1 (Or.inr rfl)
    · exact base
  rw [if_neg k4]
  split
  · exact cl 0 (Or.inl rfl)
  · exact base
theorem hgh_ag {td : Nat → Int32} {S' S : Nat → Nat → Int32} {s : Nat} (H : AGs S' S) (hs : s < 6) : hgh td (S' 0) (S' 2) s = hgh td (S 0) (S 2) s := by
  unfold hgh
  rw [(H.1 s hs).1, (H.1 s hs).2.2]
theorem mayR_ag {td : Nat → Int32} {S' S : Nat → Nat → Int32} {s : Nat} {x : Int32} {b : Bool} (H : AGs S' S) (hs : s < 6) : mayR td (S' 0) (S' 1) (S' 5 0) s x b = mayR td (S 0) (S 1) (S 5 0) s x b := by
  unfold mayR
  rw [(H.1 s hs).1, (H.1 s hs).2.1, H.2.2.2.1]
theorem knS_ag {td : Nat → Int32} {S' S : Nat → Nat → Int32} {s t : Nat} (H : AGs S' S) (hs : s < 6) (j : Nat) (hj : j < 6) : knS td (S' 0) (S' 1) s t j = knS td (S 0) (S 1) s t j := by
  unfold knS
  rw [(H.1 s hs).1, (H.1 j hj).1, (H.1 j hj).2.1]
theorem mayR_b {td at_ kn : Nat → Int32} {be : Int32} {s t : Nat} {b : Bool} (ht : t < 5) (h : mayR td at_ kn be s (nI t) b = true) : hb be t = b := by
  unfold mayR at h
  simp only [Bool.and_eq_true, decide_eq_true_eq, beq_iff_eq] at h
  rw [← cN_nI (n := t) (by omega)]
  exact h.1.2
theorem AG_snd {td : Nat → Int32} {S' S : Nat → Nat → Int32} {s t : Nat} {sn' sn : Nat → Int32} {av' av : Int32} (H : AGs S' S) (hs : s < 6) (ht : t < 5) (hsn : ∀ j, j < 9 → sn' j = sn j) (hav : av' = av) : AGs (smk (S' 0) (knS td (S' 0) (S' 1) s t) (S' 2) sn' (upd (S' 4) t (hgh td (S' 0) (S' 2) s)) (S' 5 0 ||| bitI t) (S' 5 1) av') (smk (S 0) (knS td (S 0) (S 1) s t) (S 2) sn (upd (S 4) t (hgh td (S 0) (S 2) s)) (S 5 0 ||| bitI t) (S 5 1) av) := by
  refine ⟨fun j hj => ⟨(H.1 j hj).1, knS_ag H hs j hj, (H.1 j hj).2.2⟩, hsn, fun t' ht' hb' => ?_, ?_, H.2.2.2.2.1, hav⟩
  · show upd (S' 4) t (hgh td (S' 0) (S' 2) s) t' = upd (S 4) t (hgh td (S 0) (S 2) s) t'
    by_cases e : t' = t
    · rw [e, up_s, up_s, hgh_ag H hs]
    · rw [up_n e, up_n e]
      have h2 : hb (S 5 0 ||| bitI t) t' = true := hb'
      rw [hb_or, hb_bitI (by omega) (by omega), de_ne e, Bool.or_false] at h2
      exact H.2.2.1 t' ht' h2
  · show S' 5 0 ||| bitI t = S 5 0 ||| bitI t
    rw [H.2.2.2.1]
theorem mayW_ag {td : Nat → Int32} {S' S : Nat → Nat → Int32} {s : Nat} {x : Int32} (hR : RNG td) (hN : NOK td S) (H : AGs S' S) (hs : s < 6) : mayW td (S' 0) (S' 2) (S' 3) s x = mayW td (S 0) (S 2) (S 3) s x := by
  unfold mayW
  by_cases hx : 0 ≤ x ∧ x < td 0
  · obtain ⟨y, hy, ex⟩ := lt_nI (m := 9) (hR 0 (by omega)) hx
    obtain ⟨a, ea, -, ha8, -⟩ := iv_nI (hN.1 s hs) (by decide)
    rw [(H.1 s hs).1, (H.1 s hs).2.2, ea, ex, cN_nI (by omega), cN_nI (by omega), H.2.1 a (by omega), H.2.1 y hy]
  · rw [decide_eq_false hx]
    simp only [Bool.false_and]
theorem actS_ag {td : Nat → Int32} {S' S : Nat → Nat → Int32} {k s x : Int32} (hR : RNG td) (hN : NOK td S) (H : AGs S' S) : (actS td k s x S').1 = (actS td k s x S).1 ∧ AGs (actS td k s x S').2 (actS td k s x S).2 := by
  have base : AGs (smk (S' 0) (S' 1) (S' 2) (S' 3) (S' 4) (S' 5 0) (S' 5 1) (S' 5 2)) (smk (S 0) (S 1) (S 2) (S 3) (S 4) (S 5 0) (S 5 1) (S 5 2)) := H
  have h1 : iv 0 6 (td 1) := hR 1 (by omega)
  unfold actS act
  by_cases hs : ¬ (0 ≤ s ∧ s < td 1)
  · rw [if_pos hs, if_pos hs]; exact ⟨rfl, base⟩
  rw [if_neg hs, if_neg hs]
  obtain ⟨s', hs', es⟩ := lt_nI (m := 6) h1 (Decidable.not_not.mp hs)
  subst es
  rw [cN_nI (by omega)]
  by_cases k0 : k = 0
  · rw [if_pos k0, if_pos k0, mayR_ag H hs']
    by_cases hm : mayR td (S 0) (S 1) (S 5 0) s' x false = true
    · rw [if_pos hm, if_pos hm]
      obtain ⟨t, ht5, ex⟩ := mayR_x hm
      subst ex
      rw [cN_nI (by omega)]
      exact ⟨rfl, AG_snd H hs' ht5 H.2.1 H.2.2.2.2.2⟩
    · rw [if_neg hm, if_neg hm]; exact ⟨rfl, base⟩
  rw [if_neg k0, if_neg k0]
  by_cases k1 : k = 1 ∨ k = 2
  · rw [if_pos k1, if_pos k1, mayR_ag H hs']
    by_cases hm : mayR td (S 0) (S 1) (S 5 0) s' x true = true
    · rw [if_pos hm, if_pos hm]
      obtain ⟨t, ht5, ex⟩ := mayR_x hm
      subst ex
      rw [cN_nI (by omega)]
      obtain ⟨a, ea, -, ha8, -⟩ := iv_nI (hN.1 s' hs') (by decide)
      have hbt : hb (S 5 0) t = true := mayR_b ht5 hm
      have ew : ∀ w, wrongR td (S' 0) (S' 2) (S' 4) s' t w = wrongR td (S 0) (S 2) (S 4) s' t w := by
        intro w
        unfold wrongR
        rw [hgh_ag H hs', H.2.2.1 t ht5 hbt]
      unfold rais
      rw [ew]
      refine ⟨rfl, AG_snd H hs' ht5 (fun j hj => ?_) (by rw [H.2.2.2.2.2])⟩
      rw [(H.1 s' hs').1, ea, cN_nI (by omega), H.2.1 a (by omega)]
      by_cases e : j = a
      · rw [e, up_s, up_s]
      · rw [up_n e, up_n e]; exact H.2.1 j hj
    · rw [if_neg hm, if_neg hm]; exact ⟨rfl, base⟩
  rw [if_neg k1, if_neg k1]
  by_cases k3 : k = 3
  · rw [if_pos k3, if_pos k3, mayW_ag hR hN H hs']
    by_cases hm : mayW td (S 0) (S 2) (S 3) s' x = true
    · rw [if_pos hm, if_pos hm]
      refine ⟨rfl, fun j hj => ⟨?_, (H.1 j hj).2⟩, H.2.1, H.2.2.1, H.2.2.2.1, ?_, H.2.2.2.2.2⟩
      · show upd (S' 0) s' x j = upd (S 0) s' x j
        by_cases e : j = s'
        · rw [e, up_s, up_s]
        · rw [up_n e, up_n e]; exact (H.1 j hj).1
      · show S' 5 1 + _ = S 5 1 + _
        rw [(H.1 s' hs').1, H.2.2.2.2.1]
    · rw [if_neg hm, if_neg hm]; exact ⟨rfl, base⟩
  rw [if_neg k3, if_neg k3]
  have cl : ∀ v : Int32, AGs (smk (S' 0) (S' 1) (upd (S' 2) s' v) (S' 3) (S' 4) (S' 5 0) (S' 5 1) (S' 5 2)) (smk (S 0) (S 1) (upd (S 2) s' v) (S 3) (S 4) (S 5 0) (S 5 1) (S 5 2)) := by
    intro v
    refine ⟨fun j hj => ⟨(H.1 j hj).1, (H.1 j hj).2.1, ?_⟩, H.2⟩
    show upd (S' 2) s' v j = upd (S 2) s' v j
    by_cases e : j = s'
    · rw [e, up_s, up_s]
    · rw [up_n e, up_n e]; exact (H.1 j hj).2.2
  rw [(H.1 s' hs').1, (H.1 s' hs').2.2]
  by_cases k4 : k = 4
  · rw [if_pos k4, if_pos k4]
    split
    · exact ⟨rfl, cl 1⟩
    · exact ⟨rfl, base⟩
  rw [if_neg k4, if_neg k4]
  split
  · exact ⟨rfl, cl 0⟩
  · exact ⟨rfl, base⟩
/-- an evening from its deed j on, at most m deeds: how many there are, the state behind them -/
def plays (td ev : Nat → Int32) : Nat → Nat → (Nat → Nat → Int32) → Nat × (Nat → Nat → Int32)
  | 0, j, S => (j, S)
  | m + 1, j, S => if (actS td (ev (1 + 3 * j)) (ev (2 + 3 * j)) (ev (3 + 3 * j)) S).1 = true then plays td ev m (j + 1) (actS td (ev (1 + 3 * j)) (ev (2 + 3 * j)) (ev (3 + 3 * j)) S).2 else (j, (actS td (ev (1 + 3 * j)) (ev (2 + 3 * j)) (ev (3 + 3 * j)) S).2)
def S0 (td : Nat → Int32) : Nat → Nat → Int32 := smk (fun j => td (25 + j)) (fun j => td (37 + j)) (fun _ => 0) (fun _ => 0) (fun _ => -1) 0 0 0
theorem S0_ok {td : Nat → Int32} (hR : RNG td) (hL : LOK td) : NOK td (S0 td) := by
  refine ⟨fun j hj => ?_, fun j hj => ?_, fun j hj => Or.inl rfl, iv_lit (l := 0) (h := 31) (x := 0) (by decide), fun j hj hl => hL.1 j hj hl, fun t ht => iv_lit (l := -9) (h := 108) (x := -1) (by decide), fun t ht _ => rfl⟩
  · refine iv_w (hR (25 + j) (by omega)) ?_
    have h2 : j = 0 ∨ j = 1 ∨ j = 2 ∨ j = 3 ∨ j = 4 ∨ j = 5 := by omega
    rcases h2 with rfl | rfl | rfl | rfl | rfl | rfl <;> decide
  · refine iv_w (hR (37 + j) (by omega)) ?_
    have h2 : j = 0 ∨ j = 1 ∨ j = 2 ∨ j = 3 ∨ j = 4 ∨ j = 5 := by omega
    rcases h2 with rfl | rfl | rfl | rfl | rfl | rfl <;> decide
theorem plays_ok {td ev : Nat → Int32} (hR : RNG td) : ∀ m j S, NOK td S → NOK td (plays td ev m j S).2 := by
  intro m
  induction m with
  | zero => intro j S h; exact h
  | succ m ih =>
    intro j S h
    unfold plays
    split
    · exact ih _ _ (act_ok hR h)
    · exact act_ok hR h
theorem plays_le {td ev : Nat → Int32} : ∀ m j S, j ≤ (plays td ev m j S).1 ∧ (plays td ev m j S).1 ≤ j + m := by
  intro m
  induction m with
  | zero => intro j S; exact ⟨Nat.le_refl _, Nat.le_refl _⟩
  | succ m ih =>
    intro j S
    unfold plays
    split
    · have := ih (j + 1) (actS td (ev (1 + 3 * j)) (ev (2 + 3 * j)) (ev (3 + 3 * j)) S).2
      omega
    · exact ⟨Nat.le_refl _, by show j ≤ _; omega⟩
theorem e_playM {M : Nat → Nat → Int32} {k e n : Nat} {at_ kn cl sn lv : Nat → Int32} {be mi av : Int32} {post : NT} (hk : k < 2) (he : e < 2) (hn : n ≤ 40) (hL : mLand (M 5)) (hE : mEve (M 6)) (hO : LOK (tdM M k))
    (hp : ∀ S', AGs S' (plays (tdM M k) (rowM M 1 (nI e)) n 0 (S0 (tdM M k))).2 → nP post (nI (plays (tdM M k) (rowM M 1 (nI e)) n 0 (S0 (tdM M k))).1) S') : q_m_play_0 (M 5) (M 6) (nI k) (tdM M k 0) (tdM M k 1) (nI e) at_ kn cl sn lv be mi av (nI n) post := by
  have hR : RNG (tdM M k) := fun j hj => row_iv hL hk hj
  refine e_beginM hk (fun at1 kn1 cl1 sn1 hI hS => ?_)
  intro P hP
  have loop : ∀ m j (S' S : Nat → Nat → Int32), m = n - j → j ≤ n → NOK (tdM M k) S → AGs S' S → (∀ S2, AGs S2 (plays (tdM M k) (rowM M 1 (nI e)) m j S).2 → nP post (nI (plays (tdM M k) (rowM M 1 (nI e)) m j S).1) S2) → P (nI j) (S' 0) (S' 1) (S' 2) (S' 3) (S' 4) (S' 5 0) (S' 5 1) (S' 5 2) := by
    intro m
    induction m with
    | zero =>
      intro j S' S hm hj hN hA hq
      apply hP
      have e1 : j = n := by omega
      subst e1
      exact pk_le j j (fun _ => hq S' hA) (fun h9 => absurd h9 (by omega))
    | succ m ih =>
      intro j S' S hm hj hN hA hq
      apply hP
      refine pk_le n j (fun h9 => absurd h9 (by omega)) (fun h9 => ?_)
      have g := actS_ag (k := rowM M 1 (nI e) (1 + 3 * j)) (s := rowM M 1 (nI e) (2 + 3 * j)) (x := rowM M 1 (nI e) (3 + 3 * j)) hR hN hA
      have ok := act_ok (k := rowM M 1 (nI e) (1 + 3 * j)) (s := rowM M 1 (nI e) (2 + 3 * j)) (x := rowM M 1 (nI e) (3 + 3 * j)) hR hN
      refine e_doesM hk he (by omega) hL hE (fun i hi => by rw [(hA.1 i hi).1]; exact hN.1 i hi) (fun i hi => by rw [(hA.1 i hi).2.1]; exact hN.2.1 i hi) ?_
      unfold plays at hq
      show nP _ (bI (actS (tdM M k) (rowM M 1 (nI e) (1 + 3 * j)) (rowM M 1 (nI e) (2 + 3 * j)) (rowM M 1 (nI e) (3 + 3 * j)) S').1) (actS (tdM M k) (rowM M 1 (nI e) (1 + 3 * j)) (rowM M 1 (nI e) (2 + 3 * j)) (rowM M 1 (nI e) (3 + 3 * j)) S').2
      rw [g.1]
      by_cases hb1 : (actS (tdM M k) (rowM M 1 (nI e) (1 + 3 * j)) (rowM M 1 (nI e) (2 + 3 * j)) (rowM M 1 (nI e) (3 + 3 * j)) S).1 = true
      · rw [hb1]
        rw [if_pos hb1] at hq
        refine ⟨fun h8 => absurd h8 (by decide), fun _ v ev => ?_⟩
        rw [ev, nI_1]
        exact ih (j + 1) _ _ (by omega) (by omega) ok g.2 hq
      · rw [Bool.not_eq_true] at hb1
        rw [hb1]
        rw [if_neg (by rw [hb1]; decide)] at hq
        exact ⟨fun _ => hq _ g.2, fun h8 => absurd rfl h8⟩
  refine loop n 0 (smk at1 kn1 cl1 sn1 lv 0 0 0) (S0 (tdM M k)) (by omega) (by omega) (S0_ok hR hO) ?_ hp
  exact ⟨hI, hS, fun t ht h9 => absurd (show hb 0 t = true from h9) (by rw [hb_0]; decide), rfl, rfl, rfl⟩
end
