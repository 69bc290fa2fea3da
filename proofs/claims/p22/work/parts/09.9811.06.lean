set_option maxRecDepth 40000 in
set_option maxHeartbeats 4000000 in
theorem IS_lt {E : zE} {q : Nat} {H : Heap}  (h : IS E q  H) : q + 47 ≤ H.size := by
  obtain ⟨a_tape, f_length, f_fault, f_place, a_counts, l0f_huts, l0f_singers, l0f_villages, l0f_dams, l0f_echoes, l0f_deep, l0f_slide, l0a_heights, l0a_ladders, l0a_minutes, l0a_echoFrom, l0a_echoTo, l0a_homes, l0a_talls, l0a_known, l1f_huts, l1f_singers, l1f_villages, l1f_dams, l1f_echoes, l1f_deep, l1f_slide, l1a_heights, l1a_ladders, l1a_minutes, l1a_echoFrom, l1a_echoTo, l1a_homes, l1a_talls, l1a_known, v0f_deeds, v0a_kinds, v0a_firsts, v0a_seconds, v1f_deeds, v1a_kinds, v1a_firsts, v1a_seconds, s0f_facts, s0a_heard, s0a_huts, s0a_minutes, s1f_facts, s1a_heard, s1a_huts, s1a_minutes, c0f_voices, c0f_step, c0a_parts, c0a_heights, c1f_voices, c1f_step, c1a_parts, c1a_heights, h1, h2⟩ := h
  exact Nat.succ_le_of_lt (h2 46 _ rfl).lt
