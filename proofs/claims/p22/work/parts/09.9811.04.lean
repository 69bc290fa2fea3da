set_option maxRecDepth 40000 in
set_option maxHeartbeats 4000000 in
theorem MS_lt {E : zE} {q : Nat} {H : Heap}  (h : MS E q  H) : q + 29 ≤ H.size := by
  obtain ⟨f_code, a_tape, a_size, a_fault, a_faultPlace, a_many, a_lands, a_evenings, a_sights, a_choirs, f_reached, f_length, f_begins, f_sort, f_value, f_word, f_wrongAt, f_laterFault, f_laterPlace, a_told, a_read, f_farHut, f_farSinger, f_good, f_land, f_huts, f_singers, f_evening, a_at, a_knows, a_climbed, a_snow, a_level, f_begun, f_minute, f_avalanches, a_run, a_covers, a_routes, a_longest, a_steep, a_laid, a_far, f_sight, a_runs, f_choir, f_voices, a_rest, a_wins, f_seed, a_other, a_kept, h1, h2⟩ := h
  exact Nat.succ_le_of_lt (h2 28 _ rfl).lt
