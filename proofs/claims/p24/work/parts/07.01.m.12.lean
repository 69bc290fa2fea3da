section
-- m_odds
abbrev rm_m_odds : Room := { frames := 7, cells := 0, slots := 0, locals := 156 }
def q_m_odds_136 (f_code : Int32) (a_many : Nat → Int32) (a_lands : Nat → Int32) (a_evenings : Nat → Int32) (f_land : Int32) (f_huts : Int32) (f_singers : Int32) (f_evening : Int32) (a_at : Nat → Int32) (a_knows : Nat → Int32) (a_climbed : Nat → Int32) (a_snow : Nat → Int32) (a_level : Nat → Int32) (f_begun : Int32) (f_minute : Int32) (f_avalanches : Int32) (x3 : Int32) (x4 : Int32) (x5 : Int64) (x7 : Int64) (x9 : Int32) (post : Int64 → (Int32) → (Int32) → (Int32) → (Int32) → (Int32) → (Nat → Int32) → (Nat → Int32) → (Nat → Int32) → (Nat → Int32) → (Nat → Int32) → (Int32) → (Int32) → (Int32) → Prop) : Prop :=
  ∀ P136 : Int64 → Int64 → Int32 → Prop, (∀ (x5 : Int64) (x7 : Int64) (x9 : Int32), ((f_avalanches ≤ x9 → ((¬ x3 = 0 → (post x7 f_code f_land f_huts f_singers f_evening a_at a_knows a_climbed a_snow a_level f_begun f_minute f_avalanches)) ∧ (x3 = 0 → (post x5 f_code f_land f_huts f_singers f_evening a_at a_knows a_climbed a_snow a_level f_begun f_minute f_avalanches)))) ∧ (¬ f_avalanches ≤ x9 → (q_m_of_0 a_lands f_land (6 : Int32) (fun r_1 => ¬ x4 = 0 ∧ (∀ v_1 : Int64, v_1 = (x5 * (Int32.toInt64 (r_1 / x4))) → (¬ x4 = 0 ∧ (∀ v_2 : Int64, v_2 = (x7 * (Int32.toInt64 ((10 : Int32) / x4))) → (∀ v_3 : Int32, v_3 = x9 + (1 : Int32) → (P136 v_1 v_2 v_3))))))))) → P136 x5 x7 x9) → P136 x5 x7 x9
def q_m_odds_125 (f_code : Int32) (a_many : Nat → Int32) (a_lands : Nat → Int32) (a_evenings : Nat → Int32) (f_land : Int32) (f_huts : Int32) (f_singers : Int32) (f_evening : Int32) (a_at : Nat → Int32) (a_knows : Nat → Int32) (a_climbed : Nat → Int32) (a_snow : Nat → Int32) (a_level : Nat → Int32) (f_begun : Int32) (f_minute : Int32) (f_avalanches : Int32) (x3 : Int32) (y0 : Int32) (post : Int64 → (Int32) → (Int32) → (Int32) → (Int32) → (Int32) → (Nat → Int32) → (Nat → Int32) → (Nat → Int32) → (Nat → Int32) → (Nat → Int32) → (Int32) → (Int32) → (Int32) → Prop) : Prop :=
  q_m_odds_136 f_code a_many a_lands a_evenings f_land f_huts f_singers f_evening a_at a_knows a_climbed a_snow a_level f_begun f_minute f_avalanches x3 y0 (1 : Int64) (1 : Int64) (0 : Int32) post
def q_m_odds_90 (f_code : Int32) (a_many : Nat → Int32) (a_lands : Nat → Int32) (a_evenings : Nat → Int32) (f_land : Int32) (f_huts : Int32) (f_singers : Int32) (f_evening : Int32) (a_at : Nat → Int32) (a_knows : Nat → Int32) (a_climbed : Nat → Int32) (a_snow : Nat → Int32) (a_level : Nat → Int32) (f_begun : Int32) (f_minute : Int32) (f_avalanches : Int32) (x3 : Int32) (post : Int64 → (Int32) → (Int32) → (Int32) → (Int32) → (Int32) → (Nat → Int32) → (Nat → Int32) → (Nat → Int32) → (Nat → Int32) → (Nat → Int32) → (Int32) → (Int32) → (Int32) → Prop) : Prop :=
  q_m_odds_125 f_code a_many a_lands a_evenings f_land f_huts f_singers f_evening a_at a_knows a_climbed a_snow a_level f_begun f_minute f_avalanches x3 (10 : Int32) post
def q_m_odds_0 (f_code : Int32) (a_many : Nat → Int32) (a_lands : Nat → Int32) (a_evenings : Nat → Int32) (f_land : Int32) (f_huts : Int32) (f_singers : Int32) (f_evening : Int32) (a_at : Nat → Int32) (a_knows : Nat → Int32) (a_climbed : Nat → Int32) (a_snow : Nat → Int32) (a_level : Nat → Int32) (f_begun : Int32) (f_minute : Int32) (f_avalanches : Int32) (x1 : Int32) (x2 : Int32) (x3 : Int32) (post : Int64 → (Int32) → (Int32) → (Int32) → (Int32) → (Int32) → (Nat → Int32) → (Nat → Int32) → (Nat → Int32) → (Nat → Int32) → (Nat → Int32) → (Int32) → (Int32) → (Int32) → Prop) : Prop :=
  q_m_in_0 x3 (0 : Int32) (2 : Int32) (fun r_1 => (r_1 = 0 → (post (-1 : Int64) (0 : Int32) f_land f_huts f_singers f_evening a_at a_knows a_climbed a_snow a_level f_begun f_minute f_avalanches)) ∧ (¬ r_1 = 0 → (q_m_layAll_0 a_many a_lands f_land f_huts f_singers f_evening x1 x2 (fun r_2 f_land_1 f_huts_1 f_singers_1 f_evening_1 => (¬ r_2 = 0 → (q_m_deeds_0 a_evenings f_evening_1 (fun r_3 => q_m_play_0 a_lands a_evenings f_land_1 f_huts_1 f_singers_1 f_evening_1 a_at a_knows a_climbed a_snow a_level f_begun f_minute f_avalanches r_3 (fun r_4 a_at_1 a_knows_1 a_climbed_1 a_snow_1 a_level_1 f_begun_1 f_minute_1 f_avalanches_1 => (¬ x3 = (2 : Int32) → ((f_avalanches_1 ≤ (18 : Int32) → (q_m_of_0 a_lands f_land_1 (6 : Int32) (fun r_5 => (r_5 = 0 → (q_m_odds_90 (0 : Int32) a_many a_lands a_evenings f_land_1 f_huts_1 f_singers_1 f_evening_1 a_at_1 a_knows_1 a_climbed_1 a_snow_1 a_level_1 f_begun_1 f_minute_1 f_avalanches_1 x3 post)) ∧ (¬ r_5 = 0 → (q_m_of_0 a_lands f_land_1 (6 : Int32) (fun r_6 => (¬ r_6 = (10 : Int32) → (q_m_of_0 a_lands f_land_1 (6 : Int32) (fun r_7 => (¬ r_7 = (5 : Int32) → (q_m_of_0 a_lands f_land_1 (6 : Int32) (fun r_8 => (¬ (r_8 - r_8 / (2 : Int32) * (2 : Int32)) = 0 → (q_m_odds_125 (0 : Int32) a_many a_lands a_evenings f_land_1 f_huts_1 f_singers_1 f_evening_1 a_at_1 a_knows_1 a_climbed_1 a_snow_1 a_level_1 f_begun_1 f_minute_1 f_avalanches_1 x3 (1 : Int32) post)) ∧ ((r_8 - r_8 / (2 : Int32) * (2 : Int32)) = 0 → (q_m_odds_125 (0 : Int32) a_many a_lands a_evenings f_land_1 f_huts_1 f_singers_1 f_evening_1 a_at_1 a_knows_1 a_climbed_1 a_snow_1 a_level_1 f_begun_1 f_minute_1 f_avalanches_1 x3 (2 : Int32) post))))) ∧ (r_7 = (5 : Int32) → (q_m_odds_125 (0 : Int32) a_many a_lands a_evenings f_land_1 f_huts_1 f_singers_1 f_evening_1 a_at_1 a_knows_1 a_climbed_1 a_snow_1 a_level_1 f_begun_1 f_minute_1 f_avalanches_1 x3 (5 : Int32) post))))) ∧ (r_6 = (10 : Int32) → (q_m_odds_90 (0 : Int32) a_many a_lands a_evenings f_land_1 f_huts_1 f_singers_1 f_evening_1 a_at_1 a_knows_1 a_climbed_1 a_snow_1 a_level_1 f_begun_1 f_minute_1 f_avalanches_1 x3 post)))))))) ∧ (¬ f_avalanches_1 ≤ (18 : Int32) → (post (-1 : Int64) (0 : Int32) f_land_1 f_huts_1 f_singers_1 f_evening_1 a_at_1 a_knows_1 a_climbed_1 a_snow_1 a_level_1 f_begun_1 f_minute_1 f_avalanches_1)))) ∧ (x3 = (2 : Int32) → (q_m_of_0 a_lands f_land_1 (6 : Int32) (fun r_9 => post (Int32.toInt64 (f_avalanches_1 * ((10 : Int32) - r_9))) (0 : Int32) f_land_1 f_huts_1 f_singers_1 f_evening_1 a_at_1 a_knows_1 a_climbed_1 a_snow_1 a_level_1 f_begun_1 f_minute_1 f_avalanches_1))))))) ∧ (r_2 = 0 → (post (-1 : Int64) (0 : Int32) f_land_1 f_huts_1 f_singers_1 f_evening_1 a_at a_knows a_climbed a_snow a_level f_begun f_minute f_avalanches))))))
set_option maxRecDepth 20000 in
theorem t_m_odds_136 {p : Program} {l : Launch} {e : Env} {s : State} {m : MethodId} {args : Array Value} {below : List Frame} {meth : Method} {c : Code} {E : zE} {q : Nat} {f_code : Int32} {a_tape : Nat → Int32} {a_size : Nat → Int32} {a_fault : Nat → Int32} {a_faultPlace : Nat → Int32} {a_many : Nat → Int32} {a_lands : Nat → Int32} {a_evenings : Nat → Int32} {a_sights : Nat → Int32} {a_choirs : Nat → Int32} {f_reached : Int32} {f_length : Int32} {f_begins : Int32} {f_sort : Int32} {f_value : Int32} {f_word : Int64} {f_wrongAt : Int32} {f_laterFault : Int32} {f_laterPlace : Int32} {a_told : Nat → Int32} {a_read : Nat → Int32} {f_farHut : Int32} {f_farSinger : Int32} {f_good : Int32} {f_land : Int32} {f_huts : Int32} {f_singers : Int32} {f_evening : Int32} {a_at : Nat → Int32} {a_knows : Nat → Int32} {a_climbed : Nat → Int32} {a_snow : Nat → Int32} {a_level : Nat → Int32} {f_begun : Int32} {f_minute : Int32} {f_avalanches : Int32} {a_run : Nat → Int32} {a_covers : Nat → Int32} {a_routes : Nat → Int32} {a_longest : Nat → Int32} {a_steep : Nat → Int32} {a_laid : Nat → Int32} {a_far : Nat → Int32} {f_sight : Int32} {a_runs : Nat → Int32} {f_choir : Int32} {f_voices : Int32} {a_rest : Nat → Int64} {a_wins : Nat → Int32} {f_seed : Int32} {a_other : Nat → Int32} {a_kept : Nat → Int32} {post : Int64 → (Int32) → (Int32) → (Int32) → (Int32) → (Int32) → (Nat → Int32) → (Nat → Int32) → (Nat → Int32) → (Nat → Int32) → (Nat → Int32) → (Int32) → (Int32) → (Int32) → Prop} {x3 : Int32} {x4 : Int32} {x5 : Int64} {x7 : Int64} {x9 : Int32} {ls : Array Slot} {H : Heap} {locs : List Loc}
    (zc : zC p s m args meth c cX11_odds 10 RX11 (some .long))
    (hK : zK E s)
    (hM : mW E q f_code a_tape a_size a_fault a_faultPlace a_many a_lands a_evenings a_sights a_choirs f_reached f_length f_begins f_sort f_value f_word f_wrongAt f_laterFault f_laterPlace a_told a_read f_farHut f_farSinger f_good f_land f_huts f_singers f_evening a_at a_knows a_climbed a_snow a_level f_begun f_minute f_avalanches a_run a_covers a_routes a_longest a_steep a_laid a_far f_sight a_runs f_choir f_voices a_rest a_wins f_seed a_other a_kept H)
    (hS : va_S (mA q) s.heap H locs)
    (hl : lv_has ls 10 [(0, .ref q), (3, .int x3), (4, .int x4), (5, .long x5), (7, .long x7), (9, .int x9)])
    (hw : q_m_odds_136 f_code a_many a_lands a_evenings f_land f_huts f_singers f_evening a_at a_knows a_climbed a_snow a_level f_begun f_minute f_avalanches x3 x4 x5 x7 x9 post) :
    W p l e rm_m_odds s m args below meth c H locs 0 0 (MQ below (zQl (S := (Int32) × (Int32) × (Int32) × (Int32) × (Int32) × (Nat → Int32) × (Nat → Int32) × (Nat → Int32) × (Nat → Int32) × (Nat → Int32) × (Int32) × (Int32) × (Int32)) (fun r u => post r u.1 u.2.1 u.2.2.1 u.2.2.2.1 u.2.2.2.2.1 u.2.2.2.2.2.1 u.2.2.2.2.2.2.1 u.2.2.2.2.2.2.2.1 u.2.2.2.2.2.2.2.2.1 u.2.2.2.2.2.2.2.2.2.1 u.2.2.2.2.2.2.2.2.2.2.1 u.2.2.2.2.2.2.2.2.2.2.2.1 u.2.2.2.2.2.2.2.2.2.2.2.2) (fun u H => mW E q u.1 a_tape a_size a_fault a_faultPlace a_many a_lands a_evenings a_sights a_choirs f_reached f_length f_begins f_sort f_value f_word f_wrongAt f_laterFault f_laterPlace a_told a_read f_farHut f_farSinger f_good u.2.1 u.2.2.1 u.2.2.2.1 u.2.2.2.2.1 u.2.2.2.2.2.1 u.2.2.2.2.2.2.1 u.2.2.2.2.2.2.2.1 u.2.2.2.2.2.2.2.2.1 u.2.2.2.2.2.2.2.2.2.1 u.2.2.2.2.2.2.2.2.2.2.1 u.2.2.2.2.2.2.2.2.2.2.2.1 u.2.2.2.2.2.2.2.2.2.2.2.2 a_run a_covers a_routes a_longest a_steep a_laid a_far f_sight a_runs f_choir f_voices a_rest a_wins f_seed a_other a_kept H) (mA q)) args s 0 0 (mA q)) (F0 m 136 ls []) := by
  have hx := zc.1
  have hb := zc.2.1
  refine hw (fun x5 x7 x9 => ∀ (H : Heap) (locs : List Loc) (ls : Array Slot), lv_has ls 10 [(0, .ref q), (3, .int x3), (4, .int x4), (5, .long x5), (7, .long x7), (9, .int x9)] → mW E q f_code a_tape a_size a_fault a_faultPlace a_many a_lands a_evenings a_sights a_choirs f_reached f_length f_begins f_sort f_value f_word f_wrongAt f_laterFault f_laterPlace a_told a_read f_farHut f_farSinger f_good f_land f_huts f_singers f_evening a_at a_knows a_climbed a_snow a_level f_begun f_minute f_avalanches a_run a_covers a_routes a_longest a_steep a_laid a_far f_sight a_runs f_choir f_voices a_rest a_wins f_seed a_other a_kept H → va_S (mA q) s.heap H locs → W p l e rm_m_odds s m args below meth c H locs 0 0 (MQ below (zQl (S := (Int32) × (Int32) × (Int32) × (Int32) × (Int32) × (Nat → Int32) × (Nat → Int32) × (Nat → Int32) × (Nat → Int32) × (Nat → Int32) × (Int32) × (Int32) × (Int32)) (fun r u => post r u.1 u.2.1 u.2.2.1 u.2.2.2.1 u.2.2.2.2.1 u.2.2.2.2.2.1 u.2.2.2.2.2.2.1 u.2.2.2.2.2.2.2.1 u.2.2.2.2.2.2.2.2.1 u.2.2.2.2.2.2.2.2.2.1 u.2.2.2.2.2.2.2.2.2.2.1 u.2.2.2.2.2.2.2.2.2.2.2.1 u.2.2.2.2.2.2.2.2.2.2.2.2) (fun u H => mW E q u.1 a_tape a_size a_fault a_faultPlace a_many a_lands a_evenings a_sights a_choirs f_reached f_length f_begins f_sort f_value f_word f_wrongAt f_laterFault f_laterPlace a_told a_read f_farHut f_farSinger f_good u.2.1 u.2.2.1 u.2.2.2.1 u.2.2.2.2.1 u.2.2.2.2.2.1 u.2.2.2.2.2.2.1 u.2.2.2.2.2.2.2.1 u.2.2.2.2.2.2.2.2.1 u.2.2.2.2.2.2.2.2.2.1 u.2.2.2.2.2.2.2.2.2.2.1 u.2.2.2.2.2.2.2.2.2.2.2.1 u.2.2.2.2.2.2.2.2.2.2.2.2 a_run a_covers a_routes a_longest a_steep a_laid a_far f_sight a_runs f_choir f_voices a_rest a_wins f_seed a_other a_kept H) (mA q)) args s 0 0 (mA q)) (F0 m 136 ls [])) ?_ _ _ _ hl hM hS
  intro x5 x7 x9 hw H locs ls hl hM hS
  refine lv_iload hx hb dX11_odds_136 (lv_at hl 5 rfl) ?_
  refine lv_aload_n hx hb dX11_odds_138 rfl (lv_at hl 0 rfl) ?_
  refine mg_11_346_0 zc hK hM dX11_odds_139 ?_
  refine lv_icmp_ge (tgt := 177) hx hb dX11_odds_142 (by decide) (fun hc => ?_) (fun hc => ?_)
  · have hw := hw.1 hc
    refine lv_iload_n hx hb dX11_odds_177 rfl (lv_at hl 1 rfl) ?_
    refine lv_if_ne (tgt := 186) hx hb dX11_odds_178 (by decide) (fun hc => ?_) (fun hc => ?_)
    · have hw := hw.1 hc
      refine lv_lload hx hb dX11_odds_186 (lv_at hl 4 rfl) ?_
      exact zret_lw ⟨f_code, f_land, f_huts, f_singers, f_evening, a_at, a_knows, a_climbed, a_snow, a_level, f_begun, f_minute, f_avalanches⟩ zc hS hw hM dX11_odds_188
    · have hw := hw.2 hc
      refine lv_lload hx hb dX11_odds_181 (lv_at hl 3 rfl) ?_
      refine lv_goto (tgt := 188) hx hb dX11_odds_183 (by decide) ?_
      exact zret_lw ⟨f_code, f_land, f_huts, f_singers, f_evening, a_at, a_knows, a_climbed, a_snow, a_level, f_begun, f_minute, f_avalanches⟩ zc hS hw hM dX11_odds_188
  · have hw := hw.2 hc
    refine lv_lload hx hb dX11_odds_145 (lv_at hl 3 rfl) ?_
    refine lv_aload_n hx hb dX11_odds_147 rfl (lv_at hl 0 rfl) ?_
    refine lv_bipush (v := (6 : Int32)) hx hb dX11_odds_148 (by decide) ?_
    refine zV_i [.int (6 : Int32)] [.long x5] zc ky_X11_of kz_X11_of km_11_303 (c_m_of l hw) (mPreV0 hK hM) rfl rfl hl.1 (Nat.le_of_ble_eq_true rfl) ⟨rfl, rfl⟩ ⟨Nat.le_of_ble_eq_true rfl, Nat.le_of_ble_eq_true rfl⟩ ⟨(Nat.zero_le _), (Nat.zero_le _)⟩ dX11_odds_150 (fun r_1 hw => ?_)
    refine lv_iload hx hb dX11_odds_153 (lv_at hl 2 rfl) ?_
    refine lv_idiv hx hb dX11_odds_155 hw.1 ?_
    have hw := hw.2
    refine lv_i2l hx hb dX11_odds_156 rfl ?_
    refine lv_lmul hx hb dX11_odds_157 ?_
    refine lv_topl (fun v_1 ev_1 => ?_)
    have hw := hw v_1 ev_1
    refine lv_lstore (lv' := [(5, .long v_1), (0, .ref q), (3, .int x3), (4, .int x4), (7, .long x7), (9, .int x9)]) hx hb dX11_odds_158 hl (by decide) rfl (fun ls hl => ?_)
    refine lv_lload hx hb dX11_odds_160 (lv_at hl 4 rfl) ?_
    refine lv_bipush (v := (10 : Int32)) hx hb dX11_odds_162 (by decide) ?_
    refine lv_iload hx hb dX11_odds_164 (lv_at hl 3 rfl) ?_
    refine lv_idiv hx hb dX11_odds_166 hw.1 ?_
    have hw := hw.2
    refine lv_i2l hx hb dX11_odds_167 rfl ?_
    refine lv_lmul hx hb dX11_odds_168 ?_
    refine lv_topl (fun v_2 ev_2 => ?_)
    have hw := hw v_2 ev_2
    refine lv_lstore (lv' := [(7, .long v_2), (5, .long v_1), (0, .ref q), (3, .int x3), (4, .int x4), (9, .int x9)]) hx hb dX11_odds_169 hl (by decide) rfl (fun ls hl => ?_)
    obtain ⟨v_3, ev_3⟩ : ∃ y : Int32, y = x9 + (1 : Int32) := ⟨_, rfl⟩
    have hw := hw v_3 ev_3
    refine lv_iinc (v := v_3) (k := 5) (lv' := [(9, .int v_3), (7, .long v_2), (5, .long v_1), (0, .ref q), (3, .int x3), (4, .int x4)]) hx hb dX11_odds_171 hl rfl (by rw [ev_3]; rfl) (by decide) rfl (fun ls hl => ?_)
    refine lv_goto (tgt := 136) hx hb dX11_odds_174 (by decide) ?_
    exact hw _ _ _ (lv_sub hl [3, 4, 5, 2, 1, 0] rfl) hM hS
set_option maxRecDepth 20000 in
theorem t_m_odds_125 {p : Program} {l : Launch} {e : Env} {s : State} {m : MethodId} {args : Array Value} {below : List Frame} {meth : Method} {c : Code} {E : zE} {q : Nat} {f_code : Int32} {a_tape : Nat → Int32} {a_size : Nat → Int32} {a_fault : Nat → Int32} {a_faultPlace : Nat → Int32} {a_many : Nat → Int32} {a_lands : Nat → Int32} {a_evenings : Nat → Int32} {a_sights : Nat → Int32} {a_choirs : Nat → Int32} {f_reached : Int32} {f_length : Int32} {f_begins : Int32} {f_sort : Int32} {f_value : Int32} {f_word : Int64} {f_wrongAt : Int32} {f_laterFault : Int32} {f_laterPlace : Int32} {a_told : Nat → Int32} {a_read : Nat → Int32} {f_farHut : Int32} {f_farSinger : Int32} {f_good : Int32} {f_land : Int32} {f_huts : Int32} {f_singers : Int32} {f_evening : Int32} {a_at : Nat → Int32} {a_knows : Nat → Int32} {a_climbed : Nat → Int32} {a_snow : Nat → Int32} {a_level : Nat → Int32} {f_begun : Int32} {f_minute : Int32} {f_avalanches : Int32} {a_run : Nat → Int32} {a_covers : Nat → Int32} {a_routes : Nat → Int32} {a_longest : Nat → Int32} {a_steep : Nat → Int32} {a_laid : Nat → Int32} {a_far : Nat → Int32} {f_sight : Int32} {a_runs : Nat → Int32} {f_choir : Int32} {f_voices : Int32} {a_rest : Nat → Int64} {a_wins : Nat → Int32} {f_seed : Int32} {a_other : Nat → Int32} {a_kept : Nat → Int32} {post : Int64 → (Int32) → (Int32) → (Int32) → (Int32) → (Int32) → (Nat → Int32) → (Nat → Int32) → (Nat → Int32) → (Nat → Int32) → (Nat → Int32) → (Int32) → (Int32) → (Int32) → Prop} {x3 : Int32} {y0 : Int32} {ls : Array Slot} {H : Heap} {locs : List Loc}
    (zc : zC p s m args meth c cX11_odds 10 RX11 (some .long))
    (hK : zK E s)
    (hM : mW E q f_code a_tape a_size a_fault a_faultPlace a_many a_lands a_evenings a_sights a_choirs f_reached f_length f_begins f_sort f_value f_word f_wrongAt f_laterFault f_laterPlace a_told a_read f_farHut f_farSinger f_good f_land f_huts f_singers f_evening a_at a_knows a_climbed a_snow a_level f_begun f_minute f_avalanches a_run a_covers a_routes a_longest a_steep a_laid a_far f_sight a_runs f_choir f_voices a_rest a_wins f_seed a_other a_kept H)
    (hS : va_S (mA q) s.heap H locs)
    (hl : lv_has ls 10 [(0, .ref q), (3, .int x3)])
    (hw : q_m_odds_125 f_code a_many a_lands a_evenings f_land f_huts f_singers f_evening a_at a_knows a_climbed a_snow a_level f_begun f_minute f_avalanches x3 y0 post) :
    W p l e rm_m_odds s m args below meth c H locs 0 0 (MQ below (zQl (S := (Int32) × (Int32) × (Int32) × (Int32) × (Int32) × (Nat → Int32) × (Nat → Int32) × (Nat → Int32) × (Nat → Int32) × (Nat → Int32) × (Int32) × (Int32) × (Int32)) (fun r u => post r u.1 u.2.1 u.2.2.1 u.2.2.2.1 u.2.2.2.2.1 u.2.2.2.2.2.1 u.2.2.2.2.2.2.1 u.2.2.2.2.2.2.2.1 u.2.2.2.2.2.2.2.2.1 u.2.2.2.2.2.2.2.2.2.1 u.2.2.2.2.2.2.2.2.2.2.1 u.2.2.2.2.2.2.2.2.2.2.2.1 u.2.2.2.2.2.2.2.2.2.2.2.2) (fun u H => mW E q u.1 a_tape a_size a_fault a_faultPlace a_many a_lands a_evenings a_sights a_choirs f_reached f_length f_begins f_sort f_value f_word f_wrongAt f_laterFault f_laterPlace a_told a_read f_farHut f_farSinger f_good u.2.1 u.2.2.1 u.2.2.2.1 u.2.2.2.2.1 u.2.2.2.2.2.1 u.2.2.2.2.2.2.1 u.2.2.2.2.2.2.2.1 u.2.2.2.2.2.2.2.2.1 u.2.2.2.2.2.2.2.2.2.1 u.2.2.2.2.2.2.2.2.2.2.1 u.2.2.2.2.2.2.2.2.2.2.2.1 u.2.2.2.2.2.2.2.2.2.2.2.2 a_run a_covers a_routes a_longest a_steep a_laid a_far f_sight a_runs f_choir f_voices a_rest a_wins f_seed a_other a_kept H) (mA q)) args s 0 0 (mA q)) (F0 m 125 ls [.int y0]) := by
  have hx := zc.1
  have hb := zc.2.1
  refine lv_istore (lv' := [(4, .int y0), (0, .ref q), (3, .int x3)]) hx hb dX11_odds_125 hl (by decide) rfl (fun ls hl => ?_)
  refine lv_lconst (v := (1 : Int64)) hx hb dX11_odds_127 (by decide) ?_
  refine lv_lstore (lv' := [(5, .long (1 : Int64)), (4, .int y0), (0, .ref q), (3, .int x3)]) hx hb dX11_odds_128 hl (by decide) rfl (fun ls hl => ?_)
  refine lv_lconst (v := (1 : Int64)) hx hb dX11_odds_130 (by decide) ?_
  refine lv_lstore (lv' := [(7, .long (1 : Int64)), (5, .long (1 : Int64)), (4, .int y0), (0, .ref q), (3, .int x3)]) hx hb dX11_odds_131 hl (by decide) rfl (fun ls hl => ?_)
  refine lv_iconst (v := (0 : Int32)) hx hb dX11_odds_133 (by decide) ?_
  refine lv_istore (lv' := [(9, .int (0 : Int32)), (7, .long (1 : Int64)), (5, .long (1 : Int64)), (4, .int y0), (0, .ref q), (3, .int x3)]) hx hb dX11_odds_134 hl (by decide) rfl (fun ls hl => ?_)
  exact t_m_odds_136 zc hK hM hS  (lv_sub hl [4, 5, 3, 2, 1, 0] rfl) hw
set_option maxRecDepth 20000 in
theorem t_m_odds_90 {p : Program} {l : Launch} {e : Env} {s : State} {m : MethodId} {args : Array Value} {below : List Frame} {meth : Method} {c : Code} {E : zE} {q : Nat} {f_code : Int32} {a_tape : Nat → Int32} {a_size : Nat → Int32} {a_fault : Nat → Int32} {a_faultPlace : Nat → Int32} {a_many : Nat → Int32} {a_lands : Nat → Int32} {a_evenings : Nat → Int32} {a_sights : Nat → Int32} {a_choirs : Nat → Int32} {f_reached : Int32} {f_length : Int32} {f_begins : Int32} {f_sort : Int32} {f_value : Int32} {f_word : Int64} {f_wrongAt : Int32} {f_laterFault : Int32} {f_laterPlace : Int32} {a_told : Nat → Int32} {a_read : Nat → Int32} {f_farHut : Int32} {f_farSinger : Int32} {f_good : Int32} {f_land : Int32} {f_huts : Int32} {f_singers : Int32} {f_evening : Int32} {a_at : Nat → Int32} {a_knows : Nat → Int32} {a_climbed : Nat → Int32} {a_snow : Nat → Int32} {a_level : Nat → Int32} {f_begun : Int32} {f_minute : Int32} {f_avalanches : Int32} {a_run : Nat → Int32} {a_covers : Nat → Int32} {a_routes : Nat → Int32} {a_longest : Nat → Int32} {a_steep : Nat → Int32} {a_laid : Nat → Int32} {a_far : Nat → Int32} {f_sight : Int32} {a_runs : Nat → Int32} {f_choir : Int32} {f_voices : Int32} {a_rest : Nat → Int64} {a_wins : Nat → Int32} {f_seed : Int32} {a_other : Nat → Int32} {a_kept : Nat → Int32} {post : Int64 → (Int32) → (Int32) → (Int32) → (Int32) → (Int32) → (Nat → Int32) → (Nat → Int32) → (Nat → Int32) → (Nat → Int32) → (Nat → Int32) → (Int32) → (Int32) → (Int32) → Prop} {x3 : Int32} {ls : Array Slot} {H : Heap} {locs : List Loc}
    (zc : zC p s m args meth c cX11_odds 10 RX11 (some .long))
    (hK : zK E s)
    (hM : mW E q f_code a_tape a_size a_fault a_faultPlace a_many a_lands a_evenings a_sights a_choirs f_reached f_length f_begins f_sort f_value f_word f_wrongAt f_laterFault f_laterPlace a_told a_read f_farHut f_farSinger f_good f_land f_huts f_singers f_evening a_at a_knows a_climbed a_snow a_level f_begun f_minute f_avalanches a_run a_covers a_routes a_longest a_steep a_laid a_far f_sight a_runs f_choir f_voices a_rest a_wins f_seed a_other a_kept H)
    (hS : va_S (mA q) s.heap H locs)
    (hl : lv_has ls 10 [(0, .ref q), (3, .int x3)])
    (hw : q_m_odds_90 f_code a_many a_lands a_evenings f_land f_huts f_singers f_evening a_at a_knows a_climbed a_snow a_level f_begun f_minute f_avalanches x3 post) :
    W p l e rm_m_odds s m args below meth c H locs 0 0 (MQ below (zQl (S := (Int32) × (Int32) × (Int32) × (Int32) × (Int32) × (Nat → Int32) × (Nat → Int32) × (Nat → Int32) × (Nat → Int32) × (Nat → Int32) × (Int32) × (Int32) × (Int32)) (fun r u => post r u.1 u.2.1 u.2.2.1 u.2.2.2.1 u.2.2.2.2.1 u.2.2.2.2.2.1 u.2.2.2.2.2.2.1 u.2.2.2.2.2.2.2.1 u.2.2.2.2.2.2.2.2.1 u.2.2.2.2.2.2.2.2.2.1 u.2.2.2.2.2.2.2.2.2.2.1 u.2.2.2.2.2.2.2.2.2.2.2.1 u.2.2.2.2.2.2.2.2.2.2.2.2) (fun u H => mW E q u.1 a_tape a_size a_fault a_faultPlace a_many a_lands a_evenings a_sights a_choirs f_reached f_length f_begins f_sort f_value f_word f_wrongAt f_laterFault f_laterPlace a_told a_read f_farHut f_farSinger f_good u.2.1 u.2.2.1 u.2.2.2.1 u.2.2.2.2.1 u.2.2.2.2.2.1 u.2.2.2.2.2.2.1 u.2.2.2.2.2.2.2.1 u.2.2.2.2.2.2.2.2.1 u.2.2.2.2.2.2.2.2.2.1 u.2.2.2.2.2.2.2.2.2.2.1 u.2.2.2.2.2.2.2.2.2.2.2.1 u.2.2.2.2.2.2.2.2.2.2.2.2 a_run a_covers a_routes a_longest a_steep a_laid a_far f_sight a_runs f_choir f_voices a_rest a_wins f_seed a_other a_kept H) (mA q)) args s 0 0 (mA q)) (F0 m 90 ls []) := by
  have hx := zc.1
  have hb := zc.2.1
  refine lv_bipush (v := (10 : Int32)) hx hb dX11_odds_90 (by decide) ?_
  refine lv_goto (tgt := 125) hx hb dX11_odds_92 (by decide) ?_
  exact t_m_odds_125 zc hK hM hS  (lv_sub hl [0, 1] rfl) hw
set_option maxRecDepth 20000 in
theorem t_m_odds_0 {p : Program} {l : Launch} {e : Env} {s : State} {m : MethodId} {args : Array Value} {below : List Frame} {meth : Method} {c : Code} {E : zE} {q : Nat} {f_code : Int32} {a_tape : Nat → Int32} {a_size : Nat → Int32} {a_fault : Nat → Int32} {a_faultPlace : Nat → Int32} {a_many : Nat → Int32} {a_lands : Nat → Int32} {a_evenings : Nat → Int32} {a_sights : Nat → Int32} {a_choirs : Nat → Int32} {f_reached : Int32} {f_length : Int32} {f_begins : Int32} {f_sort : Int32} {f_value : Int32} {f_word : Int64} {f_wrongAt : Int32} {f_laterFault : Int32} {f_laterPlace : Int32} {a_told : Nat → Int32} {a_read : Nat → Int32} {f_farHut : Int32} {f_farSinger : Int32} {f_good : Int32} {f_land : Int32} {f_huts : Int32} {f_singers : Int32} {f_evening : Int32} {a_at : Nat → Int32} {a_knows : Nat → Int32} {a_climbed : Nat → Int32} {a_snow : Nat → Int32} {a_level : Nat → Int32} {f_begun : Int32} {f_minute : Int32} {f_avalanches : Int32} {a_run : Nat → Int32} {a_covers : Nat → Int32} {a_routes : Nat → Int32} {a_longest : Nat → Int32} {a_steep : Nat → Int32} {a_laid : Nat → Int32} {a_far : Nat → Int32} {f_sight : Int32} {a_runs : Nat → Int32} {f_choir : Int32} {f_voices : Int32} {a_rest : Nat → Int64} {a_wins : Nat → Int32} {f_seed : Int32} {a_other : Nat → Int32} {a_kept : Nat → Int32} {post : Int64 → (Int32) → (Int32) → (Int32) → (Int32) → (Int32) → (Nat → Int32) → (Nat → Int32) → (Nat → Int32) → (Nat → Int32) → (Nat → Int32) → (Int32) → (Int32) → (Int32) → Prop} {x1 : Int32} {x2 : Int32} {x3 : Int32} {ls : Array Slot} {H : Heap} {locs : List Loc}
    (zc : zC p s m args meth c cX11_odds 10 RX11 (some .long))
    (hK : zK E s)
    (hM : mW E q f_code a_tape a_size a_fault a_faultPlace a_many a_lands a_evenings a_sights a_choirs f_reached f_length f_begins f_sort f_value f_word f_wrongAt f_laterFault f_laterPlace a_told a_read f_farHut f_farSinger f_good f_land f_huts f_singers f_evening a_at a_knows a_climbed a_snow a_level f_begun f_minute f_avalanches a_run a_covers a_routes a_longest a_steep a_laid a_far f_sight a_runs f_choir f_voices a_rest a_wins f_seed a_other a_kept H)
    (hS : va_S (mA q) s.heap H locs)
    (hl : lv_has ls 10 [(0, .ref q), (1, .int x1), (2, .int x2), (3, .int x3)])
    (hw : q_m_odds_0 f_code a_many a_lands a_evenings f_land f_huts f_singers f_evening a_at a_knows a_climbed a_snow a_level f_begun f_minute f_avalanches x1 x2 x3 post) :
    W p l e rm_m_odds s m args below meth c H locs 0 0 (MQ below (zQl (S := (Int32) × (Int32) × (Int32) × (Int32) × (Int32) × (Nat → Int32) × (Nat → Int32) × (Nat → Int32) × (Nat → Int32) × (Nat → Int32) × (Int32) × (Int32) × (Int32)) (fun r u => post r u.1 u.2.1 u.2.2.1 u.2.2.2.1 u.2.2.2.2.1 u.2.2.2.2.2.1 u.2.2.2.2.2.2.1 u.2.2.2.2.2.2.2.1 u.2.2.2.2.2.2.2.2.1 u.2.2.2.2.2.2.2.2.2.1 u.2.2.2.2.2.2.2.2.2.2.1 u.2.2.2.2.2.2.2.2.2.2.2.1 u.2.2.2.2.2.2.2.2.2.2.2.2) (fun u H => mW E q u.1 a_tape a_size a_fault a_faultPlace a_many a_lands a_evenings a_sights a_choirs f_reached f_length f_begins f_sort f_value f_word f_wrongAt f_laterFault f_laterPlace a_told a_read f_farHut f_farSinger f_good u.2.1 u.2.2.1 u.2.2.2.1 u.2.2.2.2.1 u.2.2.2.2.2.1 u.2.2.2.2.2.2.1 u.2.2.2.2.2.2.2.1 u.2.2.2.2.2.2.2.2.1 u.2.2.2.2.2.2.2.2.2.1 u.2.2.2.2.2.2.2.2.2.2.1 u.2.2.2.2.2.2.2.2.2.2.2.1 u.2.2.2.2.2.2.2.2.2.2.2.2 a_run a_covers a_routes a_longest a_steep a_laid a_far f_sight a_runs f_choir f_voices a_rest a_wins f_seed a_other a_kept H) (mA q)) args s 0 0 (mA q)) (F0 m 0 ls []) := by
  have hx := zc.1
  have hb := zc.2.1
  refine lv_aload_n hx hb dX11_odds_0 rfl (lv_at hl 0 rfl) ?_
  refine lv_iconst (v := (0 : Int32)) hx hb dX11_odds_1 (by decide) ?_
  refine mp_11_97_0 zc hK hM hS dX11_odds_2 (fun H locs hM hS => ?_)
  refine lv_iload_n hx hb dX11_odds_5 rfl (lv_at hl 3 rfl) ?_
  refine lv_iconst (v := (0 : Int32)) hx hb dX11_odds_6 (by decide) ?_
  refine lv_iconst (v := (2 : Int32)) hx hb dX11_odds_7 (by decide) ?_
  refine zS_i [.int x3, .int (0 : Int32), .int (2 : Int32)] [] zc ky_X11_in kz_X11_in km_11_109 (c_m_in l hw) (zPre0 _) rfl rfl hl.1 (Nat.le_of_ble_eq_true rfl) ⟨rfl, rfl⟩ ⟨Nat.le_of_ble_eq_true rfl, Nat.le_of_ble_eq_true rfl⟩ ⟨(Nat.zero_le _), (Nat.zero_le _)⟩ dX11_odds_8 (fun r_1 hw => ?_)
  refine lv_if_eq (tgt := 23) hx hb dX11_odds_11 (by decide) (fun hc => ?_) (fun hc => ?_)
  · have hw := hw.1 hc
    refine lv_ldc2 (v := (-1 : Int64)) hx hb zc.2.2.2.1 (zc.2.2.2.2.1 _ kc_11_503) dX11_odds_23 ?_
    exact zret_lw ⟨(0 : Int32), f_land, f_huts, f_singers, f_evening, a_at, a_knows, a_climbed, a_snow, a_level, f_begun, f_minute, f_avalanches⟩ zc hS hw hM dX11_odds_26
  · have hw := hw.2 hc
    refine lv_aload_n hx hb dX11_odds_14 rfl (lv_at hl 0 rfl) ?_
    refine lv_iload_n hx hb dX11_odds_15 rfl (lv_at hl 1 rfl) ?_
    refine lv_iload_n hx hb dX11_odds_16 rfl (lv_at hl 2 rfl) ?_
    refine zVw_i [.int x1, .int x2] [] zc ky_X11_layAll kz_X11_layAll km_11_383 (c_m_layAll l hw) (mPreV0 hK hM) hS rfl rfl hl.1 (Nat.le_of_ble_eq_true rfl) ⟨rfl, rfl⟩ ⟨Nat.le_of_ble_eq_true rfl, Nat.le_of_ble_eq_true rfl⟩ ⟨(Nat.zero_le _), (Nat.zero_le _)⟩ dX11_odds_17 (fun r_2 u H locs hw hM hS => ?_)
    obtain ⟨f_land_1, f_huts_1, f_singers_1, f_evening_1⟩ := u
    refine lv_if_ne (tgt := 27) hx hb dX11_odds_20 (by decide) (fun hc => ?_) (fun hc => ?_)
    · have hw := hw.1 hc
      refine lv_aload_n hx hb dX11_odds_27 rfl (lv_at hl 0 rfl) ?_
      refine lv_aload_n hx hb dX11_odds_28 rfl (lv_at hl 0 rfl) ?_
      refine zV_i [] [.ref q] zc ky_X11_deeds kz_X11_deeds km_11_334 (c_m_deeds l hw) (mPreV0 hK hM) rfl rfl hl.1 (Nat.le_of_ble_eq_true rfl) ⟨rfl, rfl⟩ ⟨Nat.le_of_ble_eq_true rfl, Nat.le_of_ble_eq_true rfl⟩ ⟨(Nat.zero_le _), (Nat.zero_le _)⟩ dX11_odds_29 (fun r_3 hw => ?_)
      refine zVw_i [.int r_3] [] zc ky_X11_play kz_X11_play km_11_386 (c_m_play l hw) (mPreV0 hK hM) hS rfl rfl hl.1 (Nat.le_of_ble_eq_true rfl) ⟨rfl, rfl⟩ ⟨Nat.le_of_ble_eq_true rfl, Nat.le_of_ble_eq_true rfl⟩ ⟨(Nat.zero_le _), (Nat.zero_le _)⟩ dX11_odds_32 (fun r_4 u H locs hw hM hS => ?_)
      obtain ⟨a_at_1, a_knows_1, a_climbed_1, a_snow_1, a_level_1, f_begun_1, f_minute_1, f_avalanches_1⟩ := u
      refine lv_pop hx hb dX11_odds_35 rfl ?_
      refine lv_iload_n hx hb dX11_odds_36 rfl (lv_at hl 3 rfl) ?_
      refine lv_iconst (v := (2 : Int32)) hx hb dX11_odds_37 (by decide) ?_
      refine lv_icmp_ne (tgt := 57) hx hb dX11_odds_38 (by decide) (fun hc => ?_) (fun hc => ?_)
      · have hw := hw.1 hc
        refine lv_aload_n hx hb dX11_odds_57 rfl (lv_at hl 0 rfl) ?_
        refine mg_11_346_0 zc hK hM dX11_odds_58 ?_
        refine lv_bipush (v := (18 : Int32)) hx hb dX11_odds_61 (by decide) ?_
        refine lv_icmp_le (tgt := 70) hx hb dX11_odds_63 (by decide) (fun hc => ?_) (fun hc => ?_)
        · have hw := hw.1 hc
          refine lv_aload_n hx hb dX11_odds_70 rfl (lv_at hl 0 rfl) ?_
          refine lv_bipush (v := (6 : Int32)) hx hb dX11_odds_71 (by decide) ?_
          refine zV_i [.int (6 : Int32)] [] zc ky_X11_of kz_X11_of km_11_303 (c_m_of l hw) (mPreV0 hK hM) rfl rfl hl.1 (Nat.le_of_ble_eq_true rfl) ⟨rfl, rfl⟩ ⟨Nat.le_of_ble_eq_true rfl, Nat.le_of_ble_eq_true rfl⟩ ⟨(Nat.zero_le _), (Nat.zero_le _)⟩ dX11_odds_73 (fun r_5 hw => ?_)
          refine lv_if_eq (tgt := 90) hx hb dX11_odds_76 (by decide) (fun hc => ?_) (fun hc => ?_)
          · have hw := hw.1 hc
            exact t_m_odds_90 zc hK hM hS  (lv_sub hl [0, 3] rfl) hw
          · have hw := hw.2 hc
            refine lv_aload_n hx hb dX11_odds_79 rfl (lv_at hl 0 rfl) ?_
            refine lv_bipush (v := (6 : Int32)) hx hb dX11_odds_80 (by decide) ?_
            refine zV_i [.int (6 : Int32)] [] zc ky_X11_of kz_X11_of km_11_303 (c_m_of l hw) (mPreV0 hK hM) rfl rfl hl.1 (Nat.le_of_ble_eq_true rfl) ⟨rfl, rfl⟩ ⟨Nat.le_of_ble_eq_true rfl, Nat.le_of_ble_eq_true rfl⟩ ⟨(Nat.zero_le _), (Nat.zero_le _)⟩ dX11_odds_82 (fun r_6 hw => ?_)
            refine lv_bipush (v := (10 : Int32)) hx hb dX11_odds_85 (by decide) ?_
            refine lv_icmp_ne (tgt := 95) hx hb dX11_odds_87 (by decide) (fun hc => ?_) (fun hc => ?_)
            · have hw := hw.1 hc
              refine lv_aload_n hx hb dX11_odds_95 rfl (lv_at hl 0 rfl) ?_
              refine lv_bipush (v := (6 : Int32)) hx hb dX11_odds_96 (by decide) ?_
              refine zV_i [.int (6 : Int32)] [] zc ky_X11_of kz_X11_of km_11_303 (c_m_of l hw) (mPreV0 hK hM) rfl rfl hl.1 (Nat.le_of_ble_eq_true rfl) ⟨rfl, rfl⟩ ⟨Nat.le_of_ble_eq_true rfl, Nat.le_of_ble_eq_true rfl⟩ ⟨(Nat.zero_le _), (Nat.zero_le _)⟩ dX11_odds_98 (fun r_7 hw => ?_)
              refine lv_iconst (v := (5 : Int32)) hx hb dX11_odds_101 (by decide) ?_
              refine lv_icmp_ne (tgt := 109) hx hb dX11_odds_102 (by decide) (fun hc => ?_) (fun hc => ?_)
              · have hw := hw.1 hc
                refine lv_aload_n hx hb dX11_odds_109 rfl (lv_at hl 0 rfl) ?_
                refine lv_bipush (v := (6 : Int32)) hx hb dX11_odds_110 (by decide) ?_
                refine zV_i [.int (6 : Int32)] [] zc ky_X11_of kz_X11_of km_11_303 (c_m_of l hw) (mPreV0 hK hM) rfl rfl hl.1 (Nat.le_of_ble_eq_true rfl) ⟨rfl, rfl⟩ ⟨Nat.le_of_ble_eq_true rfl, Nat.le_of_ble_eq_true rfl⟩ ⟨(Nat.zero_le _), (Nat.zero_le _)⟩ dX11_odds_112 (fun r_8 hw => ?_)
                refine lv_iconst (v := (2 : Int32)) hx hb dX11_odds_115 (by decide) ?_
                refine lv_irem hx hb dX11_odds_116 (by decide) ?_
                refine lv_if_ne (tgt := 124) hx hb dX11_odds_117 (by decide) (fun hc => ?_) (fun hc => ?_)
                · have hw := hw.1 hc
                  refine lv_iconst (v := (1 : Int32)) hx hb dX11_odds_124 (by decide) ?_
                  exact t_m_odds_125 zc hK hM hS  (lv_sub hl [0, 3] rfl) hw
                · have hw := hw.2 hc
                  refine lv_iconst (v := (2 : Int32)) hx hb dX11_odds_120 (by decide) ?_
                  refine lv_goto (tgt := 125) hx hb dX11_odds_121 (by decide) ?_
                  exact t_m_odds_125 zc hK hM hS  (lv_sub hl [0, 3] rfl) hw
              · have hw := hw.2 hc
                refine lv_iconst (v := (5 : Int32)) hx hb dX11_odds_105 (by decide) ?_
                refine lv_goto (tgt := 125) hx hb dX11_odds_106 (by decide) ?_
                exact t_m_odds_125 zc hK hM hS  (lv_sub hl [0, 3] rfl) hw
            · have hw := hw.2 hc
              exact t_m_odds_90 zc hK hM hS  (lv_sub hl [0, 3] rfl) hw
        · have hw := hw.2 hc
          refine lv_ldc2 (v := (-1 : Int64)) hx hb zc.2.2.2.1 (zc.2.2.2.2.1 _ kc_11_503) dX11_odds_66 ?_
          exact zret_lw ⟨(0 : Int32), f_land_1, f_huts_1, f_singers_1, f_evening_1, a_at_1, a_knows_1, a_climbed_1, a_snow_1, a_level_1, f_begun_1, f_minute_1, f_avalanches_1⟩ zc hS hw hM dX11_odds_69
      · have hw := hw.2 hc
        refine lv_aload_n hx hb dX11_odds_41 rfl (lv_at hl 0 rfl) ?_
        refine mg_11_346_0 zc hK hM dX11_odds_42 ?_
        refine lv_bipush (v := (10 : Int32)) hx hb dX11_odds_45 (by decide) ?_
        refine lv_aload_n hx hb dX11_odds_47 rfl (lv_at hl 0 rfl) ?_
        refine lv_bipush (v := (6 : Int32)) hx hb dX11_odds_48 (by decide) ?_
        refine zV_i [.int (6 : Int32)] [.int (10 : Int32), .int f_avalanches_1] zc ky_X11_of kz_X11_of km_11_303 (c_m_of l hw) (mPreV0 hK hM) rfl rfl hl.1 (Nat.le_of_ble_eq_true rfl) ⟨rfl, rfl⟩ ⟨Nat.le_of_ble_eq_true rfl, Nat.le_of_ble_eq_true rfl⟩ ⟨(Nat.zero_le _), (Nat.zero_le _)⟩ dX11_odds_50 (fun r_9 hw => ?_)
        refine lv_isub hx hb dX11_odds_53 ?_
        refine lv_imul hx hb dX11_odds_54 ?_
        refine lv_i2l hx hb dX11_odds_55 rfl ?_
        exact zret_lw ⟨(0 : Int32), f_land_1, f_huts_1, f_singers_1, f_evening_1, a_at_1, a_knows_1, a_climbed_1, a_snow_1, a_level_1, f_begun_1, f_minute_1, f_avalanches_1⟩ zc hS hw hM dX11_odds_56
    · have hw := hw.2 hc
      refine lv_ldc2 (v := (-1 : Int64)) hx hb zc.2.2.2.1 (zc.2.2.2.2.1 _ kc_11_503) dX11_odds_23 ?_
      exact zret_lw ⟨(0 : Int32), f_land_1, f_huts_1, f_singers_1, f_evening_1, a_at, a_knows, a_climbed, a_snow, a_level, f_begun, f_minute, f_avalanches⟩ zc hS hw hM dX11_odds_26
set_option maxRecDepth 20000 in
theorem c_m_odds (l : Launch) {E : zE} {q : Nat} {f_code : Int32} {a_tape : Nat → Int32} {a_size : Nat → Int32} {a_fault : Nat → Int32} {a_faultPlace : Nat → Int32} {a_many : Nat → Int32} {a_lands : Nat → Int32} {a_evenings : Nat → Int32} {a_sights : Nat → Int32} {a_choirs : Nat → Int32} {f_reached : Int32} {f_length : Int32} {f_begins : Int32} {f_sort : Int32} {f_value : Int32} {f_word : Int64} {f_wrongAt : Int32} {f_laterFault : Int32} {f_laterPlace : Int32} {a_told : Nat → Int32} {a_read : Nat → Int32} {f_farHut : Int32} {f_farSinger : Int32} {f_good : Int32} {f_land : Int32} {f_huts : Int32} {f_singers : Int32} {f_evening : Int32} {a_at : Nat → Int32} {a_knows : Nat → Int32} {a_climbed : Nat → Int32} {a_snow : Nat → Int32} {a_level : Nat → Int32} {f_begun : Int32} {f_minute : Int32} {f_avalanches : Int32} {a_run : Nat → Int32} {a_covers : Nat → Int32} {a_routes : Nat → Int32} {a_longest : Nat → Int32} {a_steep : Nat → Int32} {a_laid : Nat → Int32} {a_far : Nat → Int32} {f_sight : Int32} {a_runs : Nat → Int32} {f_choir : Int32} {f_voices : Int32} {a_rest : Nat → Int64} {a_wins : Nat → Int32} {f_seed : Int32} {a_other : Nat → Int32} {a_kept : Nat → Int32} {x1 : Int32} {x2 : Int32} {x3 : Int32} {post : Int64 → (Int32) → (Int32) → (Int32) → (Int32) → (Int32) → (Nat → Int32) → (Nat → Int32) → (Nat → Int32) → (Nat → Int32) → (Nat → Int32) → (Int32) → (Int32) → (Int32) → Prop} (hw : q_m_odds_0 f_code a_many a_lands a_evenings f_land f_huts f_singers f_evening a_at a_knows a_climbed a_snow a_level f_begun f_minute f_avalanches x1 x2 x3 post) : Met l yX11_odds (Cond.code yX11_odds cX11_odds 10 (some .long) :: zb) rm_m_odds (va_Pc [.ref q, .int x1, .int x2, .int x3] (fun U => mW E q f_code a_tape a_size a_fault a_faultPlace a_many a_lands a_evenings a_sights a_choirs f_reached f_length f_begins f_sort f_value f_word f_wrongAt f_laterFault f_laterPlace a_told a_read f_farHut f_farSinger f_good f_land f_huts f_singers f_evening a_at a_knows a_climbed a_snow a_level f_begun f_minute f_avalanches a_run a_covers a_routes a_longest a_steep a_laid a_far f_sight a_runs f_choir f_voices a_rest a_wins f_seed a_other a_kept U.heap ∧ zK E U)) (zQl (S := (Int32) × (Int32) × (Int32) × (Int32) × (Int32) × (Nat → Int32) × (Nat → Int32) × (Nat → Int32) × (Nat → Int32) × (Nat → Int32) × (Int32) × (Int32) × (Int32)) (fun r u => post r u.1 u.2.1 u.2.2.1 u.2.2.2.1 u.2.2.2.2.1 u.2.2.2.2.2.1 u.2.2.2.2.2.2.1 u.2.2.2.2.2.2.2.1 u.2.2.2.2.2.2.2.2.1 u.2.2.2.2.2.2.2.2.2.1 u.2.2.2.2.2.2.2.2.2.2.1 u.2.2.2.2.2.2.2.2.2.2.2.1 u.2.2.2.2.2.2.2.2.2.2.2.2) (fun u H => mW E q u.1 a_tape a_size a_fault a_faultPlace a_many a_lands a_evenings a_sights a_choirs f_reached f_length f_begins f_sort f_value f_word f_wrongAt f_laterFault f_laterPlace a_told a_read f_farHut f_farSinger f_good u.2.1 u.2.2.1 u.2.2.2.1 u.2.2.2.2.1 u.2.2.2.2.2.1 u.2.2.2.2.2.2.1 u.2.2.2.2.2.2.2.1 u.2.2.2.2.2.2.2.2.1 u.2.2.2.2.2.2.2.2.2.1 u.2.2.2.2.2.2.2.2.2.2.1 u.2.2.2.2.2.2.2.2.2.2.2.1 u.2.2.2.2.2.2.2.2.2.2.2.2 a_run a_covers a_routes a_longest a_steep a_laid a_far f_sight a_runs f_choir f_voices a_rest a_wins f_seed a_other a_kept H) (mA q)) 0 0 (mA q) := by
  refine Met.ofW (cc := cX11_odds) (maxL := 10) (ret := (some .long)) (by decide) rfl ?_
  intro p e s m args below meth c s₁ B hml hv
  obtain ⟨rfl, hM, hK⟩ := hv
  have zc := zc_of B hml
  have hl := lv_entry ([.ref q, .int x1, .int x2, .int x3]) (n := 10) (Nat.le_of_ble_eq_true rfl)
  rw [lg_entry_eq]
  generalize (lg_sl ([.ref q, .int x1, .int x2, .int x3]) ++ List.replicate (10 - (lg_sl ([.ref q, .int x1, .int x2, .int x3])).length) Slot.unset).toArray = ls at hl ⊢
  have hl : lv_has ls 10 [(0, .ref q), (1, .int x1), (2, .int x2), (3, .int x3)] := hl
  exact t_m_odds_0 zc hK hM va_S.rf (lv_sub hl [0, 1, 2, 3] rfl) hw
-- m_draw
abbrev rm_m_draw : Room := { frames := 0, cells := 0, slots := 0, locals := 0 }
def q_m_draw_0 (f_seed : Int32) (x1 : Int32) (post : Int32 → (Int32) → Prop) : Prop :=
  ∀ v_1 : Int32, v_1 = ((f_seed * (1103515245 : Int32)) + (12345 : Int32)) → (¬ x1 = 0 ∧ (post ((Int32.toUInt32 v_1 >>> (Int32.toUInt32 (16 : Int32) &&& Int32.toUInt32 31)).toInt32 - (Int32.toUInt32 v_1 >>> (Int32.toUInt32 (16 : Int32) &&& Int32.toUInt32 31)).toInt32 / x1 * x1) v_1))
set_option maxRecDepth 20000 in
theorem t_m_draw_0 {p : Program} {l : Launch} {e : Env} {s : State} {m : MethodId} {args : Array Value} {below : List Frame} {meth : Method} {c : Code} {E : zE} {q : Nat} {f_code : Int32} {a_tape : Nat → Int32} {a_size : Nat → Int32} {a_fault : Nat → Int32} {a_faultPlace : Nat → Int32} {a_many : Nat → Int32} {a_lands : Nat → Int32} {a_evenings : Nat → Int32} {a_sights : Nat → Int32} {a_choirs : Nat → Int32} {f_reached : Int32} {f_length : Int32} {f_begins : Int32} {f_sort : Int32} {f_value : Int32} {f_word : Int64} {f_wrongAt : Int32} {f_laterFault : Int32} {f_laterPlace : Int32} {a_told : Nat → Int32} {a_read : Nat → Int32} {f_farHut : Int32} {f_farSinger : Int32} {f_good : Int32} {f_land : Int32} {f_huts : Int32} {f_singers : Int32} {f_evening : Int32} {a_at : Nat → Int32} {a_knows : Nat → Int32} {a_climbed : Nat → Int32} {a_snow : Nat → Int32} {a_level : Nat → Int32} {f_begun : Int32} {f_minute : Int32} {f_avalanches : Int32} {a_run : Nat → Int32} {a_covers : Nat → Int32} {a_routes : Nat → Int32} {a_longest : Nat → Int32} {a_steep : Nat → Int32} {a_laid : Nat → Int32} {a_far : Nat → Int32} {f_sight : Int32} {a_runs : Nat → Int32} {f_choir : Int32} {f_voices : Int32} {a_rest : Nat → Int64} {a_wins : Nat → Int32} {f_seed : Int32} {a_other : Nat → Int32} {a_kept : Nat → Int32} {post : Int32 → (Int32) → Prop} {x1 : Int32} {ls : Array Slot} {H : Heap} {locs : List Loc}
    (zc : zC p s m args meth c cX11_draw 2 RX11 (some .int))
    (hK : zK E s)
    (hM : mW E q f_code a_tape a_size a_fault a_faultPlace a_many a_lands a_evenings a_sights a_choirs f_reached f_length f_begins f_sort f_value f_word f_wrongAt f_laterFault f_laterPlace a_told a_read f_farHut f_farSinger f_good f_land f_huts f_singers f_evening a_at a_knows a_climbed a_snow a_level f_begun f_minute f_avalanches a_run a_covers a_routes a_longest a_steep a_laid a_far f_sight a_runs f_choir f_voices a_rest a_wins f_seed a_other a_kept H)
    (hS : va_S (mA q) s.heap H locs)
    (hl : lv_has ls 2 [(0, .ref q), (1, .int x1)])
    (hw : q_m_draw_0 f_seed x1 post) :
    W p l e rm_m_draw s m args below meth c H locs 0 0 (MQ below (zQi (S := (Int32)) (fun r u => post r u) (fun u H => mW E q f_code a_tape a_size a_fault a_faultPlace a_many a_lands a_evenings a_sights a_choirs f_reached f_length f_begins f_sort f_value f_word f_wrongAt f_laterFault f_laterPlace a_told a_read f_farHut f_farSinger f_good f_land f_huts f_singers f_evening a_at a_knows a_climbed a_snow a_level f_begun f_minute f_avalanches a_run a_covers a_routes a_longest a_steep a_laid a_far f_sight a_runs f_choir f_voices a_rest a_wins u a_other a_kept H) (mA q)) args s 0 0 (mA q)) (F0 m 0 ls []) := by
  have hx := zc.1
  have hb := zc.2.1
  refine lv_aload_n hx hb dX11_draw_0 rfl (lv_at hl 0 rfl) ?_
  refine lv_aload_n hx hb dX11_draw_1 rfl (lv_at hl 0 rfl) ?_
  refine mg_11_515_0 zc hK hM dX11_draw_2 ?_
  refine lv_ldcw (v := (1103515245 : Int32)) hx hb zc.2.2.2.1 (zc.2.2.2.2.1 _ kc_11_518) dX11_draw_5 ?_
  refine lv_imul hx hb dX11_draw_8 ?_
  refine lv_sipush (v := (12345 : Int32)) hx hb dX11_draw_9 (by decide) ?_
  refine lv_iadd hx hb dX11_draw_12 ?_
  refine lv_topi (fun v_1 ev_1 => ?_)
  have hw := hw v_1 ev_1
  refine mp_11_515_0 zc hK hM hS dX11_draw_13 (fun H locs hM hS => ?_)
  refine lv_aload_n hx hb dX11_draw_16 rfl (lv_at hl 0 rfl) ?_
  refine mg_11_515_0 zc hK hM dX11_draw_17 ?_
  refine lv_bipush (v := (16 : Int32)) hx hb dX11_draw_20 (by decide) ?_
  refine lv_iushr hx hb dX11_draw_22 rfl ?_
  refine lv_iload_n hx hb dX11_draw_23 rfl (lv_at hl 1 rfl) ?_
  refine lv_irem hx hb dX11_draw_24 hw.1 ?_
  have hw := hw.2
  exact zret_iw v_1 zc hS hw hM dX11_draw_25
set_option maxRecDepth 20000 in
theorem c_m_draw (l : Launch) {E : zE} {q : Nat} {f_code : Int32} {a_tape : Nat → Int32} {a_size : Nat → Int32} {a_fault : Nat → Int32} {a_faultPlace : Nat → Int32} {a_many : Nat → Int32} {a_lands : Nat → Int32} {a_evenings : Nat → Int32} {a_sights : Nat → Int32} {a_choirs : Nat → Int32} {f_reached : Int32} {f_length : Int32} {f_begins : Int32} {f_sort : Int32} {f_value : Int32} {f_word : Int64} {f_wrongAt : Int32} {f_laterFault : Int32} {f_laterPlace : Int32} {a_told : Nat → Int32} {a_read : Nat → Int32} {f_farHut : Int32} {f_farSinger : Int32} {f_good : Int32} {f_land : Int32} {f_huts : Int32} {f_singers : Int32} {f_evening : Int32} {a_at : Nat → Int32} {a_knows : Nat → Int32} {a_climbed : Nat → Int32} {a_snow : Nat → Int32} {a_level : Nat → Int32} {f_begun : Int32} {f_minute : Int32} {f_avalanches : Int32} {a_run : Nat → Int32} {a_covers : Nat → Int32} {a_routes : Nat → Int32} {a_longest : Nat → Int32} {a_steep : Nat → Int32} {a_laid : Nat → Int32} {a_far : Nat → Int32} {f_sight : Int32} {a_runs : Nat → Int32} {f_choir : Int32} {f_voices : Int32} {a_rest : Nat → Int64} {a_wins : Nat → Int32} {f_seed : Int32} {a_other : Nat → Int32} {a_kept : Nat → Int32} {x1 : Int32} {post : Int32 → (Int32) → Prop} (hw : q_m_draw_0 f_seed x1 post) : Met l yX11_draw (Cond.code yX11_draw cX11_draw 2 (some .int) :: zb) rm_m_draw (va_Pc [.ref q, .int x1] (fun U => mW E q f_code a_tape a_size a_fault a_faultPlace a_many a_lands a_evenings a_sights a_choirs f_reached f_length f_begins f_sort f_value f_word f_wrongAt f_laterFault f_laterPlace a_told a_read f_farHut f_farSinger f_good f_land f_huts f_singers f_evening a_at a_knows a_climbed a_snow a_level f_begun f_minute f_avalanches a_run a_covers a_routes a_longest a_steep a_laid a_far f_sight a_runs f_choir f_voices a_rest a_wins f_seed a_other a_kept U.heap ∧ zK E U)) (zQi (S := (Int32)) (fun r u => post r u) (fun u H => mW E q f_code a_tape a_size a_fault a_faultPlace a_many a_lands a_evenings a_sights a_choirs f_reached f_length f_begins f_sort f_value f_word f_wrongAt f_laterFault f_laterPlace a_told a_read f_farHut f_farSinger f_good f_land f_huts f_singers f_evening a_at a_knows a_climbed a_snow a_level f_begun f_minute f_avalanches a_run a_covers a_routes a_longest a_steep a_laid a_far f_sight a_runs f_choir f_voices a_rest a_wins u a_other a_kept H) (mA q)) 0 0 (mA q) := by
  refine Met.ofW (cc := cX11_draw) (maxL := 2) (ret := (some .int)) (by decide) rfl ?_
  intro p e s m args below meth c s₁ B hml hv
  obtain ⟨rfl, hM, hK⟩ := hv
  have zc := zc_of B hml
  have hl := lv_entry ([.ref q, .int x1]) (n := 2) (Nat.le_of_ble_eq_true rfl)
  rw [lg_entry_eq]
  generalize (lg_sl ([.ref q, .int x1]) ++ List.replicate (2 - (lg_sl ([.ref q, .int x1])).length) Slot.unset).toArray = ls at hl ⊢
  have hl : lv_has ls 2 [(0, .ref q), (1, .int x1)] := hl
  exact t_m_draw_0 zc hK hM va_S.rf (lv_sub hl [0, 1] rfl) hw
-- m_drawDeed
abbrev rm_m_drawDeed : Room := { frames := 5, cells := 0, slots := 0, locals := 111 }
def q_m_drawDeed_0 (a_lands : Nat → Int32) (f_land : Int32) (f_huts : Int32) (f_singers : Int32) (a_at : Nat → Int32) (a_knows : Nat → Int32) (a_climbed : Nat → Int32) (a_snow : Nat → Int32) (a_level : Nat → Int32) (f_begun : Int32) (f_minute : Int32) (f_avalanches : Int32) (f_seed : Int32) (post : (Nat → Int32) → (Nat → Int32) → (Nat → Int32) → (Nat → Int32) → (Int32) → (Int32) → (Int32) → (Int32) → Prop) : Prop :=
  q_m_draw_0 f_seed f_singers (fun r_1 f_seed_1 => q_m_draw_0 f_seed_1 (8 : Int32) (fun r_2 f_seed_2 => ((3 : Int32) ≤ r_2 → (q_m_draw_0 f_seed_2 (5 : Int32) (fun r_3 f_seed_3 => q_m_mayBegin_0 a_lands f_land a_at a_knows f_begun r_1 r_3 (fun r_4 => (r_4 = 0 → (q_m_maySing_0 a_lands f_land a_at a_knows f_begun r_1 r_3 (fun r_5 => (r_5 = 0 → (post a_at a_knows a_snow a_level f_begun f_minute f_avalanches f_seed_3)) ∧ (¬ r_5 = 0 → (q_m_sings_0 a_lands f_land f_singers a_at a_knows a_climbed a_snow a_level f_begun f_avalanches r_1 r_3 (0 : Int32) (fun a_knows_1 a_snow_1 a_level_1 f_begun_1 f_avalanches_1 => post a_at a_knows_1 a_snow_1 a_level_1 f_begun_1 f_minute f_avalanches_1 f_seed_3)))))) ∧ (¬ r_4 = 0 → (q_m_sounds_0 a_lands f_land f_singers a_at a_knows a_climbed a_level f_begun r_1 r_3 (fun a_knows_2 a_level_2 f_begun_2 => post a_at a_knows_2 a_snow a_level_2 f_begun_2 f_minute f_avalanches f_seed_3))))))) ∧ (¬ (3 : Int32) ≤ r_2 → (q_m_draw_0 f_seed_2 f_huts (fun r_6 f_seed_4 => q_m_walks_0 a_lands f_land f_huts a_at a_climbed a_snow f_minute r_1 r_6 (fun r_7 a_at_1 f_minute_1 => post a_at_1 a_knows a_snow a_level f_begun f_minute_1 f_avalanches f_seed_4))))))
set_option maxRecDepth 20000 in
theorem t_m_drawDeed_0 {p : Program} {l : Launch} {e : Env} {s : State} {m : MethodId} {args : Array Value} {below : List Frame} {meth : Method} {c : Code} {E : zE} {q : Nat} {f_code : Int32} {a_tape : Nat → Int32} {a_size : Nat → Int32} {a_fault : Nat → Int32} {a_faultPlace : Nat → Int32} {a_many : Nat → Int32} {a_lands : Nat → Int32} {a_evenings : Nat → Int32} {a_sights : Nat → Int32} {a_choirs : Nat → Int32} {f_reached : Int32} {f_length : Int32} {f_begins : Int32} {f_sort : Int32} {f_value : Int32} {f_word : Int64} {f_wrongAt : Int32} {f_laterFault : Int32} {f_laterPlace : Int32} {a_told : Nat → Int32} {a_read : Nat → Int32} {f_farHut : Int32} {f_farSinger : Int32} {f_good : Int32} {f_land : Int32} {f_huts : Int32} {f_singers : Int32} {f_evening : Int32} {a_at : Nat → Int32} {a_knows : Nat → Int32} {a_climbed : Nat → Int32} {a_snow : Nat → Int32} {a_level : Nat → Int32} {f_begun : Int32} {f_minute : Int32} {f_avalanches : Int32} {a_run : Nat → Int32} {a_covers : Nat → Int32} {a_routes : Nat → Int32} {a_longest : Nat → Int32} {a_steep : Nat → Int32} {a_laid : Nat → Int32} {a_far : Nat → Int32} {f_sight : Int32} {a_runs : Nat → Int32} {f_choir : Int32} {f_voices : Int32} {a_rest : Nat → Int64} {a_wins : Nat → Int32} {f_seed : Int32} {a_other : Nat → Int32} {a_kept : Nat → Int32} {post : (Nat → Int32) → (Nat → Int32) → (Nat → Int32) → (Nat → Int32) → (Int32) → (Int32) → (Int32) → (Int32) → Prop} {ls : Array Slot} {H : Heap} {locs : List Loc}
    (zc : zC p s m args meth c cX11_drawDeed 3 RX11 none)
    (hK : zK E s)
    (hM : mW E q f_code a_tape a_size a_fault a_faultPlace a_many a_lands a_evenings a_sights a_choirs f_reached f_length f_begins f_sort f_value f_word f_wrongAt f_laterFault f_laterPlace a_told a_read f_farHut f_farSinger f_good f_land f_huts f_singers f_evening a_at a_knows a_climbed a_snow a_level f_begun f_minute f_avalanches a_run a_covers a_routes a_longest a_steep a_laid a_far f_sight a_runs f_choir f_voices a_rest a_wins f_seed a_other a_kept H)
    (hS : va_S (mA q) s.heap H locs)
    (hl : lv_has ls 3 [(0, .ref q)])
    (hw : q_m_drawDeed_0 a_lands f_land f_huts f_singers a_at a_knows a_climbed a_snow a_level f_begun f_minute f_avalanches f_seed post) :
    W p l e rm_m_drawDeed s m args below meth c H locs 0 0 (MQ below (zQv (S := (Nat → Int32) × (Nat → Int32) × (Nat → Int32) × (Nat → Int32) × (Int32) × (Int32) × (Int32) × (Int32)) (fun u => post u.1 u.2.1 u.2.2.1 u.2.2.2.1 u.2.2.2.2.1 u.2.2.2.2.2.1 u.2.2.2.2.2.2.1 u.2.2.2.2.2.2.2) (fun u H => mW E q f_code a_tape a_size a_fault a_faultPlace a_many a_lands a_evenings a_sights a_choirs f_reached f_length f_begins f_sort f_value f_word f_wrongAt f_laterFault f_laterPlace a_told a_read f_farHut f_farSinger f_good f_land f_huts f_singers f_evening u.1 u.2.1 a_climbed u.2.2.1 u.2.2.2.1 u.2.2.2.2.1 u.2.2.2.2.2.1 u.2.2.2.2.2.2.1 a_run a_covers a_routes a_longest a_steep a_laid a_far f_sight a_runs f_choir f_voices a_rest a_wins u.2.2.2.2.2.2.2 a_other a_kept H) (mA q)) args s 0 0 (mA q)) (F0 m 0 ls []) := by
  have hx := zc.1
  have hb := zc.2.1
  refine lv_aload_n hx hb dX11_drawDeed_0 rfl (lv_at hl 0 rfl) ?_
  refine lv_aload_n hx hb dX11_drawDeed_1 rfl (lv_at hl 0 rfl) ?_
  refine mg_11_310_0 zc hK hM dX11_drawDeed_2 ?_
  refine zVw_i [.int f_singers] [] zc ky_X11_draw kz_X11_draw km_11_519 (c_m_draw l hw) (mPreV0 hK hM) hS rfl rfl hl.1 (Nat.le_of_ble_eq_true rfl) ⟨rfl, rfl⟩ ⟨Nat.le_of_ble_eq_true rfl, Nat.le_of_ble_eq_true rfl⟩ ⟨(Nat.zero_le _), (Nat.zero_le _)⟩ dX11_drawDeed_5 (fun r_1 f_seed_1 H locs hw hM hS => ?_)
  refine lv_istore_n (lv' := [(1, .int r_1), (0, .ref q)]) hx hb dX11_drawDeed_8 rfl hl (by decide) rfl (fun ls hl => ?_)
  refine lv_aload_n hx hb dX11_drawDeed_9 rfl (lv_at hl 1 rfl) ?_
  refine lv_bipush (v := (8 : Int32)) hx hb dX11_drawDeed_10 (by decide) ?_
  refine zVw_i [.int (8 : Int32)] [] zc ky_X11_draw kz_X11_draw km_11_519 (c_m_draw l hw) (mPreV0 hK hM) hS rfl rfl hl.1 (Nat.le_of_ble_eq_true rfl) ⟨rfl, rfl⟩ ⟨Nat.le_of_ble_eq_true rfl, Nat.le_of_ble_eq_true rfl⟩ ⟨(Nat.zero_le _), (Nat.zero_le _)⟩ dX11_drawDeed_12 (fun r_2 f_seed_2 H locs hw hM hS => ?_)
  refine lv_iconst (v := (3 : Int32)) hx hb dX11_drawDeed_15 (by decide) ?_
  refine lv_icmp_ge (tgt := 34) hx hb dX11_drawDeed_16 (by decide) (fun hc => ?_) (fun hc => ?_)
  · have hw := hw.1 hc
    refine lv_aload_n hx hb dX11_drawDeed_34 rfl (lv_at hl 1 rfl) ?_
    refine lv_iconst (v := (5 : Int32)) hx hb dX11_drawDeed_35 (by decide) ?_
    refine zVw_i [.int (5 : Int32)] [] zc ky_X11_draw kz_X11_draw km_11_519 (c_m_draw l hw) (mPreV0 hK hM) hS rfl rfl hl.1 (Nat.le_of_ble_eq_true rfl) ⟨rfl, rfl⟩ ⟨Nat.le_of_ble_eq_true rfl, Nat.le_of_ble_eq_true rfl⟩ ⟨(Nat.zero_le _), (Nat.zero_le _)⟩ dX11_drawDeed_36 (fun r_3 f_seed_3 H locs hw hM hS => ?_)
    refine lv_istore_n (lv' := [(2, .int r_3), (1, .int r_1), (0, .ref q)]) hx hb dX11_drawDeed_39 rfl hl (by decide) rfl (fun ls hl => ?_)
    refine lv_aload_n hx hb dX11_drawDeed_40 rfl (lv_at hl 2 rfl) ?_
    refine lv_iload_n hx hb dX11_drawDeed_41 rfl (lv_at hl 1 rfl) ?_
    refine lv_iload_n hx hb dX11_drawDeed_42 rfl (lv_at hl 0 rfl) ?_
    refine zV_i [.int r_1, .int r_3] [] zc ky_X11_mayBegin kz_X11_mayBegin km_11_364 (c_m_mayBegin l hw) (mPreV0 hK hM) rfl rfl hl.1 (Nat.le_of_ble_eq_true rfl) ⟨rfl, rfl⟩ ⟨Nat.le_of_ble_eq_true rfl, Nat.le_of_ble_eq_true rfl⟩ ⟨(Nat.zero_le _), (Nat.zero_le _)⟩ dX11_drawDeed_43 (fun r_4 hw => ?_)
    refine lv_if_eq (tgt := 58) hx hb dX11_drawDeed_46 (by decide) (fun hc => ?_) (fun hc => ?_)
    · have hw := hw.1 hc
      refine lv_aload_n hx hb dX11_drawDeed_58 rfl (lv_at hl 2 rfl) ?_
      refine lv_iload_n hx hb dX11_drawDeed_59 rfl (lv_at hl 1 rfl) ?_
      refine lv_iload_n hx hb dX11_drawDeed_60 rfl (lv_at hl 0 rfl) ?_
      refine zV_i [.int r_1, .int r_3] [] zc ky_X11_maySing kz_X11_maySing km_11_367 (c_m_maySing l hw) (mPreV0 hK hM) rfl rfl hl.1 (Nat.le_of_ble_eq_true rfl) ⟨rfl, rfl⟩ ⟨Nat.le_of_ble_eq_true rfl, Nat.le_of_ble_eq_true rfl⟩ ⟨(Nat.zero_le _), (Nat.zero_le _)⟩ dX11_drawDeed_61 (fun r_5 hw => ?_)
      refine lv_if_eq (tgt := 74) hx hb dX11_drawDeed_64 (by decide) (fun hc => ?_) (fun hc => ?_)
      · have hw := hw.1 hc
        exact zret_vw ⟨a_at, a_knows, a_snow, a_level, f_begun, f_minute, f_avalanches, f_seed_3⟩ zc hS hw hM dX11_drawDeed_74
      · have hw := hw.2 hc
        refine lv_aload_n hx hb dX11_drawDeed_67 rfl (lv_at hl 2 rfl) ?_
        refine lv_iload_n hx hb dX11_drawDeed_68 rfl (lv_at hl 1 rfl) ?_
        refine lv_iload_n hx hb dX11_drawDeed_69 rfl (lv_at hl 0 rfl) ?_
        refine lv_iconst (v := (0 : Int32)) hx hb dX11_drawDeed_70 (by decide) ?_
        refine zVw_v [.int r_1, .int r_3, .int (0 : Int32)] [] zc ky_X11_sings kz_X11_sings km_11_370 (c_m_sings l hw) (mPreV0 hK hM) hS rfl rfl hl.1 (Nat.le_of_ble_eq_true rfl) ⟨rfl, rfl⟩ ⟨Nat.le_of_ble_eq_true rfl, Nat.le_of_ble_eq_true rfl⟩ ⟨(Nat.zero_le _), (Nat.zero_le _)⟩ dX11_drawDeed_71 (fun u H locs hw hM hS => ?_)
        obtain ⟨a_knows_1, a_snow_1, a_level_1, f_begun_1, f_avalanches_1⟩ := u
        exact zret_vw ⟨a_at, a_knows_1, a_snow_1, a_level_1, f_begun_1, f_minute, f_avalanches_1, f_seed_3⟩ zc hS hw hM dX11_drawDeed_74
    · have hw := hw.2 hc
      refine lv_aload_n hx hb dX11_drawDeed_49 rfl (lv_at hl 2 rfl) ?_
      refine lv_iload_n hx hb dX11_drawDeed_50 rfl (lv_at hl 1 rfl) ?_
      refine lv_iload_n hx hb dX11_drawDeed_51 rfl (lv_at hl 0 rfl) ?_
      refine zVw_v [.int r_1, .int r_3] [] zc ky_X11_sounds kz_X11_sounds km_11_358 (c_m_sounds l hw) (mPreV0 hK hM) hS rfl rfl hl.1 (Nat.le_of_ble_eq_true rfl) ⟨rfl, rfl⟩ ⟨Nat.le_of_ble_eq_true rfl, Nat.le_of_ble_eq_true rfl⟩ ⟨(Nat.zero_le _), (Nat.zero_le _)⟩ dX11_drawDeed_52 (fun u H locs hw hM hS => ?_)
      obtain ⟨a_knows_2, a_level_2, f_begun_2⟩ := u
      refine lv_goto (tgt := 74) hx hb dX11_drawDeed_55 (by decide) ?_
      exact zret_vw ⟨a_at, a_knows_2, a_snow, a_level_2, f_begun_2, f_minute, f_avalanches, f_seed_3⟩ zc hS hw hM dX11_drawDeed_74
  · have hw := hw.2 hc
    refine lv_aload_n hx hb dX11_drawDeed_19 rfl (lv_at hl 1 rfl) ?_
    refine lv_iload_n hx hb dX11_drawDeed_20 rfl (lv_at hl 0 rfl) ?_
    refine lv_aload_n hx hb dX11_drawDeed_21 rfl (lv_at hl 1 rfl) ?_
    refine lv_aload_n hx hb dX11_drawDeed_22 rfl (lv_at hl 1 rfl) ?_
    refine mg_11_307_0 zc hK hM dX11_drawDeed_23 ?_
    refine zVw_i [.int f_huts] [.int r_1, .ref q] zc ky_X11_draw kz_X11_draw km_11_519 (c_m_draw l hw) (mPreV0 hK hM) hS rfl rfl hl.1 (Nat.le_of_ble_eq_true rfl) ⟨rfl, rfl⟩ ⟨Nat.le_of_ble_eq_true rfl, Nat.le_of_ble_eq_true rfl⟩ ⟨(Nat.zero_le _), (Nat.zero_le _)⟩ dX11_drawDeed_26 (fun r_6 f_seed_4 H locs hw hM hS => ?_)
    refine zVw_i [.int r_1, .int r_6] [] zc ky_X11_walks kz_X11_walks km_11_374 (c_m_walks l hw) (mPreV0 hK hM) hS rfl rfl hl.1 (Nat.le_of_ble_eq_true rfl) ⟨rfl, rfl⟩ ⟨Nat.le_of_ble_eq_true rfl, Nat.le_of_ble_eq_true rfl⟩ ⟨(Nat.zero_le _), (Nat.zero_le _)⟩ dX11_drawDeed_29 (fun r_7 u H locs hw hM hS => ?_)
    obtain ⟨a_at_1, f_minute_1⟩ := u
    refine lv_pop hx hb dX11_drawDeed_32 rfl ?_
    exact zret_vw ⟨a_at_1, a_knows, a_snow, a_level, f_begun, f_minute_1, f_avalanches, f_seed_4⟩ zc hS hw hM dX11_drawDeed_33
set_option maxRecDepth 20000 in
theorem c_m_drawDeed (l : Launch) {E : zE} {q : Nat} {f_code : Int32} {a_tape : Nat → Int32} {a_size : Nat → Int32} {a_fault : Nat → Int32} {a_faultPlace : Nat → Int32} {a_many : Nat → Int32} {a_lands : Nat → Int32} {a_evenings : Nat → Int32} {a_sights : Nat → Int32} {a_choirs : Nat → Int32} {f_reached : Int32} {f_length : Int32} {f_begins : Int32} {f_sort : Int32} {f_value : Int32} {f_word : Int64} {f_wrongAt : Int32} {f_laterFault : Int32} {f_laterPlace : Int32} {a_told : Nat → Int32} {a_read : Nat → Int32} {f_farHut : Int32} {f_farSinger : Int32} {f_good : Int32} {f_land : Int32} {f_huts : Int32} {f_singers : Int32} {f_evening : Int32} {a_at : Nat → Int32} {a_knows : Nat → Int32} {a_climbed : Nat → Int32} {a_snow : Nat → Int32} {a_level : Nat → Int32} {f_begun : Int32} {f_minute : Int32} {f_avalanches : Int32} {a_run : Nat → Int32} {a_covers : Nat → Int32} {a_routes : Nat → Int32} {a_longest : Nat → Int32} {a_steep : Nat → Int32} {a_laid : Nat → Int32} {a_far : Nat → Int32} {f_sight : Int32} {a_runs : Nat → Int32} {f_choir : Int32} {f_voices : Int32} {a_rest : Nat → Int64} {a_wins : Nat → Int32} {f_seed : Int32} {a_other : Nat → Int32} {a_kept : Nat → Int32} {post : (Nat → Int32) → (Nat → Int32) → (Nat → Int32) → (Nat → Int32) → (Int32) → (Int32) → (Int32) → (Int32) → Prop} (hw : q_m_drawDeed_0 a_lands f_land f_huts f_singers a_at a_knows a_climbed a_snow a_level f_begun f_minute f_avalanches f_seed post) : Met l yX11_drawDeed (Cond.code yX11_drawDeed cX11_drawDeed 3 none :: zb) rm_m_drawDeed (va_Pc [.ref q] (fun U => mW E q f_code a_tape a_size a_fault a_faultPlace a_many a_lands a_evenings a_sights a_choirs f_reached f_length f_begins f_sort f_value f_word f_wrongAt f_laterFault f_laterPlace a_told a_read f_farHut f_farSinger f_good f_land f_huts f_singers f_evening a_at a_knows a_climbed a_snow a_level f_begun f_minute f_avalanches a_run a_covers a_routes a_longest a_steep a_laid a_far f_sight a_runs f_choir f_voices a_rest a_wins f_seed a_other a_kept U.heap ∧ zK E U)) (zQv (S := (Nat → Int32) × (Nat → Int32) × (Nat → Int32) × (Nat → Int32) × (Int32) × (Int32) × (Int32) × (Int32)) (fun u => post u.1 u.2.1 u.2.2.1 u.2.2.2.1 u.2.2.2.2.1 u.2.2.2.2.2.1 u.2.2.2.2.2.2.1 u.2.2.2.2.2.2.2) (fun u H => mW E q f_code a_tape a_size a_fault a_faultPlace a_many a_lands a_evenings a_sights a_choirs f_reached f_length f_begins f_sort f_value f_word f_wrongAt f_laterFault f_laterPlace a_told a_read f_farHut f_farSinger f_good f_land f_huts f_singers f_evening u.1 u.2.1 a_climbed u.2.2.1 u.2.2.2.1 u.2.2.2.2.1 u.2.2.2.2.2.1 u.2.2.2.2.2.2.1 a_run a_covers a_routes a_longest a_steep a_laid a_far f_sight a_runs f_choir f_voices a_rest a_wins u.2.2.2.2.2.2.2 a_other a_kept H) (mA q)) 0 0 (mA q) := by
  refine Met.ofW (cc := cX11_drawDeed) (maxL := 3) (ret := none) (by decide) rfl ?_
  intro p e s m args below meth c s₁ B hml hv
  obtain ⟨rfl, hM, hK⟩ := hv
  have zc := zc_of B hml
  have hl := lv_entry ([.ref q]) (n := 3) (Nat.le_of_ble_eq_true rfl)
  rw [lg_entry_eq]
  generalize (lg_sl ([.ref q]) ++ List.replicate (3 - (lg_sl ([.ref q])).length) Slot.unset).toArray = ls at hl ⊢
  have hl : lv_has ls 3 [(0, .ref q)] := hl
  exact t_m_drawDeed_0 zc hK hM va_S.rf (lv_sub hl [0] rfl) hw
-- m_drawn
abbrev rm_m_drawn : Room := { frames := 6, cells := 0, slots := 0, locals := 135 }
def q_m_drawn_46 (f_code : Int32) (a_many : Nat → Int32) (a_lands : Nat → Int32) (f_land : Int32) (f_huts : Int32) (f_singers : Int32) (a_at : Nat → Int32) (a_knows : Nat → Int32) (a_climbed : Nat → Int32) (a_snow : Nat → Int32) (a_level : Nat → Int32) (f_begun : Int32) (f_minute : Int32) (f_avalanches : Int32) (f_seed : Int32) (x3 : Int32) (x4 : Int32) (x5 : Int32) (post : Int32 → (Int32) → (Int32) → (Int32) → (Int32) → (Nat → Int32) → (Nat → Int32) → (Nat → Int32) → (Nat → Int32) → (Nat → Int32) → (Int32) → (Int32) → (Int32) → (Int32) → Prop) : Prop :=
  ∀ P46 : Int32 → (Nat → Int32) → (Nat → Int32) → (Nat → Int32) → (Nat → Int32) → (Int32) → (Int32) → (Int32) → (Int32) → Prop, (∀ (x5 : Int32) (a_at : Nat → Int32) (a_knows : Nat → Int32) (a_snow : Nat → Int32) (a_level : Nat → Int32) (f_begun : Int32) (f_minute : Int32) (f_avalanches : Int32) (f_seed : Int32), ((x3 ≤ x5 → (q_m_ofState_0 a_lands f_land f_huts f_singers a_at a_knows a_climbed a_snow a_level f_begun f_minute f_avalanches x4 (fun r_1 => post r_1 f_code f_land f_huts f_singers a_at a_knows a_climbed a_snow a_level f_begun f_minute f_avalanches f_seed))) ∧ (¬ x3 ≤ x5 → (q_m_drawDeed_0 a_lands f_land f_huts f_singers a_at a_knows a_climbed a_snow a_level f_begun f_minute f_avalanches f_seed (fun a_at_1 a_knows_1 a_snow_1 a_level_1 f_begun_1 f_minute_1 f_avalanches_1 f_seed_1 => ∀ v_1 : Int32, v_1 = x5 + (1 : Int32) → (P46 v_1 a_at_1 a_knows_1 a_snow_1 a_level_1 f_begun_1 f_minute_1 f_avalanches_1 f_seed_1))))) → P46 x5 a_at a_knows a_snow a_level f_begun f_minute f_avalanches f_seed) → P46 x5 a_at a_knows a_snow a_level f_begun f_minute f_avalanches f_seed
def q_m_drawn_0 (f_code : Int32) (a_many : Nat → Int32) (a_lands : Nat → Int32) (f_land : Int32) (f_huts : Int32) (f_singers : Int32) (a_at : Nat → Int32) (a_knows : Nat → Int32) (a_climbed : Nat → Int32) (a_snow : Nat → Int32) (a_level : Nat → Int32) (f_begun : Int32) (f_minute : Int32) (f_avalanches : Int32) (f_seed : Int32) (x1 : Int32) (x2 : Int32) (x3 : Int32) (x4 : Int32) (post : Int32 → (Int32) → (Int32) → (Int32) → (Int32) → (Nat → Int32) → (Nat → Int32) → (Nat → Int32) → (Nat → Int32) → (Nat → Int32) → (Int32) → (Int32) → (Int32) → (Int32) → Prop) : Prop :=
  q_m_in_0 x3 (0 : Int32) (60 : Int32) (fun r_1 => (r_1 = 0 → (post (-1000 : Int32) (0 : Int32) f_land f_huts f_singers a_at a_knows a_climbed a_snow a_level f_begun f_minute f_avalanches f_seed)) ∧ (¬ r_1 = 0 → (q_m_hand_0 a_many a_lands f_land f_huts f_singers x1 (fun r_2 f_land_1 f_huts_1 f_singers_1 => (r_2 = 0 → (post (-1000 : Int32) (0 : Int32) f_land_1 f_huts_1 f_singers_1 a_at a_knows a_climbed a_snow a_level f_begun f_minute f_avalanches f_seed)) ∧ (¬ r_2 = 0 → ((¬ f_singers_1 = 0 → (q_m_begin_0 a_lands f_land_1 a_at a_knows a_climbed a_snow f_begun f_minute f_avalanches (fun a_at_1 a_knows_1 a_climbed_1 a_snow_1 f_begun_1 f_minute_1 f_avalanches_1 => q_m_drawn_46 (0 : Int32) a_many a_lands f_land_1 f_huts_1 f_singers_1 a_at_1 a_knows_1 a_climbed_1 a_snow_1 a_level f_begun_1 f_minute_1 f_avalanches_1 x2 x3 x4 (0 : Int32) post))) ∧ (f_singers_1 = 0 → (post (-1000 : Int32) (0 : Int32) f_land_1 f_huts_1 f_singers_1 a_at a_knows a_climbed a_snow a_level f_begun f_minute f_avalanches f_seed))))))))
set_option maxRecDepth 20000 in
theorem t_m_drawn_46 {p : Program} {l : Launch} {e : Env} {s : State} {m : MethodId} {args : Array Value} {below : List Frame} {meth : Method} {c : Code} {E : zE} {q : Nat} {f_code : Int32} {a_tape : Nat → Int32} {a_size : Nat → Int32} {a_fault : Nat → Int32} {a_faultPlace : Nat → Int32} {a_many : Nat → Int32} {a_lands : Nat → Int32} {a_evenings : Nat → Int32} {a_sights : Nat → Int32} {a_choirs : Nat → Int32} {f_reached : Int32} {f_length : Int32} {f_begins : Int32} {f_sort : Int32} {f_value : Int32} {f_word : Int64} {f_wrongAt : Int32} {f_laterFault : Int32} {f_laterPlace : Int32} {a_told : Nat → Int32} {a_read : Nat → Int32} {f_farHut : Int32} {f_farSinger : Int32} {f_good : Int32} {f_land : Int32} {f_huts : Int32} {f_singers : Int32} {f_evening : Int32} {a_at : Nat → Int32} {a_knows : Nat → Int32} {a_climbed : Nat → Int32} {a_snow : Nat → Int32} {a_level : Nat → Int32} {f_begun : Int32} {f_minute : Int32} {f_avalanches : Int32} {a_run : Nat → Int32} {a_covers : Nat → Int32} {a_routes : Nat → Int32} {a_longest : Nat → Int32} {a_steep : Nat → Int32} {a_laid : Nat → Int32} {a_far : Nat → Int32} {f_sight : Int32} {a_runs : Nat → Int32} {f_choir : Int32} {f_voices : Int32} {a_rest : Nat → Int64} {a_wins : Nat → Int32} {f_seed : Int32} {a_other : Nat → Int32} {a_kept : Nat → Int32} {post : Int32 → (Int32) → (Int32) → (Int32) → (Int32) → (Nat → Int32) → (Nat → Int32) → (Nat → Int32) → (Nat → Int32) → (Nat → Int32) → (Int32) → (Int32) → (Int32) → (Int32) → Prop} {x3 : Int32} {x4 : Int32} {x5 : Int32} {ls : Array Slot} {H : Heap} {locs : List Loc}
    (zc : zC p s m args meth c cX11_drawn 6 RX11 (some .int))
    (hK : zK E s)
    (hM : mW E q f_code a_tape a_size a_fault a_faultPlace a_many a_lands a_evenings a_sights a_choirs f_reached f_length f_begins f_sort f_value f_word f_wrongAt f_laterFault f_laterPlace a_told a_read f_farHut f_farSinger f_good f_land f_huts f_singers f_evening a_at a_knows a_climbed a_snow a_level f_begun f_minute f_avalanches a_run a_covers a_routes a_longest a_steep a_laid a_far f_sight a_runs f_choir f_voices a_rest a_wins f_seed a_other a_kept H)
    (hS : va_S (mA q) s.heap H locs)
    (hl : lv_has ls 6 [(0, .ref q), (3, .int x3), (4, .int x4), (5, .int x5)])
    (hw : q_m_drawn_46 f_code a_many a_lands f_land f_huts f_singers a_at a_knows a_climbed a_snow a_level f_begun f_minute f_avalanches f_seed x3 x4 x5 post) :
    W p l e rm_m_drawn s m args below meth c H locs 0 0 (MQ below (zQi (S := (Int32) × (Int32) × (Int32) × (Int32) × (Nat → Int32) × (Nat → Int32) × (Nat → Int32) × (Nat → Int32) × (Nat → Int32) × (Int32) × (Int32) × (Int32) × (Int32)) (fun r u => post r u.1 u.2.1 u.2.2.1 u.2.2.2.1 u.2.2.2.2.1 u.2.2.2.2.2.1 u.2.2.2.2.2.2.1 u.2.2.2.2.2.2.2.1 u.2.2.2.2.2.2.2.2.1 u.2.2.2.2.2.2.2.2.2.1 u.2.2.2.2.2.2.2.2.2.2.1 u.2.2.2.2.2.2.2.2.2.2.2.1 u.2.2.2.2.2.2.2.2.2.2.2.2) (fun u H => mW E q u.1 a_tape a_size a_fault a_faultPlace a_many a_lands a_evenings a_sights a_choirs f_reached f_length f_begins f_sort f_value f_word f_wrongAt f_laterFault f_laterPlace a_told a_read f_farHut f_farSinger f_good u.2.1 u.2.2.1 u.2.2.2.1 f_evening u.2.2.2.2.1 u.2.2.2.2.2.1 u.2.2.2.2.2.2.1 u.2.2.2.2.2.2.2.1 u.2.2.2.2.2.2.2.2.1 u.2.2.2.2.2.2.2.2.2.1 u.2.2.2.2.2.2.2.2.2.2.1 u.2.2.2.2.2.2.2.2.2.2.2.1 a_run a_covers a_routes a_longest a_steep a_laid a_far f_sight a_runs f_choir f_voices a_rest a_wins u.2.2.2.2.2.2.2.2.2.2.2.2 a_other a_kept H) (mA q)) args s 0 0 (mA q)) (F0 m 46 ls []) := by
  have hx := zc.1
  have hb := zc.2.1
  refine hw (fun x5 a_at a_knows a_snow a_level f_begun f_minute f_avalanches f_seed => ∀ (H : Heap) (locs : List Loc) (ls : Array Slot), lv_has ls 6 [(0, .ref q), (3, .int x3), (4, .int x4), (5, .int x5)] → mW E q f_code a_tape a_size a_fault a_faultPlace a_many a_lands a_evenings a_sights a_choirs f_reached f_length f_begins f_sort f_value f_word f_wrongAt f_laterFault f_laterPlace a_told a_read f_farHut f_farSinger f_good f_land f_huts f_singers f_evening a_at a_knows a_climbed a_snow a_level f_begun f_minute f_avalanches a_run a_covers a_routes a_longest a_steep a_laid a_far f_sight a_runs f_choir f_voices a_rest a_wins f_seed a_other a_kept H → va_S (mA q) s.heap H locs → W p l e rm_m_drawn s m args below meth c H locs 0 0 (MQ below (zQi (S := (Int32) × (Int32) × (Int32) × (Int32) × (Nat → Int32) × (Nat → Int32) × (Nat → Int32) × (Nat → Int32) × (Nat → Int32) × (Int32) × (Int32) × (Int32) × (Int32)) (fun r u => post r u.1 u.2.1 u.2.2.1 u.2.2.2.1 u.2.2.2.2.1 u.2.2.2.2.2.1 u.2.2.2.2.2.2.1 u.2.2.2.2.2.2.2.1 u.2.2.2.2.2.2.2.2.1 u.2.2.2.2.2.2.2.2.2.1 u.2.2.2.2.2.2.2.2.2.2.1 u.2.2.2.2.2.2.2.2.2.2.2.1 u.2.2.2.2.2.2.2.2.2.2.2.2) (fun u H => mW E q u.1 a_tape a_size a_fault a_faultPlace a_many a_lands a_evenings a_sights a_choirs f_reached f_length f_begins f_sort f_value f_word f_wrongAt f_laterFault f_laterPlace a_told a_read f_farHut f_farSinger f_good u.2.1 u.2.2.1 u.2.2.2.1 f_evening u.2.2.2.2.1 u.2.2.2.2.2.1 u.2.2.2.2.2.2.1 u.2.2.2.2.2.2.2.1 u.2.2.2.2.2.2.2.2.1 u.2.2.2.2.2.2.2.2.2.1 u.2.2.2.2.2.2.2.2.2.2.1 u.2.2.2.2.2.2.2.2.2.2.2.1 a_run a_covers a_routes a_longest a_steep a_laid a_far f_sight a_runs f_choir f_voices a_rest a_wins u.2.2.2.2.2.2.2.2.2.2.2.2 a_other a_kept H) (mA q)) args s 0 0 (mA q)) (F0 m 46 ls [])) ?_ _ _ _ hl hM hS
  intro x5 a_at a_knows a_snow a_level f_begun f_minute f_avalanches f_seed hw H locs ls hl hM hS
  refine lv_iload hx hb dX11_drawn_46 (lv_at hl 3 rfl) ?_
  refine lv_iload_n hx hb dX11_drawn_48 rfl (lv_at hl 1 rfl) ?_
  refine lv_icmp_ge (tgt := 62) hx hb dX11_drawn_49 (by decide) (fun hc => ?_) (fun hc => ?_)
  · have hw := hw.1 hc
    refine lv_aload_n hx hb dX11_drawn_62 rfl (lv_at hl 0 rfl) ?_
    refine lv_iload hx hb dX11_drawn_63 (lv_at hl 2 rfl) ?_
    refine zV_i [.int x4] [] zc ky_X11_ofState kz_X11_ofState km_11_407 (c_m_ofState l hw) (mPreV0 hK hM) rfl rfl hl.1 (Nat.le_of_ble_eq_true rfl) ⟨rfl, rfl⟩ ⟨Nat.le_of_ble_eq_true rfl, Nat.le_of_ble_eq_true rfl⟩ ⟨(Nat.zero_le _), (Nat.zero_le _)⟩ dX11_drawn_65 (fun r_1 hw => ?_)
    exact zret_iw ⟨f_code, f_land, f_huts, f_singers, a_at, a_knows, a_climbed, a_snow, a_level, f_begun, f_minute, f_avalanches, f_seed⟩ zc hS hw hM dX11_drawn_68
  · have hw := hw.2 hc
    refine lv_aload_n hx hb dX11_drawn_52 rfl (lv_at hl 0 rfl) ?_
    refine zVw_v [] [] zc ky_X11_drawDeed kz_X11_drawDeed km_11_522 (c_m_drawDeed l hw) (mPreV0 hK hM) hS rfl rfl hl.1 (Nat.le_of_ble_eq_true rfl) ⟨rfl, rfl⟩ ⟨Nat.le_of_ble_eq_true rfl, Nat.le_of_ble_eq_true rfl⟩ ⟨(Nat.zero_le _), (Nat.zero_le _)⟩ dX11_drawn_53 (fun u H locs hw hM hS => ?_)
    obtain ⟨a_at_1, a_knows_1, a_snow_1, a_level_1, f_begun_1, f_minute_1, f_avalanches_1, f_seed_1⟩ := u
    obtain ⟨v_1, ev_1⟩ : ∃ y : Int32, y = x5 + (1 : Int32) := ⟨_, rfl⟩
    have hw := hw v_1 ev_1
    refine lv_iinc (v := v_1) (k := 3) (lv' := [(5, .int v_1), (0, .ref q), (3, .int x3), (4, .int x4)]) hx hb dX11_drawn_56 hl rfl (by rw [ev_1]; rfl) (by decide) rfl (fun ls hl => ?_)
    refine lv_goto (tgt := 46) hx hb dX11_drawn_59 (by decide) ?_
    exact hw _ _ _ (lv_sub hl [1, 2, 3, 0] rfl) hM hS
set_option maxRecDepth 20000 in
theorem t_m_drawn_0 {p : Program} {l : Launch} {e : Env} {s : State} {m : MethodId} {args : Array Value} {below : List Frame} {meth : Method} {c : Code} {E : zE} {q : Nat} {f_code : Int32} {a_tape : Nat → Int32} {a_size : Nat → Int32} {a_fault : Nat → Int32} {a_faultPlace : Nat → Int32} {a_many : Nat → Int32} {a_lands : Nat → Int32} {a_evenings : Nat → Int32} {a_sights : Nat → Int32} {a_choirs : Nat → Int32} {f_reached : Int32} {f_length : Int32} {f_begins : Int32} {f_sort : Int32} {f_value : Int32} {f_word : Int64} {f_wrongAt : Int32} {f_laterFault : Int32} {f_laterPlace : Int32} {a_told : Nat → Int32} {a_read : Nat → Int32} {f_farHut : Int32} {f_farSinger : Int32} {f_good : Int32} {f_land : Int32} {f_huts : Int32} {f_singers : Int32} {f_evening : Int32} {a_at : Nat → Int32} {a_knows : Nat → Int32} {a_climbed : Nat → Int32} {a_snow : Nat → Int32} {a_level : Nat → Int32} {f_begun : Int32} {f_minute : Int32} {f_avalanches : Int32} {a_run : Nat → Int32} {a_covers : Nat → Int32} {a_routes : Nat → Int32} {a_longest : Nat → Int32} {a_steep : Nat → Int32} {a_laid : Nat → Int32} {a_far : Nat → Int32} {f_sight : Int32} {a_runs : Nat → Int32} {f_choir : Int32} {f_voices : Int32} {a_rest : Nat → Int64} {a_wins : Nat → Int32} {f_seed : Int32} {a_other : Nat → Int32} {a_kept : Nat → Int32} {post : Int32 → (Int32) → (Int32) → (Int32) → (Int32) → (Nat → Int32) → (Nat → Int32) → (Nat → Int32) → (Nat → Int32) → (Nat → Int32) → (Int32) → (Int32) → (Int32) → (Int32) → Prop} {x1 : Int32} {x2 : Int32} {x3 : Int32} {x4 : Int32} {ls : Array Slot} {H : Heap} {locs : List Loc}
    (zc : zC p s m args meth c cX11_drawn 6 RX11 (some .int))
    (hK : zK E s)
    (hM : mW E q f_code a_tape a_size a_fault a_faultPlace a_many a_lands a_evenings a_sights a_choirs f_reached f_length f_begins f_sort f_value f_word f_wrongAt f_laterFault f_laterPlace a_told a_read f_farHut f_farSinger f_good f_land f_huts f_singers f_evening a_at a_knows a_climbed a_snow a_level f_begun f_minute f_avalanches a_run a_covers a_routes a_longest a_steep a_laid a_far f_sight a_runs f_choir f_voices a_rest a_wins f_seed a_other a_kept H)
    (hS : va_S (mA q) s.heap H locs)
    (hl : lv_has ls 6 [(0, .ref q), (1, .int x1), (2, .int x2), (3, .int x3), (4, .int x4)])
    (hw : q_m_drawn_0 f_code a_many a_lands f_land f_huts f_singers a_at a_knows a_climbed a_snow a_level f_begun f_minute f_avalanches f_seed x1 x2 x3 x4 post) :
    W p l e rm_m_drawn s m args below meth c H locs 0 0 (MQ below (zQi (S := (Int32) × (Int32) × (Int32) × (Int32) × (Nat → Int32) × (Nat → Int32) × (Nat → Int32) × (Nat → Int32) × (Nat → Int32) × (Int32) × (Int32) × (Int32) × (Int32)) (fun r u => post r u.1 u.2.1 u.2.2.1 u.2.2.2.1 u.2.2.2.2.1 u.2.2.2.2.2.1 u.2.2.2.2.2.2.1 u.2.2.2.2.2.2.2.1 u.2.2.2.2.2.2.2.2.1 u.2.2.2.2.2.2.2.2.2.1 u.2.2.2.2.2.2.2.2.2.2.1 u.2.2.2.2.2.2.2.2.2.2.2.1 u.2.2.2.2.2.2.2.2.2.2.2.2) (fun u H => mW E q u.1 a_tape a_size a_fault a_faultPlace a_many a_lands a_evenings a_sights a_choirs f_reached f_length f_begins f_sort f_value f_word f_wrongAt f_laterFault f_laterPlace a_told a_read f_farHut f_farSinger f_good u.2.1 u.2.2.1 u.2.2.2.1 f_evening u.2.2.2.2.1 u.2.2.2.2.2.1 u.2.2.2.2.2.2.1 u.2.2.2.2.2.2.2.1 u.2.2.2.2.2.2.2.2.1 u.2.2.2.2.2.2.2.2.2.1 u.2.2.2.2.2.2.2.2.2.2.1 u.2.2.2.2.2.2.2.2.2.2.2.1 a_run a_covers a_routes a_longest a_steep a_laid a_far f_sight a_runs f_choir f_voices a_rest a_wins u.2.2.2.2.2.2.2.2.2.2.2.2 a_other a_kept H) (mA q)) args s 0 0 (mA q)) (F0 m 0 ls []) := by
  have hx := zc.1
  have hb := zc.2.1
  refine lv_aload_n hx hb dX11_drawn_0 rfl (lv_at hl 0 rfl) ?_
  refine lv_iconst (v := (0 : Int32)) hx hb dX11_drawn_1 (by decide) ?_
  refine mp_11_97_0 zc hK hM hS dX11_drawn_2 (fun H locs hM hS => ?_)
  refine lv_iload_n hx hb dX11_drawn_5 rfl (lv_at hl 3 rfl) ?_
  refine lv_iconst (v := (0 : Int32)) hx hb dX11_drawn_6 (by decide) ?_
  refine lv_bipush (v := (60 : Int32)) hx hb dX11_drawn_7 (by decide) ?_
  refine zS_i [.int x3, .int (0 : Int32), .int (60 : Int32)] [] zc ky_X11_in kz_X11_in km_11_109 (c_m_in l hw) (zPre0 _) rfl rfl hl.1 (Nat.le_of_ble_eq_true rfl) ⟨rfl, rfl⟩ ⟨Nat.le_of_ble_eq_true rfl, Nat.le_of_ble_eq_true rfl⟩ ⟨(Nat.zero_le _), (Nat.zero_le _)⟩ dX11_drawn_9 (fun r_1 hw => ?_)
  refine lv_if_eq (tgt := 30) hx hb dX11_drawn_12 (by decide) (fun hc => ?_) (fun hc => ?_)
  · have hw := hw.1 hc
    refine lv_sipush (v := (-1000 : Int32)) hx hb dX11_drawn_30 (by decide) ?_
    exact zret_iw ⟨(0 : Int32), f_land, f_huts, f_singers, a_at, a_knows, a_climbed, a_snow, a_level, f_begun, f_minute, f_avalanches, f_seed⟩ zc hS hw hM dX11_drawn_33
  · have hw := hw.2 hc
    refine lv_aload_n hx hb dX11_drawn_15 rfl (lv_at hl 0 rfl) ?_
    refine lv_iload_n hx hb dX11_drawn_16 rfl (lv_at hl 1 rfl) ?_
    refine zVw_i [.int x1] [] zc ky_X11_hand kz_X11_hand km_11_313 (c_m_hand l hw) (mPreV0 hK hM) hS rfl rfl hl.1 (Nat.le_of_ble_eq_true rfl) ⟨rfl, rfl⟩ ⟨Nat.le_of_ble_eq_true rfl, Nat.le_of_ble_eq_true rfl⟩ ⟨(Nat.zero_le _), (Nat.zero_le _)⟩ dX11_drawn_17 (fun r_2 u H locs hw hM hS => ?_)
    obtain ⟨f_land_1, f_huts_1, f_singers_1⟩ := u
    refine lv_if_eq (tgt := 30) hx hb dX11_drawn_20 (by decide) (fun hc => ?_) (fun hc => ?_)
    · have hw := hw.1 hc
      refine lv_sipush (v := (-1000 : Int32)) hx hb dX11_drawn_30 (by decide) ?_
      exact zret_iw ⟨(0 : Int32), f_land_1, f_huts_1, f_singers_1, a_at, a_knows, a_climbed, a_snow, a_level, f_begun, f_minute, f_avalanches, f_seed⟩ zc hS hw hM dX11_drawn_33
    · have hw := hw.2 hc
      refine lv_aload_n hx hb dX11_drawn_23 rfl (lv_at hl 0 rfl) ?_
      refine mg_11_310_0 zc hK hM dX11_drawn_24 ?_
      refine lv_if_ne (tgt := 34) hx hb dX11_drawn_27 (by decide) (fun hc => ?_) (fun hc => ?_)
      · have hw := hw.1 hc
        refine lv_aload_n hx hb dX11_drawn_34 rfl (lv_at hl 0 rfl) ?_
        refine lv_iload_n hx hb dX11_drawn_35 rfl (lv_at hl 2 rfl) ?_
        refine mp_11_515_0 zc hK hM hS dX11_drawn_36 (fun H locs hM hS => ?_)
        refine lv_aload_n hx hb dX11_drawn_39 rfl (lv_at hl 0 rfl) ?_
        refine zVw_v [] [] zc ky_X11_begin kz_X11_begin km_11_377 (c_m_begin l hw) (mPreV0 hK hM) hS rfl rfl hl.1 (Nat.le_of_ble_eq_true rfl) ⟨rfl, rfl⟩ ⟨Nat.le_of_ble_eq_true rfl, Nat.le_of_ble_eq_true rfl⟩ ⟨(Nat.zero_le _), (Nat.zero_le _)⟩ dX11_drawn_40 (fun u H locs hw hM hS => ?_)
        obtain ⟨a_at_1, a_knows_1, a_climbed_1, a_snow_1, f_begun_1, f_minute_1, f_avalanches_1⟩ := u
        refine lv_iconst (v := (0 : Int32)) hx hb dX11_drawn_43 (by decide) ?_
        refine lv_istore (lv' := [(5, .int (0 : Int32)), (0, .ref q), (1, .int x1), (2, .int x2), (3, .int x3), (4, .int x4)]) hx hb dX11_drawn_44 hl (by decide) rfl (fun ls hl => ?_)
        exact t_m_drawn_46 zc hK hM hS  (lv_sub hl [1, 4, 5, 0] rfl) hw
      · have hw := hw.2 hc
        refine lv_sipush (v := (-1000 : Int32)) hx hb dX11_drawn_30 (by decide) ?_
        exact zret_iw ⟨(0 : Int32), f_land_1, f_huts_1, f_singers_1, a_at, a_knows, a_climbed, a_snow, a_level, f_begun, f_minute, f_avalanches, f_seed⟩ zc hS hw hM dX11_drawn_33
set_option maxRecDepth 20000 in
theorem c_m_drawn (l : Launch) {E : zE} {q : Nat} {f_code : Int32} {a_tape : Nat → Int32} {a_size : Nat → Int32} {a_fault : Nat → Int32} {a_faultPlace : Nat → Int32} {a_many : Nat → Int32} {a_lands : Nat → Int32} {a_evenings : Nat → Int32} {a_sights : Nat → Int32} {a_choirs : Nat → Int32} {f_reached : Int32} {f_length : Int32} {f_begins : Int32} {f_sort : Int32} {f_value : Int32} {f_word : Int64} {f_wrongAt : Int32} {f_laterFault : Int32} {f_laterPlace : Int32} {a_told : Nat → Int32} {a_read : Nat → Int32} {f_farHut : Int32} {f_farSinger : Int32} {f_good : Int32} {f_land : Int32} {f_huts : Int32} {f_singers : Int32} {f_evening : Int32} {a_at : Nat → Int32} {a_knows : Nat → Int32} {a_climbed : Nat → Int32} {a_snow : Nat → Int32} {a_level : Nat → Int32} {f_begun : Int32} {f_minute : Int32} {f_avalanches : Int32} {a_run : Nat → Int32} {a_covers : Nat → Int32} {a_routes : Nat → Int32} {a_longest : Nat → Int32} {a_steep : Nat → Int32} {a_laid : Nat → Int32} {a_far : Nat → Int32} {f_sight : Int32} {a_runs : Nat → Int32} {f_choir : Int32} {f_voices : Int32} {a_rest : Nat → Int64} {a_wins : Nat → Int32} {f_seed : Int32} {a_other : Nat → Int32} {a_kept : Nat → Int32} {x1 : Int32} {x2 : Int32} {x3 : Int32} {x4 : Int32} {post : Int32 → (Int32) → (Int32) → (Int32) → (Int32) → (Nat → Int32) → (Nat → Int32) → (Nat → Int32) → (Nat → Int32) → (Nat → Int32) → (Int32) → (Int32) → (Int32) → (Int32) → Prop} (hw : q_m_drawn_0 f_code a_many a_lands f_land f_huts f_singers a_at a_knows a_climbed a_snow a_level f_begun f_minute f_avalanches f_seed x1 x2 x3 x4 post) : Met l yX11_drawn (Cond.code yX11_drawn cX11_drawn 6 (some .int) :: zb) rm_m_drawn (va_Pc [.ref q, .int x1, .int x2, .int x3, .int x4] (fun U => mW E q f_code a_tape a_size a_fault a_faultPlace a_many a_lands a_evenings a_sights a_choirs f_reached f_length f_begins f_sort f_value f_word f_wrongAt f_laterFault f_laterPlace a_told a_read f_farHut f_farSinger f_good f_land f_huts f_singers f_evening a_at a_knows a_climbed a_snow a_level f_begun f_minute f_avalanches a_run a_covers a_routes a_longest a_steep a_laid a_far f_sight a_runs f_choir f_voices a_rest a_wins f_seed a_other a_kept U.heap ∧ zK E U)) (zQi (S := (Int32) × (Int32) × (Int32) × (Int32) × (Nat → Int32) × (Nat → Int32) × (Nat → Int32) × (Nat → Int32) × (Nat → Int32) × (Int32) × (Int32) × (Int32) × (Int32)) (fun r u => post r u.1 u.2.1 u.2.2.1 u.2.2.2.1 u.2.2.2.2.1 u.2.2.2.2.2.1 u.2.2.2.2.2.2.1 u.2.2.2.2.2.2.2.1 u.2.2.2.2.2.2.2.2.1 u.2.2.2.2.2.2.2.2.2.1 u.2.2.2.2.2.2.2.2.2.2.1 u.2.2.2.2.2.2.2.2.2.2.2.1 u.2.2.2.2.2.2.2.2.2.2.2.2) (fun u H => mW E q u.1 a_tape a_size a_fault a_faultPlace a_many a_lands a_evenings a_sights a_choirs f_reached f_length f_begins f_sort f_value f_word f_wrongAt f_laterFault f_laterPlace a_told a_read f_farHut f_farSinger f_good u.2.1 u.2.2.1 u.2.2.2.1 f_evening u.2.2.2.2.1 u.2.2.2.2.2.1 u.2.2.2.2.2.2.1 u.2.2.2.2.2.2.2.1 u.2.2.2.2.2.2.2.2.1 u.2.2.2.2.2.2.2.2.2.1 u.2.2.2.2.2.2.2.2.2.2.1 u.2.2.2.2.2.2.2.2.2.2.2.1 a_run a_covers a_routes a_longest a_steep a_laid a_far f_sight a_runs f_choir f_voices a_rest a_wins u.2.2.2.2.2.2.2.2.2.2.2.2 a_other a_kept H) (mA q)) 0 0 (mA q) := by
  refine Met.ofW (cc := cX11_drawn) (maxL := 6) (ret := (some .int)) (by decide) rfl ?_
  intro p e s m args below meth c s₁ B hml hv
  obtain ⟨rfl, hM, hK⟩ := hv
  have zc := zc_of B hml
  have hl := lv_entry ([.ref q, .int x1, .int x2, .int x3, .int x4]) (n := 6) (Nat.le_of_ble_eq_true rfl)
  rw [lg_entry_eq]
  generalize (lg_sl ([.ref q, .int x1, .int x2, .int x3, .int x4]) ++ List.replicate (6 - (lg_sl ([.ref q, .int x1, .int x2, .int x3, .int x4])).length) Slot.unset).toArray = ls at hl ⊢
  have hl : lv_has ls 6 [(0, .ref q), (1, .int x1), (2, .int x2), (3, .int x3), (4, .int x4)] := hl
  exact t_m_drawn_0 zc hK hM va_S.rf (lv_sub hl [0, 1, 2, 3, 4] rfl) hw
-- m_psalm
abbrev rm_m_psalm : Room := { frames := 3, cells := 0, slots := 0, locals := 70 }
def q_m_psalm_136 (P58 : Int32 → Int32 → Int32 → Int32 → (Nat → Int32) → Prop) (f_code : Int32) (a_many : Nat → Int32) (a_lands : Nat → Int32) (f_land : Int32) (f_huts : Int32) (f_singers : Int32) (a_run : Nat → Int32) (x2 : Int32) (x3 : Int32) (x4 : Int32) (x5 : Int32) (x6 : Int32) (x7 : Int32) (x8 : Int32) (post : Int32 → (Int32) → (Int32) → (Int32) → (Int32) → (Nat → Int32) → Prop) : Prop :=
  ∀ v_1 : Int32, v_1 = x8 + (1 : Int32) → (P58 x5 x6 x7 v_1 a_run)
def q_m_psalm_121 (P58 : Int32 → Int32 → Int32 → Int32 → (Nat → Int32) → Prop) (f_code : Int32) (a_many : Nat → Int32) (a_lands : Nat → Int32) (f_land : Int32) (f_huts : Int32) (f_singers : Int32) (a_run : Nat → Int32) (x2 : Int32) (x3 : Int32) (x4 : Int32) (x5 : Int32) (x7 : Int32) (x8 : Int32) (y0 : Int32) (post : Int32 → (Int32) → (Int32) → (Int32) → (Int32) → (Nat → Int32) → Prop) : Prop :=
  vp_in x2 9 ∧ (q_m_lesser_0 x7 (a_run (Int32.toNatClampNeg x2)) (fun r_1 => q_m_psalm_136 P58 f_code a_many a_lands f_land f_huts f_singers a_run x2 x3 x4 x5 y0 r_1 x8 post))
def q_m_psalm_114 (P58 : Int32 → Int32 → Int32 → Int32 → (Nat → Int32) → Prop) (f_code : Int32) (a_many : Nat → Int32) (a_lands : Nat → Int32) (f_land : Int32) (f_huts : Int32) (f_singers : Int32) (a_run : Nat → Int32) (x2 : Int32) (x3 : Int32) (x4 : Int32) (x5 : Int32) (x7 : Int32) (x8 : Int32) (post : Int32 → (Int32) → (Int32) → (Int32) → (Int32) → (Nat → Int32) → Prop) : Prop :=
  q_m_psalm_121 P58 f_code a_many a_lands f_land f_huts f_singers a_run x2 x3 x4 x5 x7 x8 x8 post
def q_m_psalm_58 (f_code : Int32) (a_many : Nat → Int32) (a_lands : Nat → Int32) (f_land : Int32) (f_huts : Int32) (f_singers : Int32) (a_run : Nat → Int32) (x2 : Int32) (x3 : Int32) (x4 : Int32) (x5 : Int32) (x6 : Int32) (x7 : Int32) (x8 : Int32) (post : Int32 → (Int32) → (Int32) → (Int32) → (Int32) → (Nat → Int32) → Prop) : Prop :=
  ∀ P58 : Int32 → Int32 → Int32 → Int32 → (Nat → Int32) → Prop, (∀ (x5 : Int32) (x6 : Int32) (x7 : Int32) (x8 : Int32) (a_run : Nat → Int32), ((f_huts ≤ x8 → ((¬ x4 = 0 → ((¬ x4 = (1 : Int32) → ((¬ x5 = 0 → (post (x3 - x7) f_code f_land f_huts f_singers a_run)) ∧ (x5 = 0 → (post (-1 : Int32) f_code f_land f_huts f_singers a_run)))) ∧ (x4 = (1 : Int32) → (post x6 f_code f_land f_huts f_singers a_run)))) ∧ (x4 = 0 → (post x5 f_code f_land f_huts f_singers a_run)))) ∧ (¬ f_huts ≤ x8 → (q_m_findRun_0 a_lands f_land f_huts a_run x8 (0 : Int32) (fun a_run_1 => vp_in x2 9 ∧ ((x3 < (a_run_1 (Int32.toNatClampNeg x2)) → (q_m_psalm_136 P58 f_code a_many a_lands f_land f_huts f_singers a_run_1 x2 x3 x4 x5 x6 x7 x8 post)) ∧ (¬ x3 < (a_run_1 (Int32.toNatClampNeg x2)) → (∀ v_1 : Int32, v_1 = (x5 ||| ((1 : Int32) <<< (x8 &&& 31))) → ((x6 = (-1 : Int32) → (q_m_psalm_114 P58 f_code a_many a_lands f_land f_huts f_singers a_run_1 x2 x3 x4 v_1 x7 x8 post)) ∧ (¬ x6 = (-1 : Int32) → (q_m_height_0 a_lands f_land x8 (fun r_1 => q_m_height_0 a_lands f_land x6 (fun r_2 => (r_1 ≤ r_2 → (q_m_psalm_121 P58 f_code a_many a_lands f_land f_huts f_singers a_run_1 x2 x3 x4 v_1 x7 x8 x6 post)) ∧ (¬ r_1 ≤ r_2 → (q_m_psalm_114 P58 f_code a_many a_lands f_land f_huts f_singers a_run_1 x2 x3 x4 v_1 x7 x8 post)))))))))))))) → P58 x5 x6 x7 x8 a_run) → P58 x5 x6 x7 x8 a_run
def q_m_psalm_0 (f_code : Int32) (a_many : Nat → Int32) (a_lands : Nat → Int32) (f_land : Int32) (f_huts : Int32) (f_singers : Int32) (a_run : Nat → Int32) (x1 : Int32) (x2 : Int32) (x3 : Int32) (x4 : Int32) (post : Int32 → (Int32) → (Int32) → (Int32) → (Int32) → (Nat → Int32) → Prop) : Prop :=
  q_m_hand_0 a_many a_lands f_land f_huts f_singers x1 (fun r_1 f_land_1 f_huts_1 f_singers_1 => (r_1 = 0 → (post (-2 : Int32) (0 : Int32) f_land_1 f_huts_1 f_singers_1 a_run)) ∧ (¬ r_1 = 0 → (q_m_isHut_0 f_huts_1 x2 (fun r_2 => (r_2 = 0 → (post (-2 : Int32) (0 : Int32) f_land_1 f_huts_1 f_singers_1 a_run)) ∧ (¬ r_2 = 0 → (q_m_in_0 x3 (0 : Int32) (99 : Int32) (fun r_3 => (r_3 = 0 → (post (-2 : Int32) (0 : Int32) f_land_1 f_huts_1 f_singers_1 a_run)) ∧ (¬ r_3 = 0 → (q_m_in_0 x4 (0 : Int32) (2 : Int32) (fun r_4 => (¬ r_4 = 0 → (q_m_psalm_58 (0 : Int32) a_many a_lands f_land_1 f_huts_1 f_singers_1 a_run x2 x3 x4 (0 : Int32) (-1 : Int32) (1000000 : Int32) (0 : Int32) post)) ∧ (r_4 = 0 → (post (-2 : Int32) (0 : Int32) f_land_1 f_huts_1 f_singers_1 a_run))))))))))))
set_option maxRecDepth 20000 in
theorem t_m_psalm_136 {p : Program} {l : Launch} {e : Env} {s : State} {m : MethodId} {args : Array Value} {below : List Frame} {meth : Method} {c : Code} {E : zE} {q : Nat} {f_code : Int32} {a_tape : Nat → Int32} {a_size : Nat → Int32} {a_fault : Nat → Int32} {a_faultPlace : Nat → Int32} {a_many : Nat → Int32} {a_lands : Nat → Int32} {a_evenings : Nat → Int32} {a_sights : Nat → Int32} {a_choirs : Nat → Int32} {f_reached : Int32} {f_length : Int32} {f_begins : Int32} {f_sort : Int32} {f_value : Int32} {f_word : Int64} {f_wrongAt : Int32} {f_laterFault : Int32} {f_laterPlace : Int32} {a_told : Nat → Int32} {a_read : Nat → Int32} {f_farHut : Int32} {f_farSinger : Int32} {f_good : Int32} {f_land : Int32} {f_huts : Int32} {f_singers : Int32} {f_evening : Int32} {a_at : Nat → Int32} {a_knows : Nat → Int32} {a_climbed : Nat → Int32} {a_snow : Nat → Int32} {a_level : Nat → Int32} {f_begun : Int32} {f_minute : Int32} {f_avalanches : Int32} {a_run : Nat → Int32} {a_covers : Nat → Int32} {a_routes : Nat → Int32} {a_longest : Nat → Int32} {a_steep : Nat → Int32} {a_laid : Nat → Int32} {a_far : Nat → Int32} {f_sight : Int32} {a_runs : Nat → Int32} {f_choir : Int32} {f_voices : Int32} {a_rest : Nat → Int64} {a_wins : Nat → Int32} {f_seed : Int32} {a_other : Nat → Int32} {a_kept : Nat → Int32} {P58 : Int32 → Int32 → Int32 → Int32 → (Nat → Int32) → Prop} {post : Int32 → (Int32) → (Int32) → (Int32) → (Int32) → (Nat → Int32) → Prop} {x2 : Int32} {x3 : Int32} {x4 : Int32} {x5 : Int32} {x6 : Int32} {x7 : Int32} {x8 : Int32} {ls : Array Slot} {H : Heap} {locs : List Loc}
    (zc : zC p s m args meth c cX11_psalm 9 RX11 (some .int))
    (hK : zK E s)
    (hM : mW E q f_code a_tape a_size a_fault a_faultPlace a_many a_lands a_evenings a_sights a_choirs f_reached f_length f_begins f_sort f_value f_word f_wrongAt f_laterFault f_laterPlace a_told a_read f_farHut f_farSinger f_good f_land f_huts f_singers f_evening a_at a_knows a_climbed a_snow a_level f_begun f_minute f_avalanches a_run a_covers a_routes a_longest a_steep a_laid a_far f_sight a_runs f_choir f_voices a_rest a_wins f_seed a_other a_kept H)
    (hS : va_S (mA q) s.heap H locs)
    (hP58 : ∀ (x5 : Int32) (x6 : Int32) (x7 : Int32) (x8 : Int32) (a_run : Nat → Int32) (H : Heap) (locs : List Loc) (ls : Array Slot), P58 x5 x6 x7 x8 a_run → lv_has ls 9 [(0, .ref q), (2, .int x2), (3, .int x3), (4, .int x4), (5, .int x5), (6, .int x6), (7, .int x7), (8, .int x8)] → mW E q f_code a_tape a_size a_fault a_faultPlace a_many a_lands a_evenings a_sights a_choirs f_reached f_length f_begins f_sort f_value f_word f_wrongAt f_laterFault f_laterPlace a_told a_read f_farHut f_farSinger f_good f_land f_huts f_singers f_evening a_at a_knows a_climbed a_snow a_level f_begun f_minute f_avalanches a_run a_covers a_routes a_longest a_steep a_laid a_far f_sight a_runs f_choir f_voices a_rest a_wins f_seed a_other a_kept H → va_S (mA q) s.heap H locs → W p l e rm_m_psalm s m args below meth c H locs 0 0 (MQ below (zQi (S := (Int32) × (Int32) × (Int32) × (Int32) × (Nat → Int32)) (fun r u => post r u.1 u.2.1 u.2.2.1 u.2.2.2.1 u.2.2.2.2) (fun u H => mW E q u.1 a_tape a_size a_fault a_faultPlace a_many a_lands a_evenings a_sights a_choirs f_reached f_length f_begins f_sort f_value f_word f_wrongAt f_laterFault f_laterPlace a_told a_read f_farHut f_farSinger f_good u.2.1 u.2.2.1 u.2.2.2.1 f_evening a_at a_knows a_climbed a_snow a_level f_begun f_minute f_avalanches u.2.2.2.2 a_covers a_routes a_longest a_steep a_laid a_far f_sight a_runs f_choir f_voices a_rest a_wins f_seed a_other a_kept H) (mA q)) args s 0 0 (mA q)) (F0 m 58 ls []))
    (hl : lv_has ls 9 [(0, .ref q), (2, .int x2), (3, .int x3), (4, .int x4), (5, .int x5), (6, .int x6), (7, .int x7), (8, .int x8)])
    (hw : q_m_psalm_136 P58 f_code a_many a_lands f_land f_huts f_singers a_run x2 x3 x4 x5 x6 x7 x8 post) :
    W p l e rm_m_psalm s m args below meth c H locs 0 0 (MQ below (zQi (S := (Int32) × (Int32) × (Int32) × (Int32) × (Nat → Int32)) (fun r u => post r u.1 u.2.1 u.2.2.1 u.2.2.2.1 u.2.2.2.2) (fun u H => mW E q u.1 a_tape a_size a_fault a_faultPlace a_many a_lands a_evenings a_sights a_choirs f_reached f_length f_begins f_sort f_value f_word f_wrongAt f_laterFault f_laterPlace a_told a_read f_farHut f_farSinger f_good u.2.1 u.2.2.1 u.2.2.2.1 f_evening a_at a_knows a_climbed a_snow a_level f_begun f_minute f_avalanches u.2.2.2.2 a_covers a_routes a_longest a_steep a_laid a_far f_sight a_runs f_choir f_voices a_rest a_wins f_seed a_other a_kept H) (mA q)) args s 0 0 (mA q)) (F0 m 136 ls []) := by
  have hx := zc.1
  have hb := zc.2.1
  obtain ⟨v_1, ev_1⟩ : ∃ y : Int32, y = x8 + (1 : Int32) := ⟨_, rfl⟩
  have hw := hw v_1 ev_1
  refine lv_iinc (v := v_1) (k := 7) (lv' := [(8, .int v_1), (0, .ref q), (2, .int x2), (3, .int x3), (4, .int x4), (5, .int x5), (6, .int x6), (7, .int x7)]) hx hb dX11_psalm_136 hl rfl (by rw [ev_1]; rfl) (by decide) rfl (fun ls hl => ?_)
  refine lv_goto (tgt := 58) hx hb dX11_psalm_139 (by decide) ?_
  exact hP58 _ _ _ _ _ _ _ _ hw (lv_sub hl [1, 2, 3, 4, 5, 6, 7, 0] rfl) hM hS
set_option maxRecDepth 20000 in
theorem t_m_psalm_121 {p : Program} {l : Launch} {e : Env} {s : State} {m : MethodId} {args : Array Value} {below : List Frame} {meth : Method} {c : Code} {E : zE} {q : Nat} {f_code : Int32} {a_tape : Nat → Int32} {a_size : Nat → Int32} {a_fault : Nat → Int32} {a_faultPlace : Nat → Int32} {a_many : Nat → Int32} {a_lands : Nat → Int32} {a_evenings : Nat → Int32} {a_sights : Nat → Int32} {a_choirs : Nat → Int32} {f_reached : Int32} {f_length : Int32} {f_begins : Int32} {f_sort : Int32} {f_value : Int32} {f_word : Int64} {f_wrongAt : Int32} {f_laterFault : Int32} {f_laterPlace : Int32} {a_told : Nat → Int32} {a_read : Nat → Int32} {f_farHut : Int32} {f_farSinger : Int32} {f_good : Int32} {f_land : Int32} {f_huts : Int32} {f_singers : Int32} {f_evening : Int32} {a_at : Nat → Int32} {a_knows : Nat → Int32} {a_climbed : Nat → Int32} {a_snow : Nat → Int32} {a_level : Nat → Int32} {f_begun : Int32} {f_minute : Int32} {f_avalanches : Int32} {a_run : Nat → Int32} {a_covers : Nat → Int32} {a_routes : Nat → Int32} {a_longest : Nat → Int32} {a_steep : Nat → Int32} {a_laid : Nat → Int32} {a_far : Nat → Int32} {f_sight : Int32} {a_runs : Nat → Int32} {f_choir : Int32} {f_voices : Int32} {a_rest : Nat → Int64} {a_wins : Nat → Int32} {f_seed : Int32} {a_other : Nat → Int32} {a_kept : Nat → Int32} {P58 : Int32 → Int32 → Int32 → Int32 → (Nat → Int32) → Prop} {post : Int32 → (Int32) → (Int32) → (Int32) → (Int32) → (Nat → Int32) → Prop} {x2 : Int32} {x3 : Int32} {x4 : Int32} {x5 : Int32} {x7 : Int32} {x8 : Int32} {y0 : Int32} {ls : Array Slot} {H : Heap} {locs : List Loc}
    (zc : zC p s m args meth c cX11_psalm 9 RX11 (some .int))
    (hK : zK E s)
    (hM : mW E q f_code a_tape a_size a_fault a_faultPlace a_many a_lands a_evenings a_sights a_choirs f_reached f_length f_begins f_sort f_value f_word f_wrongAt f_laterFault f_laterPlace a_told a_read f_farHut f_farSinger f_good f_land f_huts f_singers f_evening a_at a_knows a_climbed a_snow a_level f_begun f_minute f_avalanches a_run a_covers a_routes a_longest a_steep a_laid a_far f_sight a_runs f_choir f_voices a_rest a_wins f_seed a_other a_kept H)
    (hS : va_S (mA q) s.heap H locs)
    (hP58 : ∀ (x5 : Int32) (x6 : Int32) (x7 : Int32) (x8 : Int32) (a_run : Nat → Int32) (H : Heap) (locs : List Loc) (ls : Array Slot), P58 x5 x6 x7 x8 a_run → lv_has ls 9 [(0, .ref q), (2, .int x2), (3, .int x3), (4, .int x4), (5, .int x5), (6, .int x6), (7, .int x7), (8, .int x8)] → mW E q f_code a_tape a_size a_fault a_faultPlace a_many a_lands a_evenings a_sights a_choirs f_reached f_length f_begins f_sort f_value f_word f_wrongAt f_laterFault f_laterPlace a_told a_read f_farHut f_farSinger f_good f_land f_huts f_singers f_evening a_at a_knows a_climbed a_snow a_level f_begun f_minute f_avalanches a_run a_covers a_routes a_longest a_steep a_laid a_far f_sight a_runs f_choir f_voices a_rest a_wins f_seed a_other a_kept H → va_S (mA q) s.heap H locs → W p l e rm_m_psalm s m args below meth c H locs 0 0 (MQ below (zQi (S := (Int32) × (Int32) × (Int32) × (Int32) × (Nat → Int32)) (fun r u => post r u.1 u.2.1 u.2.2.1 u.2.2.2.1 u.2.2.2.2) (fun u H => mW E q u.1 a_tape a_size a_fault a_faultPlace a_many a_lands a_evenings a_sights a_choirs f_reached f_length f_begins f_sort f_value f_word f_wrongAt f_laterFault f_laterPlace a_told a_read f_farHut f_farSinger f_good u.2.1 u.2.2.1 u.2.2.2.1 f_evening a_at a_knows a_climbed a_snow a_level f_begun f_minute f_avalanches u.2.2.2.2 a_covers a_routes a_longest a_steep a_laid a_far f_sight a_runs f_choir f_voices a_rest a_wins f_seed a_other a_kept H) (mA q)) args s 0 0 (mA q)) (F0 m 58 ls []))
    (hl : lv_has ls 9 [(0, .ref q), (2, .int x2), (3, .int x3), (4, .int x4), (5, .int x5), (7, .int x7), (8, .int x8)])
    (hw : q_m_psalm_121 P58 f_code a_many a_lands f_land f_huts f_singers a_run x2 x3 x4 x5 x7 x8 y0 post) :
    W p l e rm_m_psalm s m args below meth c H locs 0 0 (MQ below (zQi (S := (Int32) × (Int32) × (Int32) × (Int32) × (Nat → Int32)) (fun r u => post r u.1 u.2.1 u.2.2.1 u.2.2.2.1 u.2.2.2.2) (fun u H => mW E q u.1 a_tape a_size a_fault a_faultPlace a_many a_lands a_evenings a_sights a_choirs f_reached f_length f_begins f_sort f_value f_word f_wrongAt f_laterFault f_laterPlace a_told a_read f_farHut f_farSinger f_good u.2.1 u.2.2.1 u.2.2.2.1 f_evening a_at a_knows a_climbed a_snow a_level f_begun f_minute f_avalanches u.2.2.2.2 a_covers a_routes a_longest a_steep a_laid a_far f_sight a_runs f_choir f_voices a_rest a_wins f_seed a_other a_kept H) (mA q)) args s 0 0 (mA q)) (F0 m 121 ls [.int y0]) := by
  have hx := zc.1
  have hb := zc.2.1
  refine lv_istore (lv' := [(6, .int y0), (0, .ref q), (2, .int x2), (3, .int x3), (4, .int x4), (5, .int x5), (7, .int x7), (8, .int x8)]) hx hb dX11_psalm_121 hl (by decide) rfl (fun ls hl => ?_)
  refine lv_iload hx hb dX11_psalm_123 (lv_at hl 6 rfl) ?_
  refine lv_aload_n hx hb dX11_psalm_125 rfl (lv_at hl 1 rfl) ?_
  refine mg_11_59_0 zc hK hM dX11_psalm_126 ?_
  refine lv_iload_n hx hb dX11_psalm_129 rfl (lv_at hl 2 rfl) ?_
  refine mld_17 zc hK hM hw.1 dX11_psalm_130 ?_
  have hw := hw.2
  refine zS_i [.int x7, .int (a_run (Int32.toNatClampNeg x2))] [] zc ky_X11_lesser kz_X11_lesser km_11_411 (c_m_lesser l hw) (zPre0 _) rfl rfl hl.1 (Nat.le_of_ble_eq_true rfl) ⟨rfl, rfl⟩ ⟨Nat.le_of_ble_eq_true rfl, Nat.le_of_ble_eq_true rfl⟩ ⟨(Nat.zero_le _), (Nat.zero_le _)⟩ dX11_psalm_131 (fun r_1 hw => ?_)
  refine lv_istore (lv' := [(7, .int r_1), (6, .int y0), (0, .ref q), (2, .int x2), (3, .int x3), (4, .int x4), (5, .int x5), (8, .int x8)]) hx hb dX11_psalm_134 hl (by decide) rfl (fun ls hl => ?_)
  exact t_m_psalm_136 zc hK hM hS hP58 (lv_sub hl [2, 3, 4, 5, 6, 1, 0, 7] rfl) hw
set_option maxRecDepth 20000 in
theorem t_m_psalm_114 {p : Program} {l : Launch} {e : Env} {s : State} {m : MethodId} {args : Array Value} {below : List Frame} {meth : Method} {c : Code} {E : zE} {q : Nat} {f_code : Int32} {a_tape : Nat → Int32} {a_size : Nat → Int32} {a_fault : Nat → Int32} {a_faultPlace : Nat → Int32} {a_many : Nat → Int32} {a_lands : Nat → Int32} {a_evenings : Nat → Int32} {a_sights : Nat → Int32} {a_choirs : Nat → Int32} {f_reached : Int32} {f_length : Int32} {f_begins : Int32} {f_sort : Int32} {f_value : Int32} {f_word : Int64} {f_wrongAt : Int32} {f_laterFault : Int32} {f_laterPlace : Int32} {a_told : Nat → Int32} {a_read : Nat → Int32} {f_farHut : Int32} {f_farSinger : Int32} {f_good : Int32} {f_land : Int32} {f_huts : Int32} {f_singers : Int32} {f_evening : Int32} {a_at : Nat → Int32} {a_knows : Nat → Int32} {a_climbed : Nat → Int32} {a_snow : Nat → Int32} {a_level : Nat → Int32} {f_begun : Int32} {f_minute : Int32} {f_avalanches : Int32} {a_run : Nat → Int32} {a_covers : Nat → Int32} {a_routes : Nat → Int32} {a_longest : Nat → Int32} {a_steep : Nat → Int32} {a_laid : Nat → Int32} {a_far : Nat → Int32} {f_sight : Int32} {a_runs : Nat → Int32} {f_choir : Int32} {f_voices : Int32} {a_rest : Nat → Int64} {a_wins : Nat → Int32} {f_seed : Int32} {a_other : Nat → Int32} {a_kept : Nat → Int32} {P58 : Int32 → Int32 → Int32 → Int32 → (Nat → Int32) → Prop} {post : Int32 → (Int32) → (Int32) → (Int32) → (Int32) → (Nat → Int32) → Prop} {x2 : Int32} {x3 : Int32} {x4 : Int32} {x5 : Int32} {x7 : Int32} {x8 : Int32} {ls : Array Slot} {H : Heap} {locs : List Loc}
    (zc : zC p s m args meth c cX11_psalm 9 RX11 (some .int))
    (hK : zK E s)
    (hM : mW E q f_code a_tape a_size a_fault a_faultPlace a_many a_lands a_evenings a_sights a_choirs f_reached f_length f_begins f_sort f_value f_word f_wrongAt f_laterFault f_laterPlace a_told a_read f_farHut f_farSinger f_good f_land f_huts f_singers f_evening a_at a_knows a_climbed a_snow a_level f_begun f_minute f_avalanches a_run a_covers a_routes a_longest a_steep a_laid a_far f_sight a_runs f_choir f_voices a_rest a_wins f_seed a_other a_kept H)
    (hS : va_S (mA q) s.heap H locs)
    (hP58 : ∀ (x5 : Int32) (x6 : Int32) (x7 : Int32) (x8 : Int32) (a_run : Nat → Int32) (H : Heap) (locs : List Loc) (ls : Array Slot), P58 x5 x6 x7 x8 a_run → lv_has ls 9 [(0, .ref q), (2, .int x2), (3, .int x3), (4, .int x4), (5, .int x5), (6, .int x6), (7, .int x7), (8, .int x8)] → mW E q f_code a_tape a_size a_fault a_faultPlace a_many a_lands a_evenings a_sights a_choirs f_reached f_length f_begins f_sort f_value f_word f_wrongAt f_laterFault f_laterPlace a_told a_read f_farHut f_farSinger f_good f_land f_huts f_singers f_evening a_at a_knows a_climbed a_snow a_level f_begun f_minute f_avalanches a_run a_covers a_routes a_longest a_steep a_laid a_far f_sight a_runs f_choir f_voices a_rest a_wins f_seed a_other a_kept H → va_S (mA q) s.heap H locs → W p l e rm_m_psalm s m args below meth c H locs 0 0 (MQ below (zQi (S := (Int32) × (Int32) × (Int32) × (Int32) × (Nat → Int32)) (fun r u => post r u.1 u.2.1 u.2.2.1 u.2.2.2.1 u.2.2.2.2) (fun u H => mW E q u.1 a_tape a_size a_fault a_faultPlace a_many a_lands a_evenings a_sights a_choirs f_reached f_length f_begins f_sort f_value f_word f_wrongAt f_laterFault f_laterPlace a_told a_read f_farHut f_farSinger f_good u.2.1 u.2.2.1 u.2.2.2.1 f_evening a_at a_knows a_climbed a_snow a_level f_begun f_minute f_avalanches u.2.2.2.2 a_covers a_routes a_longest a_steep a_laid a_far f_sight a_runs f_choir f_voices a_rest a_wins f_seed a_other a_kept H) (mA q)) args s 0 0 (mA q)) (F0 m 58 ls []))
    (hl : lv_has ls 9 [(0, .ref q), (2, .int x2), (3, .int x3), (4, .int x4), (5, .int x5), (7, .int x7), (8, .int x8)])
    (hw : q_m_psalm_114 P58 f_code a_many a_lands f_land f_huts f_singers a_run x2 x3 x4 x5 x7 x8 post) :
    W p l e rm_m_psalm s m args below meth c H locs 0 0 (MQ below (zQi (S := (Int32) × (Int32) × (Int32) × (Int32) × (Nat → Int32)) (fun r u => post r u.1 u.2.1 u.2.2.1 u.2.2.2.1 u.2.2.2.2) (fun u H => mW E q u.1 a_tape a_size a_fault a_faultPlace a_many a_lands a_evenings a_sights a_choirs f_reached f_length f_begins f_sort f_value f_word f_wrongAt f_laterFault f_laterPlace a_told a_read f_farHut f_farSinger f_good u.2.1 u.2.2.1 u.2.2.2.1 f_evening a_at a_knows a_climbed a_snow a_level f_begun f_minute f_avalanches u.2.2.2.2 a_covers a_routes a_longest a_steep a_laid a_far f_sight a_runs f_choir f_voices a_rest a_wins f_seed a_other a_kept H) (mA q)) args s 0 0 (mA q)) (F0 m 114 ls []) := by
  have hx := zc.1
  have hb := zc.2.1
  refine lv_iload hx hb dX11_psalm_114 (lv_at hl 6 rfl) ?_
  refine lv_goto (tgt := 121) hx hb dX11_psalm_116 (by decide) ?_
  exact t_m_psalm_121 zc hK hM hS hP58 (lv_sub hl [0, 1, 2, 3, 4, 5, 6] rfl) hw
set_option maxRecDepth 20000 in
theorem t_m_psalm_58 {p : Program} {l : Launch} {e : Env} {s : State} {m : MethodId} {args : Array Value} {below : List Frame} {meth : Method} {c : Code} {E : zE} {q : Nat} {f_code : Int32} {a_tape : Nat → Int32} {a_size : Nat → Int32} {a_fault : Nat → Int32} {a_faultPlace : Nat → Int32} {a_many : Nat → Int32} {a_lands : Nat → Int32} {a_evenings : Nat → Int32} {a_sights : Nat → Int32} {a_choirs : Nat → Int32} {f_reached : Int32} {f_length : Int32} {f_begins : Int32} {f_sort : Int32} {f_value : Int32} {f_word : Int64} {f_wrongAt : Int32} {f_laterFault : Int32} {f_laterPlace : Int32} {a_told : Nat → Int32} {a_read : Nat → Int32} {f_farHut : Int32} {f_farSinger : Int32} {f_good : Int32} {f_land : Int32} {f_huts : Int32} {f_singers : Int32} {f_evening : Int32} {a_at : Nat → Int32} {a_knows : Nat → Int32} {a_climbed : Nat → Int32} {a_snow : Nat → Int32} {a_level : Nat → Int32} {f_begun : Int32} {f_minute : Int32} {f_avalanches : Int32} {a_run : Nat → Int32} {a_covers : Nat → Int32} {a_routes : Nat → Int32} {a_longest : Nat → Int32} {a_steep : Nat → Int32} {a_laid : Nat → Int32} {a_far : Nat → Int32} {f_sight : Int32} {a_runs : Nat → Int32} {f_choir : Int32} {f_voices : Int32} {a_rest : Nat → Int64} {a_wins : Nat → Int32} {f_seed : Int32} {a_other : Nat → Int32} {a_kept : Nat → Int32} {post : Int32 → (Int32) → (Int32) → (Int32) → (Int32) → (Nat → Int32) → Prop} {x2 : Int32} {x3 : Int32} {x4 : Int32} {x5 : Int32} {x6 : Int32} {x7 : Int32} {x8 : Int32} {ls : Array Slot} {H : Heap} {locs : List Loc}
    (zc : zC p s m args meth c cX11_psalm 9 RX11 (some .int))
    (hK : zK E s)
    (hM : mW E q f_code a_tape a_size a_fault a_faultPlace a_many a_lands a_evenings a_sights a_choirs f_reached f_length f_begins f_sort f_value f_word f_wrongAt f_laterFault f_laterPlace a_told a_read f_farHut f_farSinger f_good f_land f_huts f_singers f_evening a_at a_knows a_climbed a_snow a_level f_begun f_minute f_avalanches a_run a_covers a_routes a_longest a_steep a_laid a_far f_sight a_runs f_choir f_voices a_rest a_wins f_seed a_other a_kept H)
    (hS : va_S (mA q) s.heap H locs)
    (hl : lv_has ls 9 [(0, .ref q), (2, .int x2), (3, .int x3), (4, .int x4), (5, .int x5), (6, .int x6), (7, .int x7), (8, .int x8)])
    (hw : q_m_psalm_58 f_code a_many a_lands f_land f_huts f_singers a_run x2 x3 x4 x5 x6 x7 x8 post) :
    W p l e rm_m_psalm s m args below meth c H locs 0 0 (MQ below (zQi (S := (Int32) × (Int32) × (Int32) × (Int32) × (Nat → Int32)) (fun r u => post r u.1 u.2.1 u.2.2.1 u.2.2.2.1 u.2.2.2.2) (fun u H => mW E q u.1 a_tape a_size a_fault a_faultPlace a_many a_lands a_evenings a_sights a_choirs f_reached f_length f_begins f_sort f_value f_word f_wrongAt f_laterFault f_laterPlace a_told a_read f_farHut f_farSinger f_good u.2.1 u.2.2.1 u.2.2.2.1 f_evening a_at a_knows a_climbed a_snow a_level f_begun f_minute f_avalanches u.2.2.2.2 a_covers a_routes a_longest a_steep a_laid a_far f_sight a_runs f_choir f_voices a_rest a_wins f_seed a_other a_kept H) (mA q)) args s 0 0 (mA q)) (F0 m 58 ls []) := by
  have hx := zc.1
  have hb := zc.2.1
  refine hw (fun x5 x6 x7 x8 a_run => ∀ (H : Heap) (locs : List Loc) (ls : Array Slot), lv_has ls 9 [(0, .ref q), (2, .int x2), (3, .int x3), (4, .int x4), (5, .int x5), (6, .int x6), (7, .int x7), (8, .int x8)] → mW E q f_code a_tape a_size a_fault a_faultPlace a_many a_lands a_evenings a_sights a_choirs f_reached f_length f_begins f_sort f_value f_word f_wrongAt f_laterFault f_laterPlace a_told a_read f_farHut f_farSinger f_good f_land f_huts f_singers f_evening a_at a_knows a_climbed a_snow a_level f_begun f_minute f_avalanches a_run a_covers a_routes a_longest a_steep a_laid a_far f_sight a_runs f_choir f_voices a_rest a_wins f_seed a_other a_kept H → va_S (mA q) s.heap H locs → W p l e rm_m_psalm s m args below meth c H locs 0 0 (MQ below (zQi (S := (Int32) × (Int32) × (Int32) × (Int32) × (Nat → Int32)) (fun r u => post r u.1 u.2.1 u.2.2.1 u.2.2.2.1 u.2.2.2.2) (fun u H => mW E q u.1 a_tape a_size a_fault a_faultPlace a_many a_lands a_evenings a_sights a_choirs f_reached f_length f_begins f_sort f_value f_word f_wrongAt f_laterFault f_laterPlace a_told a_read f_farHut f_farSinger f_good u.2.1 u.2.2.1 u.2.2.2.1 f_evening a_at a_knows a_climbed a_snow a_level f_begun f_minute f_avalanches u.2.2.2.2 a_covers a_routes a_longest a_steep a_laid a_far f_sight a_runs f_choir f_voices a_rest a_wins f_seed a_other a_kept H) (mA q)) args s 0 0 (mA q)) (F0 m 58 ls [])) ?_ _ _ _ hl hM hS
  intro x5 x6 x7 x8 a_run hw H locs ls hl hM hS
  refine lv_iload hx hb dX11_psalm_58 (lv_at hl 7 rfl) ?_
  refine lv_aload_n hx hb dX11_psalm_60 rfl (lv_at hl 0 rfl) ?_
  refine mg_11_307_0 zc hK hM dX11_psalm_61 ?_
  refine lv_icmp_ge (tgt := 142) hx hb dX11_psalm_64 (by decide) (fun hc => ?_) (fun hc => ?_)
  · have hw := hw.1 hc
    refine lv_iload hx hb dX11_psalm_142 (lv_at hl 3 rfl) ?_
    refine lv_if_ne (tgt := 152) hx hb dX11_psalm_144 (by decide) (fun hc => ?_) (fun hc => ?_)
    · have hw := hw.1 hc
      refine lv_iload hx hb dX11_psalm_152 (lv_at hl 3 rfl) ?_
      refine lv_iconst (v := (1 : Int32)) hx hb dX11_psalm_154 (by decide) ?_
      refine lv_icmp_ne (tgt := 163) hx hb dX11_psalm_155 (by decide) (fun hc => ?_) (fun hc => ?_)
      · have hw := hw.1 hc
        refine lv_iload hx hb dX11_psalm_163 (lv_at hl 4 rfl) ?_
        refine lv_if_ne (tgt := 172) hx hb dX11_psalm_165 (by decide) (fun hc => ?_) (fun hc => ?_)
        · have hw := hw.1 hc
          refine lv_iload_n hx hb dX11_psalm_172 rfl (lv_at hl 2 rfl) ?_
          refine lv_iload hx hb dX11_psalm_173 (lv_at hl 6 rfl) ?_
          refine lv_isub hx hb dX11_psalm_175 ?_
          exact zret_iw ⟨f_code, f_land, f_huts, f_singers, a_run⟩ zc hS hw hM dX11_psalm_176
        · have hw := hw.2 hc
          refine lv_iconst (v := (-1 : Int32)) hx hb dX11_psalm_168 (by decide) ?_
          refine lv_goto (tgt := 176) hx hb dX11_psalm_169 (by decide) ?_
          exact zret_iw ⟨f_code, f_land, f_huts, f_singers, a_run⟩ zc hS hw hM dX11_psalm_176
      · have hw := hw.2 hc
        refine lv_iload hx hb dX11_psalm_158 (lv_at hl 5 rfl) ?_
        refine lv_goto (tgt := 176) hx hb dX11_psalm_160 (by decide) ?_
        exact zret_iw ⟨f_code, f_land, f_huts, f_singers, a_run⟩ zc hS hw hM dX11_psalm_176
    · have hw := hw.2 hc
      refine lv_iload hx hb dX11_psalm_147 (lv_at hl 4 rfl) ?_
      refine lv_goto (tgt := 176) hx hb dX11_psalm_149 (by decide) ?_
      exact zret_iw ⟨f_code, f_land, f_huts, f_singers, a_run⟩ zc hS hw hM dX11_psalm_176
  · have hw := hw.2 hc
    refine lv_aload_n hx hb dX11_psalm_67 rfl (lv_at hl 0 rfl) ?_
    refine lv_iload hx hb dX11_psalm_68 (lv_at hl 7 rfl) ?_
    refine lv_iconst (v := (0 : Int32)) hx hb dX11_psalm_70 (by decide) ?_
    refine zVw_v [.int x8, .int (0 : Int32)] [] zc ky_X11_findRun kz_X11_findRun km_11_414 (c_m_findRun l hw) (mPreV0 hK hM) hS rfl rfl hl.1 (Nat.le_of_ble_eq_true rfl) ⟨rfl, rfl⟩ ⟨Nat.le_of_ble_eq_true rfl, Nat.le_of_ble_eq_true rfl⟩ ⟨(Nat.zero_le _), (Nat.zero_le _)⟩ dX11_psalm_71 (fun a_run_1 H locs hw hM hS => ?_)
    refine lv_aload_n hx hb dX11_psalm_74 rfl (lv_at hl 0 rfl) ?_
    refine mg_11_59_0 zc hK hM dX11_psalm_75 ?_
    refine lv_iload_n hx hb dX11_psalm_78 rfl (lv_at hl 1 rfl) ?_
    refine mld_17 zc hK hM hw.1 dX11_psalm_79 ?_
    have hw := hw.2
    refine lv_iload_n hx hb dX11_psalm_80 rfl (lv_at hl 2 rfl) ?_
    refine lv_icmp_gt (tgt := 136) hx hb dX11_psalm_81 (by decide) (fun hc => ?_) (fun hc => ?_)
    · have hw := hw.1 hc
      exact t_m_psalm_136 zc hK hM hS (fun _ _ _ _ _ H locs ls h hl hM hS => h H locs ls hl hM hS) (lv_sub hl [0, 1, 2, 3, 4, 5, 6, 7] rfl) hw
    · have hw := hw.2 hc
      refine lv_iload hx hb dX11_psalm_84 (lv_at hl 4 rfl) ?_
      refine lv_iconst (v := (1 : Int32)) hx hb dX11_psalm_86 (by decide) ?_
      refine lv_iload hx hb dX11_psalm_87 (lv_at hl 7 rfl) ?_
      refine lv_ishl hx hb dX11_psalm_89 ?_
      refine lv_ior hx hb dX11_psalm_90 ?_
      refine lv_topi (fun v_1 ev_1 => ?_)
      have hw := hw v_1 ev_1
      refine lv_istore (lv' := [(5, .int v_1), (0, .ref q), (2, .int x2), (3, .int x3), (4, .int x4), (6, .int x6), (7, .int x7), (8, .int x8)]) hx hb dX11_psalm_91 hl (by decide) rfl (fun ls hl => ?_)
      refine lv_iload hx hb dX11_psalm_93 (lv_at hl 5 rfl) ?_
      refine lv_iconst (v := (-1 : Int32)) hx hb dX11_psalm_95 (by decide) ?_
      refine lv_icmp_eq (tgt := 114) hx hb dX11_psalm_96 (by decide) (fun hc => ?_) (fun hc => ?_)
      · have hw := hw.1 hc
        exact t_m_psalm_114 zc hK hM hS (fun _ _ _ _ _ H locs ls h hl hM hS => h H locs ls hl hM hS) (lv_sub hl [1, 2, 3, 4, 0, 6, 7] rfl) hw
      · have hw := hw.2 hc
        refine lv_aload_n hx hb dX11_psalm_99 rfl (lv_at hl 1 rfl) ?_
        refine lv_iload hx hb dX11_psalm_100 (lv_at hl 7 rfl) ?_
        refine zV_i [.int x8] [] zc ky_X11_height kz_X11_height km_11_322 (c_m_height l hw) (mPreV0 hK hM) rfl rfl hl.1 (Nat.le_of_ble_eq_true rfl) ⟨rfl, rfl⟩ ⟨Nat.le_of_ble_eq_true rfl, Nat.le_of_ble_eq_true rfl⟩ ⟨(Nat.zero_le _), (Nat.zero_le _)⟩ dX11_psalm_102 (fun r_1 hw => ?_)
        refine lv_aload_n hx hb dX11_psalm_105 rfl (lv_at hl 1 rfl) ?_
        refine lv_iload hx hb dX11_psalm_106 (lv_at hl 5 rfl) ?_
        refine zV_i [.int x6] [.int r_1] zc ky_X11_height kz_X11_height km_11_322 (c_m_height l hw) (mPreV0 hK hM) rfl rfl hl.1 (Nat.le_of_ble_eq_true rfl) ⟨rfl, rfl⟩ ⟨Nat.le_of_ble_eq_true rfl, Nat.le_of_ble_eq_true rfl⟩ ⟨(Nat.zero_le _), (Nat.zero_le _)⟩ dX11_psalm_108 (fun r_2 hw => ?_)
        refine lv_icmp_le (tgt := 119) hx hb dX11_psalm_111 (by decide) (fun hc => ?_) (fun hc => ?_)
        · have hw := hw.1 hc
          refine lv_iload hx hb dX11_psalm_119 (lv_at hl 5 rfl) ?_
          exact t_m_psalm_121 zc hK hM hS (fun _ _ _ _ _ H locs ls h hl hM hS => h H locs ls hl hM hS) (lv_sub hl [1, 2, 3, 4, 0, 6, 7] rfl) hw
        · have hw := hw.2 hc
          exact t_m_psalm_114 zc hK hM hS (fun _ _ _ _ _ H locs ls h hl hM hS => h H locs ls hl hM hS) (lv_sub hl [1, 2, 3, 4, 0, 6, 7] rfl) hw
set_option maxRecDepth 20000 in
theorem t_m_psalm_0 {p : Program} {l : Launch} {e : Env} {s : State} {m : MethodId} {args : Array Value} {below : List Frame} {meth : Method} {c : Code} {E : zE} {q : Nat} {f_code : Int32} {a_tape : Nat → Int32} {a_size : Nat → Int32} {a_fault : Nat → Int32} {a_faultPlace : Nat → Int32} {a_many : Nat → Int32} {a_lands : Nat → Int32} {a_evenings : Nat → Int32} {a_sights : Nat → Int32} {a_choirs : Nat → Int32} {f_reached : Int32} {f_length : Int32} {f_begins : Int32} {f_sort : Int32} {f_value : Int32} {f_word : Int64} {f_wrongAt : Int32} {f_laterFault : Int32} {f_laterPlace : Int32} {a_told : Nat → Int32} {a_read : Nat → Int32} {f_farHut : Int32} {f_farSinger : Int32} {f_good : Int32} {f_land : Int32} {f_huts : Int32} {f_singers : Int32} {f_evening : Int32} {a_at : Nat → Int32} {a_knows : Nat → Int32} {a_climbed : Nat → Int32} {a_snow : Nat → Int32} {a_level : Nat → Int32} {f_begun : Int32} {f_minute : Int32} {f_avalanches : Int32} {a_run : Nat → Int32} {a_covers : Nat → Int32} {a_routes : Nat → Int32} {a_longest : Nat → Int32} {a_steep : Nat → Int32} {a_laid : Nat → Int32} {a_far : Nat → Int32} {f_sight : Int32} {a_runs : Nat → Int32} {f_choir : Int32} {f_voices : Int32} {a_rest : Nat → Int64} {a_wins : Nat → Int32} {f_seed : Int32} {a_other : Nat → Int32} {a_kept : Nat → Int32} {post : Int32 → (Int32) → (Int32) → (Int32) → (Int32) → (Nat → Int32) → Prop} {x1 : Int32} {x2 : Int32} {x3 : Int32} {x4 : Int32} {ls : Array Slot} {H : Heap} {locs : List Loc}
    (zc : zC p s m args meth c cX11_psalm 9 RX11 (some .int))
    (hK : zK E s)
    (hM : mW E q f_code a_tape a_size a_fault a_faultPlace a_many a_lands a_evenings a_sights a_choirs f_reached f_length f_begins f_sort f_value f_word f_wrongAt f_laterFault f_laterPlace a_told a_read f_farHut f_farSinger f_good f_land f_huts f_singers f_evening a_at a_knows a_climbed a_snow a_level f_begun f_minute f_avalanches a_run a_covers a_routes a_longest a_steep a_laid a_far f_sight a_runs f_choir f_voices a_rest a_wins f_seed a_other a_kept H)
    (hS : va_S (mA q) s.heap H locs)
    (hl : lv_has ls 9 [(0, .ref q), (1, .int x1), (2, .int x2), (3, .int x3), (4, .int x4)])
    (hw : q_m_psalm_0 f_code a_many a_lands f_land f_huts f_singers a_run x1 x2 x3 x4 post) :
    W p l e rm_m_psalm s m args below meth c H locs 0 0 (MQ below (zQi (S := (Int32) × (Int32) × (Int32) × (Int32) × (Nat → Int32)) (fun r u => post r u.1 u.2.1 u.2.2.1 u.2.2.2.1 u.2.2.2.2) (fun u H => mW E q u.1 a_tape a_size a_fault a_faultPlace a_many a_lands a_evenings a_sights a_choirs f_reached f_length f_begins f_sort f_value f_word f_wrongAt f_laterFault f_laterPlace a_told a_read f_farHut f_farSinger f_good u.2.1 u.2.2.1 u.2.2.2.1 f_evening a_at a_knows a_climbed a_snow a_level f_begun f_minute f_avalanches u.2.2.2.2 a_covers a_routes a_longest a_steep a_laid a_far f_sight a_runs f_choir f_voices a_rest a_wins f_seed a_other a_kept H) (mA q)) args s 0 0 (mA q)) (F0 m 0 ls []) := by
  have hx := zc.1
  have hb := zc.2.1
  refine lv_aload_n hx hb dX11_psalm_0 rfl (lv_at hl 0 rfl) ?_
  refine lv_iconst (v := (0 : Int32)) hx hb dX11_psalm_1 (by decide) ?_
  refine mp_11_97_0 zc hK hM hS dX11_psalm_2 (fun H locs hM hS => ?_)
  refine lv_aload_n hx hb dX11_psalm_5 rfl (lv_at hl 0 rfl) ?_
  refine lv_iload_n hx hb dX11_psalm_6 rfl (lv_at hl 1 rfl) ?_
  refine zVw_i [.int x1] [] zc ky_X11_hand kz_X11_hand km_11_313 (c_m_hand l hw) (mPreV0 hK hM) hS rfl rfl hl.1 (Nat.le_of_ble_eq_true rfl) ⟨rfl, rfl⟩ ⟨Nat.le_of_ble_eq_true rfl, Nat.le_of_ble_eq_true rfl⟩ ⟨(Nat.zero_le _), (Nat.zero_le _)⟩ dX11_psalm_7 (fun r_1 u H locs hw hM hS => ?_)
  obtain ⟨f_land_1, f_huts_1, f_singers_1⟩ := u
  refine lv_if_eq (tgt := 41) hx hb dX11_psalm_10 (by decide) (fun hc => ?_) (fun hc => ?_)
  · have hw := hw.1 hc
    refine lv_bipush (v := (-2 : Int32)) hx hb dX11_psalm_41 (by decide) ?_
    exact zret_iw ⟨(0 : Int32), f_land_1, f_huts_1, f_singers_1, a_run⟩ zc hS hw hM dX11_psalm_43
  · have hw := hw.2 hc
    refine lv_aload_n hx hb dX11_psalm_13 rfl (lv_at hl 0 rfl) ?_
    refine lv_iload_n hx hb dX11_psalm_14 rfl (lv_at hl 2 rfl) ?_
    refine zV_i [.int x2] [] zc ky_X11_isHut kz_X11_isHut km_11_316 (c_m_isHut l hw) (mPreV0 hK hM) rfl rfl hl.1 (Nat.le_of_ble_eq_true rfl) ⟨rfl, rfl⟩ ⟨Nat.le_of_ble_eq_true rfl, Nat.le_of_ble_eq_true rfl⟩ ⟨(Nat.zero_le _), (Nat.zero_le _)⟩ dX11_psalm_15 (fun r_2 hw => ?_)
    refine lv_if_eq (tgt := 41) hx hb dX11_psalm_18 (by decide) (fun hc => ?_) (fun hc => ?_)
    · have hw := hw.1 hc
      refine lv_bipush (v := (-2 : Int32)) hx hb dX11_psalm_41 (by decide) ?_
      exact zret_iw ⟨(0 : Int32), f_land_1, f_huts_1, f_singers_1, a_run⟩ zc hS hw hM dX11_psalm_43
    · have hw := hw.2 hc
      refine lv_iload_n hx hb dX11_psalm_21 rfl (lv_at hl 3 rfl) ?_
      refine lv_iconst (v := (0 : Int32)) hx hb dX11_psalm_22 (by decide) ?_
      refine lv_bipush (v := (99 : Int32)) hx hb dX11_psalm_23 (by decide) ?_
      refine zS_i [.int x3, .int (0 : Int32), .int (99 : Int32)] [] zc ky_X11_in kz_X11_in km_11_109 (c_m_in l hw) (zPre0 _) rfl rfl hl.1 (Nat.le_of_ble_eq_true rfl) ⟨rfl, rfl⟩ ⟨Nat.le_of_ble_eq_true rfl, Nat.le_of_ble_eq_true rfl⟩ ⟨(Nat.zero_le _), (Nat.zero_le _)⟩ dX11_psalm_25 (fun r_3 hw => ?_)
      refine lv_if_eq (tgt := 41) hx hb dX11_psalm_28 (by decide) (fun hc => ?_) (fun hc => ?_)
      · have hw := hw.1 hc
        refine lv_bipush (v := (-2 : Int32)) hx hb dX11_psalm_41 (by decide) ?_
        exact zret_iw ⟨(0 : Int32), f_land_1, f_huts_1, f_singers_1, a_run⟩ zc hS hw hM dX11_psalm_43
      · have hw := hw.2 hc
        refine lv_iload hx hb dX11_psalm_31 (lv_at hl 4 rfl) ?_
        refine lv_iconst (v := (0 : Int32)) hx hb dX11_psalm_33 (by decide) ?_
        refine lv_iconst (v := (2 : Int32)) hx hb dX11_psalm_34 (by decide) ?_
        refine zS_i [.int x4, .int (0 : Int32), .int (2 : Int32)] [] zc ky_X11_in kz_X11_in km_11_109 (c_m_in l hw) (zPre0 _) rfl rfl hl.1 (Nat.le_of_ble_eq_true rfl) ⟨rfl, rfl⟩ ⟨Nat.le_of_ble_eq_true rfl, Nat.le_of_ble_eq_true rfl⟩ ⟨(Nat.zero_le _), (Nat.zero_le _)⟩ dX11_psalm_35 (fun r_4 hw => ?_)
        refine lv_if_ne (tgt := 44) hx hb dX11_psalm_38 (by decide) (fun hc => ?_) (fun hc => ?_)
        · have hw := hw.1 hc
          refine lv_iconst (v := (0 : Int32)) hx hb dX11_psalm_44 (by decide) ?_
          refine lv_istore (lv' := [(5, .int (0 : Int32)), (0, .ref q), (1, .int x1), (2, .int x2), (3, .int x3), (4, .int x4)]) hx hb dX11_psalm_45 hl (by decide) rfl (fun ls hl => ?_)
          refine lv_iconst (v := (-1 : Int32)) hx hb dX11_psalm_47 (by decide) ?_
          refine lv_istore (lv' := [(6, .int (-1 : Int32)), (5, .int (0 : Int32)), (0, .ref q), (1, .int x1), (2, .int x2), (3, .int x3), (4, .int x4)]) hx hb dX11_psalm_48 hl (by decide) rfl (fun ls hl => ?_)
          refine lv_ldcw (v := (1000000 : Int32)) hx hb zc.2.2.2.1 (zc.2.2.2.2.1 _ kc_11_410) dX11_psalm_50 ?_
          refine lv_istore (lv' := [(7, .int (1000000 : Int32)), (6, .int (-1 : Int32)), (5, .int (0 : Int32)), (0, .ref q), (1, .int x1), (2, .int x2), (3, .int x3), (4, .int x4)]) hx hb dX11_psalm_53 hl (by decide) rfl (fun ls hl => ?_)
          refine lv_iconst (v := (0 : Int32)) hx hb dX11_psalm_55 (by decide) ?_
          refine lv_istore (lv' := [(8, .int (0 : Int32)), (7, .int (1000000 : Int32)), (6, .int (-1 : Int32)), (5, .int (0 : Int32)), (0, .ref q), (1, .int x1), (2, .int x2), (3, .int x3), (4, .int x4)]) hx hb dX11_psalm_56 hl (by decide) rfl (fun ls hl => ?_)
          exact t_m_psalm_58 zc hK hM hS  (lv_sub hl [4, 6, 7, 8, 3, 2, 1, 0] rfl) hw
        · have hw := hw.2 hc
          refine lv_bipush (v := (-2 : Int32)) hx hb dX11_psalm_41 (by decide) ?_
          exact zret_iw ⟨(0 : Int32), f_land_1, f_huts_1, f_singers_1, a_run⟩ zc hS hw hM dX11_psalm_43
set_option maxRecDepth 20000 in
theorem c_m_psalm (l : Launch) {E : zE} {q : Nat} {f_code : Int32} {a_tape : Nat → Int32} {a_size : Nat → Int32} {a_fault : Nat → Int32} {a_faultPlace : Nat → Int32} {a_many : Nat → Int32} {a_lands : Nat → Int32} {a_evenings : Nat → Int32} {a_sights : Nat → Int32} {a_choirs : Nat → Int32} {f_reached : Int32} {f_length : Int32} {f_begins : Int32} {f_sort : Int32} {f_value : Int32} {f_word : Int64} {f_wrongAt : Int32} {f_laterFault : Int32} {f_laterPlace : Int32} {a_told : Nat → Int32} {a_read : Nat → Int32} {f_farHut : Int32} {f_farSinger : Int32} {f_good : Int32} {f_land : Int32} {f_huts : Int32} {f_singers : Int32} {f_evening : Int32} {a_at : Nat → Int32} {a_knows : Nat → Int32} {a_climbed : Nat → Int32} {a_snow : Nat → Int32} {a_level : Nat → Int32} {f_begun : Int32} {f_minute : Int32} {f_avalanches : Int32} {a_run : Nat → Int32} {a_covers : Nat → Int32} {a_routes : Nat → Int32} {a_longest : Nat → Int32} {a_steep : Nat → Int32} {a_laid : Nat → Int32} {a_far : Nat → Int32} {f_sight : Int32} {a_runs : Nat → Int32} {f_choir : Int32} {f_voices : Int32} {a_rest : Nat → Int64} {a_wins : Nat → Int32} {f_seed : Int32} {a_other : Nat → Int32} {a_kept : Nat → Int32} {x1 : Int32} {x2 : Int32} {x3 : Int32} {x4 : Int32} {post : Int32 → (Int32) → (Int32) → (Int32) → (Int32) → (Nat → Int32) → Prop} (hw : q_m_psalm_0 f_code a_many a_lands f_land f_huts f_singers a_run x1 x2 x3 x4 post) : Met l yX11_psalm (Cond.code yX11_psalm cX11_psalm 9 (some .int) :: zb) rm_m_psalm (va_Pc [.ref q, .int x1, .int x2, .int x3, .int x4] (fun U => mW E q f_code a_tape a_size a_fault a_faultPlace a_many a_lands a_evenings a_sights a_choirs f_reached f_length f_begins f_sort f_value f_word f_wrongAt f_laterFault f_laterPlace a_told a_read f_farHut f_farSinger f_good f_land f_huts f_singers f_evening a_at a_knows a_climbed a_snow a_level f_begun f_minute f_avalanches a_run a_covers a_routes a_longest a_steep a_laid a_far f_sight a_runs f_choir f_voices a_rest a_wins f_seed a_other a_kept U.heap ∧ zK E U)) (zQi (S := (Int32) × (Int32) × (Int32) × (Int32) × (Nat → Int32)) (fun r u => post r u.1 u.2.1 u.2.2.1 u.2.2.2.1 u.2.2.2.2) (fun u H => mW E q u.1 a_tape a_size a_fault a_faultPlace a_many a_lands a_evenings a_sights a_choirs f_reached f_length f_begins f_sort f_value f_word f_wrongAt f_laterFault f_laterPlace a_told a_read f_farHut f_farSinger f_good u.2.1 u.2.2.1 u.2.2.2.1 f_evening a_at a_knows a_climbed a_snow a_level f_begun f_minute f_avalanches u.2.2.2.2 a_covers a_routes a_longest a_steep a_laid a_far f_sight a_runs f_choir f_voices a_rest a_wins f_seed a_other a_kept H) (mA q)) 0 0 (mA q) := by
  refine Met.ofW (cc := cX11_psalm) (maxL := 9) (ret := (some .int)) (by decide) rfl ?_
  intro p e s m args below meth c s₁ B hml hv
  obtain ⟨rfl, hM, hK⟩ := hv
  have zc := zc_of B hml
  have hl := lv_entry ([.ref q, .int x1, .int x2, .int x3, .int x4]) (n := 9) (Nat.le_of_ble_eq_true rfl)
  rw [lg_entry_eq]
  generalize (lg_sl ([.ref q, .int x1, .int x2, .int x3, .int x4]) ++ List.replicate (9 - (lg_sl ([.ref q, .int x1, .int x2, .int x3, .int x4])).length) Slot.unset).toArray = ls at hl ⊢
  have hl : lv_has ls 9 [(0, .ref q), (1, .int x1), (2, .int x2), (3, .int x3), (4, .int x4)] := hl
  exact t_m_psalm_0 zc hK hM va_S.rf (lv_sub hl [0, 1, 2, 3, 4] rfl) hw
-- m_meet
abbrev rm_m_meet : Room := { frames := 3, cells := 0, slots := 0, locals := 66 }
def q_m_meet_117 (P51 : Int32 → Int32 → Int32 → Prop) (f_code : Int32) (a_many : Nat → Int32) (a_lands : Nat → Int32) (f_land : Int32) (f_huts : Int32) (f_singers : Int32) (a_far : Nat → Int32) (x2 : Int32) (x3 : Int32) (x4 : Int32) (x6 : Int32) (x7 : Int32) (x8 : Int32) (y0 : Int32) (post : Int32 → (Int32) → (Int32) → (Int32) → (Int32) → (Nat → Int32) → Prop) : Prop :=
  q_m_lesser_0 x6 x8 (fun r_1 => ∀ v_1 : Int32, v_1 = x7 + (1 : Int32) → (P51 y0 r_1 v_1))
def q_m_meet_145 (f_code : Int32) (a_many : Nat → Int32) (a_lands : Nat → Int32) (f_land : Int32) (f_huts : Int32) (f_singers : Int32) (a_far : Nat → Int32) (x5 : Int32) (post : Int32 → (Int32) → (Int32) → (Int32) → (Int32) → (Nat → Int32) → Prop) : Prop :=
  post x5 f_code f_land f_huts f_singers a_far
def q_m_meet_51 (f_code : Int32) (a_many : Nat → Int32) (a_lands : Nat → Int32) (f_land : Int32) (f_huts : Int32) (f_singers : Int32) (a_far : Nat → Int32) (x2 : Int32) (x3 : Int32) (x4 : Int32) (x5 : Int32) (x6 : Int32) (x7 : Int32) (post : Int32 → (Int32) → (Int32) → (Int32) → (Int32) → (Nat → Int32) → Prop) : Prop :=
  ∀ P51 : Int32 → Int32 → Int32 → Prop, (∀ (x5 : Int32) (x6 : Int32) (x7 : Int32), ((f_huts ≤ x7 → ((x5 = (-1 : Int32) → (q_m_meet_145 f_code a_many a_lands f_land f_huts f_singers a_far x5 post)) ∧ (¬ x5 = (-1 : Int32) → ((¬ x4 = 0 → (post x6 f_code f_land f_huts f_singers a_far)) ∧ (x4 = 0 → (q_m_meet_145 f_code a_many a_lands f_land f_huts f_singers a_far x5 post)))))) ∧ (¬ f_huts ≤ x7 → (q_m_of_0 a_lands f_land ((25 : Int32) + x2) (fun r_1 => vp_in (((9 : Int32) * r_1) + x7) 81 ∧ (q_m_of_0 a_lands f_land ((25 : Int32) + x3) (fun r_2 => vp_in (((9 : Int32) * r_2) + x7) 81 ∧ (q_m_greater_0 (a_far (Int32.toNatClampNeg (((9 : Int32) * r_1) + x7))) (a_far (Int32.toNatClampNeg (((9 : Int32) * r_2) + x7))) (fun r_3 => (x6 ≤ r_3 → (q_m_meet_117 P51 f_code a_many a_lands f_land f_huts f_singers a_far x2 x3 x4 x6 x7 r_3 x5 post)) ∧ (¬ x6 ≤ r_3 → (q_m_meet_117 P51 f_code a_many a_lands f_land f_huts f_singers a_far x2 x3 x4 x6 x7 r_3 x7 post)))))))))) → P51 x5 x6 x7) → P51 x5 x6 x7
def q_m_meet_0 (f_code : Int32) (a_many : Nat → Int32) (a_lands : Nat → Int32) (f_land : Int32) (f_huts : Int32) (f_singers : Int32) (a_far : Nat → Int32) (x1 : Int32) (x2 : Int32) (x3 : Int32) (x4 : Int32) (post : Int32 → (Int32) → (Int32) → (Int32) → (Int32) → (Nat → Int32) → Prop) : Prop :=
  q_m_hand_0 a_many a_lands f_land f_huts f_singers x1 (fun r_1 f_land_1 f_huts_1 f_singers_1 => (r_1 = 0 → (post (-1 : Int32) (0 : Int32) f_land_1 f_huts_1 f_singers_1 a_far)) ∧ (¬ r_1 = 0 → (q_m_isSinger_0 f_singers_1 x2 (fun r_2 => (r_2 = 0 → (post (-1 : Int32) (0 : Int32) f_land_1 f_huts_1 f_singers_1 a_far)) ∧ (¬ r_2 = 0 → (q_m_isSinger_0 f_singers_1 x3 (fun r_3 => (r_3 = 0 → (post (-1 : Int32) (0 : Int32) f_land_1 f_huts_1 f_singers_1 a_far)) ∧ (¬ r_3 = 0 → ((¬ x2 = x3 → (q_m_findFar_0 a_lands f_land_1 f_huts_1 a_far (fun a_far_1 => q_m_meet_51 (0 : Int32) a_many a_lands f_land_1 f_huts_1 f_singers_1 a_far_1 x2 x3 x4 (-1 : Int32) (1000000 : Int32) (0 : Int32) post))) ∧ (x2 = x3 → (post (-1 : Int32) (0 : Int32) f_land_1 f_huts_1 f_singers_1 a_far)))))))))))
set_option maxRecDepth 20000 in
theorem t_m_meet_117 {p : Program} {l : Launch} {e : Env} {s : State} {m : MethodId} {args : Array Value} {below : List Frame} {meth : Method} {c : Code} {E : zE} {q : Nat} {f_code : Int32} {a_tape : Nat → Int32} {a_size : Nat → Int32} {a_fault : Nat → Int32} {a_faultPlace : Nat → Int32} {a_many : Nat → Int32} {a_lands : Nat → Int32} {a_evenings : Nat → Int32} {a_sights : Nat → Int32} {a_choirs : Nat → Int32} {f_reached : Int32} {f_length : Int32} {f_begins : Int32} {f_sort : Int32} {f_value : Int32} {f_word : Int64} {f_wrongAt : Int32} {f_laterFault : Int32} {f_laterPlace : Int32} {a_told : Nat → Int32} {a_read : Nat → Int32} {f_farHut : Int32} {f_farSinger : Int32} {f_good : Int32} {f_land : Int32} {f_huts : Int32} {f_singers : Int32} {f_evening : Int32} {a_at : Nat → Int32} {a_knows : Nat → Int32} {a_climbed : Nat → Int32} {a_snow : Nat → Int32} {a_level : Nat → Int32} {f_begun : Int32} {f_minute : Int32} {f_avalanches : Int32} {a_run : Nat → Int32} {a_covers : Nat → Int32} {a_routes : Nat → Int32} {a_longest : Nat → Int32} {a_steep : Nat → Int32} {a_laid : Nat → Int32} {a_far : Nat → Int32} {f_sight : Int32} {a_runs : Nat → Int32} {f_choir : Int32} {f_voices : Int32} {a_rest : Nat → Int64} {a_wins : Nat → Int32} {f_seed : Int32} {a_other : Nat → Int32} {a_kept : Nat → Int32} {P51 : Int32 → Int32 → Int32 → Prop} {post : Int32 → (Int32) → (Int32) → (Int32) → (Int32) → (Nat → Int32) → Prop} {x2 : Int32} {x3 : Int32} {x4 : Int32} {x6 : Int32} {x7 : Int32} {x8 : Int32} {y0 : Int32} {ls : Array Slot} {H : Heap} {locs : List Loc}
    (zc : zC p s m args meth c cX11_meet 9 RX11 (some .int))
    (hK : zK E s)
    (hM : mW E q f_code a_tape a_size a_fault a_faultPlace a_many a_lands a_evenings a_sights a_choirs f_reached f_length f_begins f_sort f_value f_word f_wrongAt f_laterFault f_laterPlace a_told a_read f_farHut f_farSinger f_good f_land f_huts f_singers f_evening a_at a_knows a_climbed a_snow a_level f_begun f_minute f_avalanches a_run a_covers a_routes a_longest a_steep a_laid a_far f_sight a_runs f_choir f_voices a_rest a_wins f_seed a_other a_kept H)
    (hS : va_S (mA q) s.heap H locs)
    (hP51 : ∀ (x5 : Int32) (x6 : Int32) (x7 : Int32) (H : Heap) (locs : List Loc) (ls : Array Slot), P51 x5 x6 x7 → lv_has ls 9 [(0, .ref q), (2, .int x2), (3, .int x3), (4, .int x4), (5, .int x5), (6, .int x6), (7, .int x7)] → mW E q f_code a_tape a_size a_fault a_faultPlace a_many a_lands a_evenings a_sights a_choirs f_reached f_length f_begins f_sort f_value f_word f_wrongAt f_laterFault f_laterPlace a_told a_read f_farHut f_farSinger f_good f_land f_huts f_singers f_evening a_at a_knows a_climbed a_snow a_level f_begun f_minute f_avalanches a_run a_covers a_routes a_longest a_steep a_laid a_far f_sight a_runs f_choir f_voices a_rest a_wins f_seed a_other a_kept H → va_S (mA q) s.heap H locs → W p l e rm_m_meet s m args below meth c H locs 0 0 (MQ below (zQi (S := (Int32) × (Int32) × (Int32) × (Int32) × (Nat → Int32)) (fun r u => post r u.1 u.2.1 u.2.2.1 u.2.2.2.1 u.2.2.2.2) (fun u H => mW E q u.1 a_tape a_size a_fault a_faultPlace a_many a_lands a_evenings a_sights a_choirs f_reached f_length f_begins f_sort f_value f_word f_wrongAt f_laterFault f_laterPlace a_told a_read f_farHut f_farSinger f_good u.2.1 u.2.2.1 u.2.2.2.1 f_evening a_at a_knows a_climbed a_snow a_level f_begun f_minute f_avalanches a_run a_covers a_routes a_longest a_steep a_laid u.2.2.2.2 f_sight a_runs f_choir f_voices a_rest a_wins f_seed a_other a_kept H) (mA q)) args s 0 0 (mA q)) (F0 m 51 ls []))
    (hl : lv_has ls 9 [(0, .ref q), (2, .int x2), (3, .int x3), (4, .int x4), (6, .int x6), (7, .int x7), (8, .int x8)])
    (hw : q_m_meet_117 P51 f_code a_many a_lands f_land f_huts f_singers a_far x2 x3 x4 x6 x7 x8 y0 post) :
    W p l e rm_m_meet s m args below meth c H locs 0 0 (MQ below (zQi (S := (Int32) × (Int32) × (Int32) × (Int32) × (Nat → Int32)) (fun r u => post r u.1 u.2.1 u.2.2.1 u.2.2.2.1 u.2.2.2.2) (fun u H => mW E q u.1 a_tape a_size a_fault a_faultPlace a_many a_lands a_evenings a_sights a_choirs f_reached f_length f_begins f_sort f_value f_word f_wrongAt f_laterFault f_laterPlace a_told a_read f_farHut f_farSinger f_good u.2.1 u.2.2.1 u.2.2.2.1 f_evening a_at a_knows a_climbed a_snow a_level f_begun f_minute f_avalanches a_run a_covers a_routes a_longest a_steep a_laid u.2.2.2.2 f_sight a_runs f_choir f_voices a_rest a_wins f_seed a_other a_kept H) (mA q)) args s 0 0 (mA q)) (F0 m 117 ls [.int y0]) := by
  have hx := zc.1
  have hb := zc.2.1
  refine lv_istore (lv' := [(5, .int y0), (0, .ref q), (2, .int x2), (3, .int x3), (4, .int x4), (6, .int x6), (7, .int x7), (8, .int x8)]) hx hb dX11_meet_117 hl (by decide) rfl (fun ls hl => ?_)
  refine lv_iload hx hb dX11_meet_119 (lv_at hl 5 rfl) ?_
  refine lv_iload hx hb dX11_meet_121 (lv_at hl 7 rfl) ?_
  refine zS_i [.int x6, .int x8] [] zc ky_X11_lesser kz_X11_lesser km_11_411 (c_m_lesser l hw) (zPre0 _) rfl rfl hl.1 (Nat.le_of_ble_eq_true rfl) ⟨rfl, rfl⟩ ⟨Nat.le_of_ble_eq_true rfl, Nat.le_of_ble_eq_true rfl⟩ ⟨(Nat.zero_le _), (Nat.zero_le _)⟩ dX11_meet_123 (fun r_1 hw => ?_)
  refine lv_istore (lv' := [(6, .int r_1), (5, .int y0), (0, .ref q), (2, .int x2), (3, .int x3), (4, .int x4), (7, .int x7), (8, .int x8)]) hx hb dX11_meet_126 hl (by decide) rfl (fun ls hl => ?_)
  obtain ⟨v_1, ev_1⟩ : ∃ y : Int32, y = x7 + (1 : Int32) := ⟨_, rfl⟩
  have hw := hw v_1 ev_1
  refine lv_iinc (v := v_1) (k := 6) (lv' := [(7, .int v_1), (6, .int r_1), (5, .int y0), (0, .ref q), (2, .int x2), (3, .int x3), (4, .int x4), (8, .int x8)]) hx hb dX11_meet_128 hl rfl (by rw [ev_1]; rfl) (by decide) rfl (fun ls hl => ?_)
  refine lv_goto (tgt := 51) hx hb dX11_meet_131 (by decide) ?_
  exact hP51 _ _ _ _ _ _ hw (lv_sub hl [3, 4, 5, 6, 2, 1, 0] rfl) hM hS
set_option maxRecDepth 20000 in
theorem t_m_meet_145 {p : Program} {l : Launch} {e : Env} {s : State} {m : MethodId} {args : Array Value} {below : List Frame} {meth : Method} {c : Code} {E : zE} {q : Nat} {f_code : Int32} {a_tape : Nat → Int32} {a_size : Nat → Int32} {a_fault : Nat → Int32} {a_faultPlace : Nat → Int32} {a_many : Nat → Int32} {a_lands : Nat → Int32} {a_evenings : Nat → Int32} {a_sights : Nat → Int32} {a_choirs : Nat → Int32} {f_reached : Int32} {f_length : Int32} {f_begins : Int32} {f_sort : Int32} {f_value : Int32} {f_word : Int64} {f_wrongAt : Int32} {f_laterFault : Int32} {f_laterPlace : Int32} {a_told : Nat → Int32} {a_read : Nat → Int32} {f_farHut : Int32} {f_farSinger : Int32} {f_good : Int32} {f_land : Int32} {f_huts : Int32} {f_singers : Int32} {f_evening : Int32} {a_at : Nat → Int32} {a_knows : Nat → Int32} {a_climbed : Nat → Int32} {a_snow : Nat → Int32} {a_level : Nat → Int32} {f_begun : Int32} {f_minute : Int32} {f_avalanches : Int32} {a_run : Nat → Int32} {a_covers : Nat → Int32} {a_routes : Nat → Int32} {a_longest : Nat → Int32} {a_steep : Nat → Int32} {a_laid : Nat → Int32} {a_far : Nat → Int32} {f_sight : Int32} {a_runs : Nat → Int32} {f_choir : Int32} {f_voices : Int32} {a_rest : Nat → Int64} {a_wins : Nat → Int32} {f_seed : Int32} {a_other : Nat → Int32} {a_kept : Nat → Int32} {post : Int32 → (Int32) → (Int32) → (Int32) → (Int32) → (Nat → Int32) → Prop} {x5 : Int32} {ls : Array Slot} {H : Heap} {locs : List Loc}
    (zc : zC p s m args meth c cX11_meet 9 RX11 (some .int))
    (hK : zK E s)
    (hM : mW E q f_code a_tape a_size a_fault a_faultPlace a_many a_lands a_evenings a_sights a_choirs f_reached f_length f_begins f_sort f_value f_word f_wrongAt f_laterFault f_laterPlace a_told a_read f_farHut f_farSinger f_good f_land f_huts f_singers f_evening a_at a_knows a_climbed a_snow a_level f_begun f_minute f_avalanches a_run a_covers a_routes a_longest a_steep a_laid a_far f_sight a_runs f_choir f_voices a_rest a_wins f_seed a_other a_kept H)
    (hS : va_S (mA q) s.heap H locs)
    (hl : lv_has ls 9 [(5, .int x5)])
    (hw : q_m_meet_145 f_code a_many a_lands f_land f_huts f_singers a_far x5 post) :
    W p l e rm_m_meet s m args below meth c H locs 0 0 (MQ below (zQi (S := (Int32) × (Int32) × (Int32) × (Int32) × (Nat → Int32)) (fun r u => post r u.1 u.2.1 u.2.2.1 u.2.2.2.1 u.2.2.2.2) (fun u H => mW E q u.1 a_tape a_size a_fault a_faultPlace a_many a_lands a_evenings a_sights a_choirs f_reached f_length f_begins f_sort f_value f_word f_wrongAt f_laterFault f_laterPlace a_told a_read f_farHut f_farSinger f_good u.2.1 u.2.2.1 u.2.2.2.1 f_evening a_at a_knows a_climbed a_snow a_level f_begun f_minute f_avalanches a_run a_covers a_routes a_longest a_steep a_laid u.2.2.2.2 f_sight a_runs f_choir f_voices a_rest a_wins f_seed a_other a_kept H) (mA q)) args s 0 0 (mA q)) (F0 m 145 ls []) := by
  have hx := zc.1
  have hb := zc.2.1
  refine lv_iload hx hb dX11_meet_145 (lv_at hl 0 rfl) ?_
  refine lv_goto (tgt := 152) hx hb dX11_meet_147 (by decide) ?_
  exact zret_iw ⟨f_code, f_land, f_huts, f_singers, a_far⟩ zc hS hw hM dX11_meet_152
set_option maxRecDepth 20000 in
theorem t_m_meet_51 {p : Program} {l : Launch} {e : Env} {s : State} {m : MethodId} {args : Array Value} {below : List Frame} {meth : Method} {c : Code} {E : zE} {q : Nat} {f_code : Int32} {a_tape : Nat → Int32} {a_size : Nat → Int32} {a_fault : Nat → Int32} {a_faultPlace : Nat → Int32} {a_many : Nat → Int32} {a_lands : Nat → Int32} {a_evenings : Nat → Int32} {a_sights : Nat → Int32} {a_choirs : Nat → Int32} {f_reached : Int32} {f_length : Int32} {f_begins : Int32} {f_sort : Int32} {f_value : Int32} {f_word : Int64} {f_wrongAt : Int32} {f_laterFault : Int32} {f_laterPlace : Int32} {a_told : Nat → Int32} {a_read : Nat → Int32} {f_farHut : Int32} {f_farSinger : Int32} {f_good : Int32} {f_land : Int32} {f_huts : Int32} {f_singers : Int32} {f_evening : Int32} {a_at : Nat → Int32} {a_knows : Nat → Int32} {a_climbed : Nat → Int32} {a_snow : Nat → Int32} {a_level : Nat → Int32} {f_begun : Int32} {f_minute : Int32} {f_avalanches : Int32} {a_run : Nat → Int32} {a_covers : Nat → Int32} {a_routes : Nat → Int32} {a_longest : Nat → Int32} {a_steep : Nat → Int32} {a_laid : Nat → Int32} {a_far : Nat → Int32} {f_sight : Int32} {a_runs : Nat → Int32} {f_choir : Int32} {f_voices : Int32} {a_rest : Nat → Int64} {a_wins : Nat → Int32} {f_seed : Int32} {a_other : Nat → Int32} {a_kept : Nat → Int32} {post : Int32 → (Int32) → (Int32) → (Int32) → (Int32) → (Nat → Int32) → Prop} {x2 : Int32} {x3 : Int32} {x4 : Int32} {x5 : Int32} {x6 : Int32} {x7 : Int32} {ls : Array Slot} {H : Heap} {locs : List Loc}
    (zc : zC p s m args meth c cX11_meet 9 RX11 (some .int))
    (hK : zK E s)
    (hM : mW E q f_code a_tape a_size a_fault a_faultPlace a_many a_lands a_evenings a_sights a_choirs f_reached f_length f_begins f_sort f_value f_word f_wrongAt f_laterFault f_laterPlace a_told a_read f_farHut f_farSinger f_good f_land f_huts f_singers f_evening a_at a_knows a_climbed a_snow a_level f_begun f_minute f_avalanches a_run a_covers a_routes a_longest a_steep a_laid a_far f_sight a_runs f_choir f_voices a_rest a_wins f_seed a_other a_kept H)
    (hS : va_S (mA q) s.heap H locs)
    (hl : lv_has ls 9 [(0, .ref q), (2, .int x2), (3, .int x3), (4, .int x4), (5, .int x5), (6, .int x6), (7, .int x7)])
    (hw : q_m_meet_51 f_code a_many a_lands f_land f_huts f_singers a_far x2 x3 x4 x5 x6 x7 post) :
    W p l e rm_m_meet s m args below meth c H locs 0 0 (MQ below (zQi (S := (Int32) × (Int32) × (Int32) × (Int32) × (Nat → Int32)) (fun r u => post r u.1 u.2.1 u.2.2.1 u.2.2.2.1 u.2.2.2.2) (fun u H => mW E q u.1 a_tape a_size a_fault a_faultPlace a_many a_lands a_evenings a_sights a_choirs f_reached f_length f_begins f_sort f_value f_word f_wrongAt f_laterFault f_laterPlace a_told a_read f_farHut f_farSinger f_good u.2.1 u.2.2.1 u.2.2.2.1 f_evening a_at a_knows a_climbed a_snow a_level f_begun f_minute f_avalanches a_run a_covers a_routes a_longest a_steep a_laid u.2.2.2.2 f_sight a_runs f_choir f_voices a_rest a_wins f_seed a_other a_kept H) (mA q)) args s 0 0 (mA q)) (F0 m 51 ls []) := by
  have hx := zc.1
  have hb := zc.2.1
  refine hw (fun x5 x6 x7 => ∀ (H : Heap) (locs : List Loc) (ls : Array Slot), lv_has ls 9 [(0, .ref q), (2, .int x2), (3, .int x3), (4, .int x4), (5, .int x5), (6, .int x6), (7, .int x7)] → mW E q f_code a_tape a_size a_fault a_faultPlace a_many a_lands a_evenings a_sights a_choirs f_reached f_length f_begins f_sort f_value f_word f_wrongAt f_laterFault f_laterPlace a_told a_read f_farHut f_farSinger f_good f_land f_huts f_singers f_evening a_at a_knows a_climbed a_snow a_level f_begun f_minute f_avalanches a_run a_covers a_routes a_longest a_steep a_laid a_far f_sight a_runs f_choir f_voices a_rest a_wins f_seed a_other a_kept H → va_S (mA q) s.heap H locs → W p l e rm_m_meet s m args below meth c H locs 0 0 (MQ below (zQi (S := (Int32) × (Int32) × (Int32) × (Int32) × (Nat → Int32)) (fun r u => post r u.1 u.2.1 u.2.2.1 u.2.2.2.1 u.2.2.2.2) (fun u H => mW E q u.1 a_tape a_size a_fault a_faultPlace a_many a_lands a_evenings a_sights a_choirs f_reached f_length f_begins f_sort f_value f_word f_wrongAt f_laterFault f_laterPlace a_told a_read f_farHut f_farSinger f_good u.2.1 u.2.2.1 u.2.2.2.1 f_evening a_at a_knows a_climbed a_snow a_level f_begun f_minute f_avalanches a_run a_covers a_routes a_longest a_steep a_laid u.2.2.2.2 f_sight a_runs f_choir f_voices a_rest a_wins f_seed a_other a_kept H) (mA q)) args s 0 0 (mA q)) (F0 m 51 ls [])) ?_ _ _ _ hl hM hS
  intro x5 x6 x7 hw H locs ls hl hM hS
  refine lv_iload hx hb dX11_meet_51 (lv_at hl 6 rfl) ?_
  refine lv_aload_n hx hb dX11_meet_53 rfl (lv_at hl 0 rfl) ?_
  refine mg_11_307_0 zc hK hM dX11_meet_54 ?_
  refine lv_icmp_ge (tgt := 134) hx hb dX11_meet_57 (by decide) (fun hc => ?_) (fun hc => ?_)
  · have hw := hw.1 hc
    refine lv_iload hx hb dX11_meet_134 (lv_at hl 4 rfl) ?_
    refine lv_iconst (v := (-1 : Int32)) hx hb dX11_meet_136 (by decide) ?_
    refine lv_icmp_eq (tgt := 145) hx hb dX11_meet_137 (by decide) (fun hc => ?_) (fun hc => ?_)
    · have hw := hw.1 hc
      exact t_m_meet_145 zc hK hM hS  (lv_sub hl [4] rfl) hw
    · have hw := hw.2 hc
      refine lv_iload hx hb dX11_meet_140 (lv_at hl 3 rfl) ?_
      refine lv_if_ne (tgt := 150) hx hb dX11_meet_142 (by decide) (fun hc => ?_) (fun hc => ?_)
      · have hw := hw.1 hc
        refine lv_iload hx hb dX11_meet_150 (lv_at hl 5 rfl) ?_
        exact zret_iw ⟨f_code, f_land, f_huts, f_singers, a_far⟩ zc hS hw hM dX11_meet_152
      · have hw := hw.2 hc
        exact t_m_meet_145 zc hK hM hS  (lv_sub hl [4] rfl) hw
  · have hw := hw.2 hc
    refine lv_aload_n hx hb dX11_meet_60 rfl (lv_at hl 0 rfl) ?_
    refine mg_11_78_0 zc hK hM dX11_meet_61 ?_
    refine lv_bipush (v := (9 : Int32)) hx hb dX11_meet_64 (by decide) ?_
    refine lv_aload_n hx hb dX11_meet_66 rfl (lv_at hl 0 rfl) ?_
    refine lv_bipush (v := (25 : Int32)) hx hb dX11_meet_67 (by decide) ?_
    refine lv_iload_n hx hb dX11_meet_69 rfl (lv_at hl 1 rfl) ?_
    refine lv_iadd hx hb dX11_meet_70 ?_
    refine zV_i [.int ((25 : Int32) + x2)] [.int (9 : Int32), .ref (q + 23)] zc ky_X11_of kz_X11_of km_11_303 (c_m_of l hw) (mPreV0 hK hM) rfl rfl hl.1 (Nat.le_of_ble_eq_true rfl) ⟨rfl, rfl⟩ ⟨Nat.le_of_ble_eq_true rfl, Nat.le_of_ble_eq_true rfl⟩ ⟨(Nat.zero_le _), (Nat.zero_le _)⟩ dX11_meet_71 (fun r_1 hw => ?_)
    refine lv_imul hx hb dX11_meet_74 ?_
    refine lv_iload hx hb dX11_meet_75 (lv_at hl 6 rfl) ?_
    refine lv_iadd hx hb dX11_meet_77 ?_
    refine mld_23 zc hK hM hw.1 dX11_meet_78 ?_
    have hw := hw.2
    refine lv_aload_n hx hb dX11_meet_79 rfl (lv_at hl 0 rfl) ?_
    refine mg_11_78_0 zc hK hM dX11_meet_80 ?_
    refine lv_bipush (v := (9 : Int32)) hx hb dX11_meet_83 (by decide) ?_
    refine lv_aload_n hx hb dX11_meet_85 rfl (lv_at hl 0 rfl) ?_
    refine lv_bipush (v := (25 : Int32)) hx hb dX11_meet_86 (by decide) ?_
    refine lv_iload_n hx hb dX11_meet_88 rfl (lv_at hl 2 rfl) ?_
    refine lv_iadd hx hb dX11_meet_89 ?_
    refine zV_i [.int ((25 : Int32) + x3)] [.int (9 : Int32), .ref (q + 23), .int (a_far (Int32.toNatClampNeg (((9 : Int32) * r_1) + x7)))] zc ky_X11_of kz_X11_of km_11_303 (c_m_of l hw) (mPreV0 hK hM) rfl rfl hl.1 (Nat.le_of_ble_eq_true rfl) ⟨rfl, rfl⟩ ⟨Nat.le_of_ble_eq_true rfl, Nat.le_of_ble_eq_true rfl⟩ ⟨(Nat.zero_le _), (Nat.zero_le _)⟩ dX11_meet_90 (fun r_2 hw => ?_)
    refine lv_imul hx hb dX11_meet_93 ?_
    refine lv_iload hx hb dX11_meet_94 (lv_at hl 6 rfl) ?_
    refine lv_iadd hx hb dX11_meet_96 ?_
    refine mld_23 zc hK hM hw.1 dX11_meet_97 ?_
    have hw := hw.2
    refine zS_i [.int (a_far (Int32.toNatClampNeg (((9 : Int32) * r_1) + x7))), .int (a_far (Int32.toNatClampNeg (((9 : Int32) * r_2) + x7)))] [] zc ky_X11_greater kz_X11_greater km_11_171 (c_m_greater l hw) (zPre0 _) rfl rfl hl.1 (Nat.le_of_ble_eq_true rfl) ⟨rfl, rfl⟩ ⟨Nat.le_of_ble_eq_true rfl, Nat.le_of_ble_eq_true rfl⟩ ⟨(Nat.zero_le _), (Nat.zero_le _)⟩ dX11_meet_98 (fun r_3 hw => ?_)
    refine lv_istore (lv' := [(8, .int r_3), (0, .ref q), (2, .int x2), (3, .int x3), (4, .int x4), (5, .int x5), (6, .int x6), (7, .int x7)]) hx hb dX11_meet_101 hl (by decide) rfl (fun ls hl => ?_)
    refine lv_iload hx hb dX11_meet_103 (lv_at hl 0 rfl) ?_
    refine lv_iload hx hb dX11_meet_105 (lv_at hl 6 rfl) ?_
    refine lv_icmp_ge (tgt := 115) hx hb dX11_meet_107 (by decide) (fun hc => ?_) (fun hc => ?_)
    · have hw := hw.1 hc
      refine lv_iload hx hb dX11_meet_115 (lv_at hl 5 rfl) ?_
      exact t_m_meet_117 zc hK hM hS (fun _ _ _ H locs ls h hl hM hS => h H locs ls hl hM hS) (lv_sub hl [1, 2, 3, 4, 6, 7, 0] rfl) hw
    · have hw := hw.2 hc
      refine lv_iload hx hb dX11_meet_110 (lv_at hl 7 rfl) ?_
      refine lv_goto (tgt := 117) hx hb dX11_meet_112 (by decide) ?_
      exact t_m_meet_117 zc hK hM hS (fun _ _ _ H locs ls h hl hM hS => h H locs ls hl hM hS) (lv_sub hl [1, 2, 3, 4, 6, 7, 0] rfl) hw
set_option maxRecDepth 20000 in
theorem t_m_meet_0 {p : Program} {l : Launch} {e : Env} {s : State} {m : MethodId} {args : Array Value} {below : List Frame} {meth : Method} {c : Code} {E : zE} {q : Nat} {f_code : Int32} {a_tape : Nat → Int32} {a_size : Nat → Int32} {a_fault : Nat → Int32} {a_faultPlace : Nat → Int32} {a_many : Nat → Int32} {a_lands : Nat → Int32} {a_evenings : Nat → Int32} {a_sights : Nat → Int32} {a_choirs : Nat → Int32} {f_reached : Int32} {f_length : Int32} {f_begins : Int32} {f_sort : Int32} {f_value : Int32} {f_word : Int64} {f_wrongAt : Int32} {f_laterFault : Int32} {f_laterPlace : Int32} {a_told : Nat → Int32} {a_read : Nat → Int32} {f_farHut : Int32} {f_farSinger : Int32} {f_good : Int32} {f_land : Int32} {f_huts : Int32} {f_singers : Int32} {f_evening : Int32} {a_at : Nat → Int32} {a_knows : Nat → Int32} {a_climbed : Nat → Int32} {a_snow : Nat → Int32} {a_level : Nat → Int32} {f_begun : Int32} {f_minute : Int32} {f_avalanches : Int32} {a_run : Nat → Int32} {a_covers : Nat → Int32} {a_routes : Nat → Int32} {a_longest : Nat → Int32} {a_steep : Nat → Int32} {a_laid : Nat → Int32} {a_far : Nat → Int32} {f_sight : Int32} {a_runs : Nat → Int32} {f_choir : Int32} {f_voices : Int32} {a_rest : Nat → Int64} {a_wins : Nat → Int32} {f_seed : Int32} {a_other : Nat → Int32} {a_kept : Nat → Int32} {post : Int32 → (Int32) → (Int32) → (Int32) → (Int32) → (Nat → Int32) → Prop} {x1 : Int32} {x2 : Int32} {x3 : Int32} {x4 : Int32} {ls : Array Slot} {H : Heap} {locs : List Loc}
    (zc : zC p s m args meth c cX11_meet 9 RX11 (some .int))
    (hK : zK E s)
    (hM : mW E q f_code a_tape a_size a_fault a_faultPlace a_many a_lands a_evenings a_sights a_choirs f_reached f_length f_begins f_sort f_value f_word f_wrongAt f_laterFault f_laterPlace a_told a_read f_farHut f_farSinger f_good f_land f_huts f_singers f_evening a_at a_knows a_climbed a_snow a_level f_begun f_minute f_avalanches a_run a_covers a_routes a_longest a_steep a_laid a_far f_sight a_runs f_choir f_voices a_rest a_wins f_seed a_other a_kept H)
    (hS : va_S (mA q) s.heap H locs)
    (hl : lv_has ls 9 [(0, .ref q), (1, .int x1), (2, .int x2), (3, .int x3), (4, .int x4)])
    (hw : q_m_meet_0 f_code a_many a_lands f_land f_huts f_singers a_far x1 x2 x3 x4 post) :
    W p l e rm_m_meet s m args below meth c H locs 0 0 (MQ below (zQi (S := (Int32) × (Int32) × (Int32) × (Int32) × (Nat → Int32)) (fun r u => post r u.1 u.2.1 u.2.2.1 u.2.2.2.1 u.2.2.2.2) (fun u H => mW E q u.1 a_tape a_size a_fault a_faultPlace a_many a_lands a_evenings a_sights a_choirs f_reached f_length f_begins f_sort f_value f_word f_wrongAt f_laterFault f_laterPlace a_told a_read f_farHut f_farSinger f_good u.2.1 u.2.2.1 u.2.2.2.1 f_evening a_at a_knows a_climbed a_snow a_level f_begun f_minute f_avalanches a_run a_covers a_routes a_longest a_steep a_laid u.2.2.2.2 f_sight a_runs f_choir f_voices a_rest a_wins f_seed a_other a_kept H) (mA q)) args s 0 0 (mA q)) (F0 m 0 ls []) := by
  have hx := zc.1
  have hb := zc.2.1
  refine lv_aload_n hx hb dX11_meet_0 rfl (lv_at hl 0 rfl) ?_
  refine lv_iconst (v := (0 : Int32)) hx hb dX11_meet_1 (by decide) ?_
  refine mp_11_97_0 zc hK hM hS dX11_meet_2 (fun H locs hM hS => ?_)
  refine lv_aload_n hx hb dX11_meet_5 rfl (lv_at hl 0 rfl) ?_
  refine lv_iload_n hx hb dX11_meet_6 rfl (lv_at hl 1 rfl) ?_
  refine zVw_i [.int x1] [] zc ky_X11_hand kz_X11_hand km_11_313 (c_m_hand l hw) (mPreV0 hK hM) hS rfl rfl hl.1 (Nat.le_of_ble_eq_true rfl) ⟨rfl, rfl⟩ ⟨Nat.le_of_ble_eq_true rfl, Nat.le_of_ble_eq_true rfl⟩ ⟨(Nat.zero_le _), (Nat.zero_le _)⟩ dX11_meet_7 (fun r_1 u H locs hw hM hS => ?_)
  obtain ⟨f_land_1, f_huts_1, f_singers_1⟩ := u
  refine lv_if_eq (tgt := 34) hx hb dX11_meet_10 (by decide) (fun hc => ?_) (fun hc => ?_)
  · have hw := hw.1 hc
    refine lv_iconst (v := (-1 : Int32)) hx hb dX11_meet_34 (by decide) ?_
    exact zret_iw ⟨(0 : Int32), f_land_1, f_huts_1, f_singers_1, a_far⟩ zc hS hw hM dX11_meet_35
  · have hw := hw.2 hc
    refine lv_aload_n hx hb dX11_meet_13 rfl (lv_at hl 0 rfl) ?_
    refine lv_iload_n hx hb dX11_meet_14 rfl (lv_at hl 2 rfl) ?_
    refine zV_i [.int x2] [] zc ky_X11_isSinger kz_X11_isSinger km_11_325 (c_m_isSinger l hw) (mPreV0 hK hM) rfl rfl hl.1 (Nat.le_of_ble_eq_true rfl) ⟨rfl, rfl⟩ ⟨Nat.le_of_ble_eq_true rfl, Nat.le_of_ble_eq_true rfl⟩ ⟨(Nat.zero_le _), (Nat.zero_le _)⟩ dX11_meet_15 (fun r_2 hw => ?_)
    refine lv_if_eq (tgt := 34) hx hb dX11_meet_18 (by decide) (fun hc => ?_) (fun hc => ?_)
    · have hw := hw.1 hc
      refine lv_iconst (v := (-1 : Int32)) hx hb dX11_meet_34 (by decide) ?_
      exact zret_iw ⟨(0 : Int32), f_land_1, f_huts_1, f_singers_1, a_far⟩ zc hS hw hM dX11_meet_35
    · have hw := hw.2 hc
      refine lv_aload_n hx hb dX11_meet_21 rfl (lv_at hl 0 rfl) ?_
      refine lv_iload_n hx hb dX11_meet_22 rfl (lv_at hl 3 rfl) ?_
      refine zV_i [.int x3] [] zc ky_X11_isSinger kz_X11_isSinger km_11_325 (c_m_isSinger l hw) (mPreV0 hK hM) rfl rfl hl.1 (Nat.le_of_ble_eq_true rfl) ⟨rfl, rfl⟩ ⟨Nat.le_of_ble_eq_true rfl, Nat.le_of_ble_eq_true rfl⟩ ⟨(Nat.zero_le _), (Nat.zero_le _)⟩ dX11_meet_23 (fun r_3 hw => ?_)
      refine lv_if_eq (tgt := 34) hx hb dX11_meet_26 (by decide) (fun hc => ?_) (fun hc => ?_)
      · have hw := hw.1 hc
        refine lv_iconst (v := (-1 : Int32)) hx hb dX11_meet_34 (by decide) ?_
        exact zret_iw ⟨(0 : Int32), f_land_1, f_huts_1, f_singers_1, a_far⟩ zc hS hw hM dX11_meet_35
      · have hw := hw.2 hc
        refine lv_iload_n hx hb dX11_meet_29 rfl (lv_at hl 2 rfl) ?_
        refine lv_iload_n hx hb dX11_meet_30 rfl (lv_at hl 3 rfl) ?_
        refine lv_icmp_ne (tgt := 36) hx hb dX11_meet_31 (by decide) (fun hc => ?_) (fun hc => ?_)
        · have hw := hw.1 hc
          refine lv_aload_n hx hb dX11_meet_36 rfl (lv_at hl 0 rfl) ?_
          refine zVw_v [] [] zc ky_X11_findFar kz_X11_findFar km_11_454 (c_m_findFar l hw) (mPreV0 hK hM) hS rfl rfl hl.1 (Nat.le_of_ble_eq_true rfl) ⟨rfl, rfl⟩ ⟨Nat.le_of_ble_eq_true rfl, Nat.le_of_ble_eq_true rfl⟩ ⟨(Nat.zero_le _), (Nat.zero_le _)⟩ dX11_meet_37 (fun a_far_1 H locs hw hM hS => ?_)
          refine lv_iconst (v := (-1 : Int32)) hx hb dX11_meet_40 (by decide) ?_
          refine lv_istore (lv' := [(5, .int (-1 : Int32)), (0, .ref q), (1, .int x1), (2, .int x2), (3, .int x3), (4, .int x4)]) hx hb dX11_meet_41 hl (by decide) rfl (fun ls hl => ?_)
          refine lv_ldcw (v := (1000000 : Int32)) hx hb zc.2.2.2.1 (zc.2.2.2.2.1 _ kc_11_410) dX11_meet_43 ?_
          refine lv_istore (lv' := [(6, .int (1000000 : Int32)), (5, .int (-1 : Int32)), (0, .ref q), (1, .int x1), (2, .int x2), (3, .int x3), (4, .int x4)]) hx hb dX11_meet_46 hl (by decide) rfl (fun ls hl => ?_)
          refine lv_iconst (v := (0 : Int32)) hx hb dX11_meet_48 (by decide) ?_
          refine lv_istore (lv' := [(7, .int (0 : Int32)), (6, .int (1000000 : Int32)), (5, .int (-1 : Int32)), (0, .ref q), (1, .int x1), (2, .int x2), (3, .int x3), (4, .int x4)]) hx hb dX11_meet_49 hl (by decide) rfl (fun ls hl => ?_)
          exact t_m_meet_51 zc hK hM hS  (lv_sub hl [3, 5, 6, 7, 2, 1, 0] rfl) hw
        · have hw := hw.2 hc
          refine lv_iconst (v := (-1 : Int32)) hx hb dX11_meet_34 (by decide) ?_
          exact zret_iw ⟨(0 : Int32), f_land_1, f_huts_1, f_singers_1, a_far⟩ zc hS hw hM dX11_meet_35
set_option maxRecDepth 20000 in
theorem c_m_meet (l : Launch) {E : zE} {q : Nat} {f_code : Int32} {a_tape : Nat → Int32} {a_size : Nat → Int32} {a_fault : Nat → Int32} {a_faultPlace : Nat → Int32} {a_many : Nat → Int32} {a_lands : Nat → Int32} {a_evenings : Nat → Int32} {a_sights : Nat → Int32} {a_choirs : Nat → Int32} {f_reached : Int32} {f_length : Int32} {f_begins : Int32} {f_sort : Int32} {f_value : Int32} {f_word : Int64} {f_wrongAt : Int32} {f_laterFault : Int32} {f_laterPlace : Int32} {a_told : Nat → Int32} {a_read : Nat → Int32} {f_farHut : Int32} {f_farSinger : Int32} {f_good : Int32} {f_land : Int32} {f_huts : Int32} {f_singers : Int32} {f_evening : Int32} {a_at : Nat → Int32} {a_knows : Nat → Int32} {a_climbed : Nat → Int32} {a_snow : Nat → Int32} {a_level : Nat → Int32} {f_begun : Int32} {f_minute : Int32} {f_avalanches : Int32} {a_run : Nat → Int32} {a_covers : Nat → Int32} {a_routes : Nat → Int32} {a_longest : Nat → Int32} {a_steep : Nat → Int32} {a_laid : Nat → Int32} {a_far : Nat → Int32} {f_sight : Int32} {a_runs : Nat → Int32} {f_choir : Int32} {f_voices : Int32} {a_rest : Nat → Int64} {a_wins : Nat → Int32} {f_seed : Int32} {a_other : Nat → Int32} {a_kept : Nat → Int32} {x1 : Int32} {x2 : Int32} {x3 : Int32} {x4 : Int32} {post : Int32 → (Int32) → (Int32) → (Int32) → (Int32) → (Nat → Int32) → Prop} (hw : q_m_meet_0 f_code a_many a_lands f_land f_huts f_singers a_far x1 x2 x3 x4 post) : Met l yX11_meet (Cond.code yX11_meet cX11_meet 9 (some .int) :: zb) rm_m_meet (va_Pc [.ref q, .int x1, .int x2, .int x3, .int x4] (fun U => mW E q f_code a_tape a_size a_fault a_faultPlace a_many a_lands a_evenings a_sights a_choirs f_reached f_length f_begins f_sort f_value f_word f_wrongAt f_laterFault f_laterPlace a_told a_read f_farHut f_farSinger f_good f_land f_huts f_singers f_evening a_at a_knows a_climbed a_snow a_level f_begun f_minute f_avalanches a_run a_covers a_routes a_longest a_steep a_laid a_far f_sight a_runs f_choir f_voices a_rest a_wins f_seed a_other a_kept U.heap ∧ zK E U)) (zQi (S := (Int32) × (Int32) × (Int32) × (Int32) × (Nat → Int32)) (fun r u => post r u.1 u.2.1 u.2.2.1 u.2.2.2.1 u.2.2.2.2) (fun u H => mW E q u.1 a_tape a_size a_fault a_faultPlace a_many a_lands a_evenings a_sights a_choirs f_reached f_length f_begins f_sort f_value f_word f_wrongAt f_laterFault f_laterPlace a_told a_read f_farHut f_farSinger f_good u.2.1 u.2.2.1 u.2.2.2.1 f_evening a_at a_knows a_climbed a_snow a_level f_begun f_minute f_avalanches a_run a_covers a_routes a_longest a_steep a_laid u.2.2.2.2 f_sight a_runs f_choir f_voices a_rest a_wins f_seed a_other a_kept H) (mA q)) 0 0 (mA q) := by
  refine Met.ofW (cc := cX11_meet) (maxL := 9) (ret := (some .int)) (by decide) rfl ?_
  intro p e s m args below meth c s₁ B hml hv
  obtain ⟨rfl, hM, hK⟩ := hv
  have zc := zc_of B hml
  have hl := lv_entry ([.ref q, .int x1, .int x2, .int x3, .int x4]) (n := 9) (Nat.le_of_ble_eq_true rfl)
  rw [lg_entry_eq]
  generalize (lg_sl ([.ref q, .int x1, .int x2, .int x3, .int x4]) ++ List.replicate (9 - (lg_sl ([.ref q, .int x1, .int x2, .int x3, .int x4])).length) Slot.unset).toArray = ls at hl ⊢
  have hl : lv_has ls 9 [(0, .ref q), (1, .int x1), (2, .int x2), (3, .int x3), (4, .int x4)] := hl
  exact t_m_meet_0 zc hK hM va_S.rf (lv_sub hl [0, 1, 2, 3, 4] rfl) hw
end
section
-- m_carry
abbrev rm_m_carry : Room := { frames := 3, cells := 0, slots := 0, locals := 70 }
def q_m_carry_136 (f_code : Int32) (a_many : Nat → Int32) (a_lands : Nat → Int32) (f_land : Int32) (f_huts : Int32) (f_singers : Int32) (a_run : Nat → Int32) (a_far : Nat → Int32) (x4 : Int32) (post : Int32 → (Int32) → (Int32) → (Int32) → (Int32) → (Nat → Int32) → (Nat → Int32) → Prop) : Prop :=
  post x4 f_code f_land f_huts f_singers a_run a_far
def q_m_carry_109 (P38 : Int32 → Int32 → Int32 → (Nat → Int32) → Prop) (f_code : Int32) (a_many : Nat → Int32) (a_lands : Nat → Int32) (f_land : Int32) (f_huts : Int32) (f_singers : Int32) (a_run : Nat → Int32) (a_far : Nat → Int32) (x2 : Int32) (x3 : Int32) (x5 : Int32) (x6 : Int32) (x7 : Int32) (y0 : Int32) (post : Int32 → (Int32) → (Int32) → (Int32) → (Int32) → (Nat → Int32) → (Nat → Int32) → Prop) : Prop :=
  q_m_lesser_0 x5 x7 (fun r_1 => ∀ v_1 : Int32, v_1 = x6 + (1 : Int32) → (P38 y0 r_1 v_1 a_run))
def q_m_carry_93 (P38 : Int32 → Int32 → Int32 → (Nat → Int32) → Prop) (f_code : Int32) (a_many : Nat → Int32) (a_lands : Nat → Int32) (f_land : Int32) (f_huts : Int32) (f_singers : Int32) (a_run : Nat → Int32) (a_far : Nat → Int32) (x2 : Int32) (x3 : Int32) (x4 : Int32) (x5 : Int32) (x6 : Int32) (y0 : Int32) (post : Int32 → (Int32) → (Int32) → (Int32) → (Int32) → (Nat → Int32) → (Nat → Int32) → Prop) : Prop :=
  (x5 ≤ y0 → (q_m_carry_109 P38 f_code a_many a_lands f_land f_huts f_singers a_run a_far x2 x3 x5 x6 y0 x4 post)) ∧ (¬ x5 ≤ y0 → (q_m_carry_109 P38 f_code a_many a_lands f_land f_huts f_singers a_run a_far x2 x3 x5 x6 y0 x6 post))
def q_m_carry_38 (f_code : Int32) (a_many : Nat → Int32) (a_lands : Nat → Int32) (f_land : Int32) (f_huts : Int32) (f_singers : Int32) (a_run : Nat → Int32) (a_far : Nat → Int32) (x2 : Int32) (x3 : Int32) (x4 : Int32) (x5 : Int32) (x6 : Int32) (post : Int32 → (Int32) → (Int32) → (Int32) → (Int32) → (Nat → Int32) → (Nat → Int32) → Prop) : Prop :=
  ∀ P38 : Int32 → Int32 → Int32 → (Nat → Int32) → Prop, (∀ (x4 : Int32) (x5 : Int32) (x6 : Int32) (a_run : Nat → Int32), ((f_huts ≤ x6 → ((x4 = (-1 : Int32) → (q_m_carry_136 f_code a_many a_lands f_land f_huts f_singers a_run a_far x4 post)) ∧ (¬ x4 = (-1 : Int32) → ((¬ x3 = 0 → (post x5 f_code f_land f_huts f_singers a_run a_far)) ∧ (x3 = 0 → (q_m_carry_136 f_code a_many a_lands f_land f_huts f_singers a_run a_far x4 post)))))) ∧ (¬ f_huts ≤ x6 → (q_m_findRun_0 a_lands f_land f_huts a_run x6 (0 : Int32) (fun a_run_1 => q_m_isDam_0 a_lands f_land x6 (fun r_1 => (r_1 = 0 → (q_m_of_0 a_lands f_land ((25 : Int32) + x2) (fun r_2 => vp_in (((9 : Int32) * r_2) + x6) 81 ∧ (q_m_lastVillage_0 a_lands f_land f_huts a_run_1 (fun r_3 => q_m_carry_93 P38 f_code a_many a_lands f_land f_huts f_singers a_run_1 a_far x2 x3 x4 x5 x6 ((a_far (Int32.toNatClampNeg (((9 : Int32) * r_2) + x6))) + r_3) post))))) ∧ (¬ r_1 = 0 → (q_m_carry_93 P38 f_code a_many a_lands f_land f_huts f_singers a_run_1 a_far x2 x3 x4 x5 x6 (1000000 : Int32) post))))))) → P38 x4 x5 x6 a_run) → P38 x4 x5 x6 a_run
def q_m_carry_0 (f_code : Int32) (a_many : Nat → Int32) (a_lands : Nat → Int32) (f_land : Int32) (f_huts : Int32) (f_singers : Int32) (a_run : Nat → Int32) (a_far : Nat → Int32) (x1 : Int32) (x2 : Int32) (x3 : Int32) (post : Int32 → (Int32) → (Int32) → (Int32) → (Int32) → (Nat → Int32) → (Nat → Int32) → Prop) : Prop :=
  q_m_hand_0 a_many a_lands f_land f_huts f_singers x1 (fun r_1 f_land_1 f_huts_1 f_singers_1 => (r_1 = 0 → (post (-1 : Int32) (0 : Int32) f_land_1 f_huts_1 f_singers_1 a_run a_far)) ∧ (¬ r_1 = 0 → (q_m_isSinger_0 f_singers_1 x2 (fun r_2 => (¬ r_2 = 0 → (q_m_findFar_0 a_lands f_land_1 f_huts_1 a_far (fun a_far_1 => q_m_carry_38 (0 : Int32) a_many a_lands f_land_1 f_huts_1 f_singers_1 a_run a_far_1 x2 x3 (-1 : Int32) (1000000 : Int32) (0 : Int32) post))) ∧ (r_2 = 0 → (post (-1 : Int32) (0 : Int32) f_land_1 f_huts_1 f_singers_1 a_run a_far))))))
set_option maxRecDepth 20000 in
theorem t_m_carry_136 {p : Program} {l : Launch} {e : Env} {s : State} {m : MethodId} {args : Array Value} {below : List Frame} {meth : Method} {c : Code} {E : zE} {q : Nat} {f_code : Int32} {a_tape : Nat → Int32} {a_size : Nat → Int32} {a_fault : Nat → Int32} {a_faultPlace : Nat → Int32} {a_many : Nat → Int32} {a_lands : Nat → Int32} {a_evenings : Nat → Int32} {a_sights : Nat → Int32} {a_choirs : Nat → Int32} {f_reached : Int32} {f_length : Int32} {f_begins : Int32} {f_sort : Int32} {f_value : Int32} {f_word : Int64} {f_wrongAt : Int32} {f_laterFault : Int32} {f_laterPlace : Int32} {a_told : Nat → Int32} {a_read : Nat → Int32} {f_farHut : Int32} {f_farSinger : Int32} {f_good : Int32} {f_land : Int32} {f_huts : Int32} {f_singers : Int32} {f_evening : Int32} {a_at : Nat → Int32} {a_knows : Nat → Int32} {a_climbed : Nat → Int32} {a_snow : Nat → Int32} {a_level : Nat → Int32} {f_begun : Int32} {f_minute : Int32} {f_avalanches : Int32} {a_run : Nat → Int32} {a_covers : Nat → Int32} {a_routes : Nat → Int32} {a_longest : Nat → Int32} {a_steep : Nat → Int32} {a_laid : Nat → Int32} {a_far : Nat → Int32} {f_sight : Int32} {a_runs : Nat → Int32} {f_choir : Int32} {f_voices : Int32} {a_rest : Nat → Int64} {a_wins : Nat → Int32} {f_seed : Int32} {a_other : Nat → Int32} {a_kept : Nat → Int32} {post : Int32 → (Int32) → (Int32) → (Int32) → (Int32) → (Nat → Int32) → (Nat → Int32) → Prop} {x4 : Int32} {ls : Array Slot} {H : Heap} {locs : List Loc}
    (zc : zC p s m args meth c cX11_carry 8 RX11 (some .int))
    (hK : zK E s)
    (hM : mW E q f_code a_tape a_size a_fault a_faultPlace a_many a_lands a_evenings a_sights a_choirs f_reached f_length f_begins f_sort f_value f_word f_wrongAt f_laterFault f_laterPlace a_told a_read f_farHut f_farSinger f_good f_land f_huts f_singers f_evening a_at a_knows a_climbed a_snow a_level f_begun f_minute f_avalanches a_run a_covers a_routes a_longest a_steep a_laid a_far f_sight a_runs f_choir f_voices a_rest a_wins f_seed a_other a_kept H)
    (hS : va_S (mA q) s.heap H locs)
    (hl : lv_has ls 8 [(4, .int x4)])
    (hw : q_m_carry_136 f_code a_many a_lands f_land f_huts f_singers a_run a_far x4 post) :
    W p l e rm_m_carry s m args below meth c H locs 0 0 (MQ below (zQi (S := (Int32) × (Int32) × (Int32) × (Int32) × (Nat → Int32) × (Nat → Int32)) (fun r u => post r u.1 u.2.1 u.2.2.1 u.2.2.2.1 u.2.2.2.2.1 u.2.2.2.2.2) (fun u H => mW E q u.1 a_tape a_size a_fault a_faultPlace a_many a_lands a_evenings a_sights a_choirs f_reached f_length f_begins f_sort f_value f_word f_wrongAt f_laterFault f_laterPlace a_told a_read f_farHut f_farSinger f_good u.2.1 u.2.2.1 u.2.2.2.1 f_evening a_at a_knows a_climbed a_snow a_level f_begun f_minute f_avalanches u.2.2.2.2.1 a_covers a_routes a_longest a_steep a_laid u.2.2.2.2.2 f_sight a_runs f_choir f_voices a_rest a_wins f_seed a_other a_kept H) (mA q)) args s 0 0 (mA q)) (F0 m 136 ls []) := by
  have hx := zc.1
  have hb := zc.2.1
  refine lv_iload hx hb dX11_carry_136 (lv_at hl 0 rfl) ?_
  refine lv_goto (tgt := 143) hx hb dX11_carry_138 (by decide) ?_
  exact zret_iw ⟨f_code, f_land, f_huts, f_singers, a_run, a_far⟩ zc hS hw hM dX11_carry_143
set_option maxRecDepth 20000 in
theorem t_m_carry_109 {p : Program} {l : Launch} {e : Env} {s : State} {m : MethodId} {args : Array Value} {below : List Frame} {meth : Method} {c : Code} {E : zE} {q : Nat} {f_code : Int32} {a_tape : Nat → Int32} {a_size : Nat → Int32} {a_fault : Nat → Int32} {a_faultPlace : Nat → Int32} {a_many : Nat → Int32} {a_lands : Nat → Int32} {a_evenings : Nat → Int32} {a_sights : Nat → Int32} {a_choirs : Nat → Int32} {f_reached : Int32} {f_length : Int32} {f_begins : Int32} {f_sort : Int32} {f_value : Int32} {f_word : Int64} {f_wrongAt : Int32} {f_laterFault : Int32} {f_laterPlace : Int32} {a_told : Nat → Int32} {a_read : Nat → Int32} {f_farHut : Int32} {f_farSinger : Int32} {f_good : Int32} {f_land : Int32} {f_huts : Int32} {f_singers : Int32} {f_evening : Int32} {a_at : Nat → Int32} {a_knows : Nat → Int32} {a_climbed : Nat → Int32} {a_snow : Nat → Int32} {a_level : Nat → Int32} {f_begun : Int32} {f_minute : Int32} {f_avalanches : Int32} {a_run : Nat → Int32} {a_covers : Nat → Int32} {a_routes : Nat → Int32} {a_longest : Nat → Int32} {a_steep : Nat → Int32} {a_laid : Nat → Int32} {a_far : Nat → Int32} {f_sight : Int32} {a_runs : Nat → Int32} {f_choir : Int32} {f_voices : Int32} {a_rest : Nat → Int64} {a_wins : Nat → Int32} {f_seed : Int32} {a_other : Nat → Int32} {a_kept : Nat → Int32} {P38 : Int32 → Int32 → Int32 → (Nat → Int32) → Prop} {post : Int32 → (Int32) → (Int32) → (Int32) → (Int32) → (Nat → Int32) → (Nat → Int32) → Prop} {x2 : Int32} {x3 : Int32} {x5 : Int32} {x6 : Int32} {x7 : Int32} {y0 : Int32} {ls : Array Slot} {H : Heap} {locs : List Loc}
    (zc : zC p s m args meth c cX11_carry 8 RX11 (some .int))
    (hK : zK E s)
    (hM : mW E q f_code a_tape a_size a_fault a_faultPlace a_many a_lands a_evenings a_sights a_choirs f_reached f_length f_begins f_sort f_value f_word f_wrongAt f_laterFault f_laterPlace a_told a_read f_farHut f_farSinger f_good f_land f_huts f_singers f_evening a_at a_knows a_climbed a_snow a_level f_begun f_minute f_avalanches a_run a_covers a_routes a_longest a_steep a_laid a_far f_sight a_runs f_choir f_voices a_rest a_wins f_seed a_other a_kept H)
    (hS : va_S (mA q) s.heap H locs)
    (hP38 : ∀ (x4 : Int32) (x5 : Int32) (x6 : Int32) (a_run : Nat → Int32) (H : Heap) (locs : List Loc) (ls : Array Slot), P38 x4 x5 x6 a_run → lv_has ls 8 [(0, .ref q), (2, .int x2), (3, .int x3), (4, .int x4), (5, .int x5), (6, .int x6)] → mW E q f_code a_tape a_size a_fault a_faultPlace a_many a_lands a_evenings a_sights a_choirs f_reached f_length f_begins f_sort f_value f_word f_wrongAt f_laterFault f_laterPlace a_told a_read f_farHut f_farSinger f_good f_land f_huts f_singers f_evening a_at a_knows a_climbed a_snow a_level f_begun f_minute f_avalanches a_run a_covers a_routes a_longest a_steep a_laid a_far f_sight a_runs f_choir f_voices a_rest a_wins f_seed a_other a_kept H → va_S (mA q) s.heap H locs → W p l e rm_m_carry s m args below meth c H locs 0 0 (MQ below (zQi (S := (Int32) × (Int32) × (Int32) × (Int32) × (Nat → Int32) × (Nat → Int32)) (fun r u => post r u.1 u.2.1 u.2.2.1 u.2.2.2.1 u.2.2.2.2.1 u.2.2.2.2.2) (fun u H => mW E q u.1 a_tape a_size a_fault a_faultPlace a_many a_lands a_evenings a_sights a_choirs f_reached f_length f_begins f_sort f_value f_word f_wrongAt f_laterFault f_laterPlace a_told a_read f_farHut f_farSinger f_good u.2.1 u.2.2.1 u.2.2.2.1 f_evening a_at a_knows a_climbed a_snow a_level f_begun f_minute f_avalanches u.2.2.2.2.1 a_covers a_routes a_longest a_steep a_laid u.2.2.2.2.2 f_sight a_runs f_choir f_voices a_rest a_wins f_seed a_other a_kept H) (mA q)) args s 0 0 (mA q)) (F0 m 38 ls []))
    (hl : lv_has ls 8 [(0, .ref q), (2, .int x2), (3, .int x3), (5, .int x5), (6, .int x6), (7, .int x7)])
    (hw : q_m_carry_109 P38 f_code a_many a_lands f_land f_huts f_singers a_run a_far x2 x3 x5 x6 x7 y0 post) :
    W p l e rm_m_carry s m args below meth c H locs 0 0 (MQ below (zQi (S := (Int32) × (Int32) × (Int32) × (Int32) × (Nat → Int32) × (Nat → Int32)) (fun r u => post r u.1 u.2.1 u.2.2.1 u.2.2.2.1 u.2.2.2.2.1 u.2.2.2.2.2) (fun u H => mW E q u.1 a_tape a_size a_fault a_faultPlace a_many a_lands a_evenings a_sights a_choirs f_reached f_length f_begins f_sort f_value f_word f_wrongAt f_laterFault f_laterPlace a_told a_read f_farHut f_farSinger f_good u.2.1 u.2.2.1 u.2.2.2.1 f_evening a_at a_knows a_climbed a_snow a_level f_begun f_minute f_avalanches u.2.2.2.2.1 a_covers a_routes a_longest a_steep a_laid u.2.2.2.2.2 f_sight a_runs f_choir f_voices a_rest a_wins f_seed a_other a_kept H) (mA q)) args s 0 0 (mA q)) (F0 m 109 ls [.int y0]) := by
  have hx := zc.1
  have hb := zc.2.1
  refine lv_istore (lv' := [(4, .int y0), (0, .ref q), (2, .int x2), (3, .int x3), (5, .int x5), (6, .int x6), (7, .int x7)]) hx hb dX11_carry_109 hl (by decide) rfl (fun ls hl => ?_)
  refine lv_iload hx hb dX11_carry_111 (lv_at hl 4 rfl) ?_
  refine lv_iload hx hb dX11_carry_113 (lv_at hl 6 rfl) ?_
  refine zS_i [.int x5, .int x7] [] zc ky_X11_lesser kz_X11_lesser km_11_411 (c_m_lesser l hw) (zPre0 _) rfl rfl hl.1 (Nat.le_of_ble_eq_true rfl) ⟨rfl, rfl⟩ ⟨Nat.le_of_ble_eq_true rfl, Nat.le_of_ble_eq_true rfl⟩ ⟨(Nat.zero_le _), (Nat.zero_le _)⟩ dX11_carry_115 (fun r_1 hw => ?_)
  refine lv_istore (lv' := [(5, .int r_1), (4, .int y0), (0, .ref q), (2, .int x2), (3, .int x3), (6, .int x6), (7, .int x7)]) hx hb dX11_carry_118 hl (by decide) rfl (fun ls hl => ?_)
  obtain ⟨v_1, ev_1⟩ : ∃ y : Int32, y = x6 + (1 : Int32) := ⟨_, rfl⟩
  have hw := hw v_1 ev_1
  refine lv_iinc (v := v_1) (k := 5) (lv' := [(6, .int v_1), (5, .int r_1), (4, .int y0), (0, .ref q), (2, .int x2), (3, .int x3), (7, .int x7)]) hx hb dX11_carry_120 hl rfl (by rw [ev_1]; rfl) (by decide) rfl (fun ls hl => ?_)
  refine lv_goto (tgt := 38) hx hb dX11_carry_123 (by decide) ?_
  exact hP38 _ _ _ _ _ _ _ hw (lv_sub hl [3, 4, 5, 2, 1, 0] rfl) hM hS
set_option maxRecDepth 20000 in
theorem t_m_carry_93 {p : Program} {l : Launch} {e : Env} {s : State} {m : MethodId} {args : Array Value} {below : List Frame} {meth : Method} {c : Code} {E : zE} {q : Nat} {f_code : Int32} {a_tape : Nat → Int32} {a_size : Nat → Int32} {a_fault : Nat → Int32} {a_faultPlace : Nat → Int32} {a_many : Nat → Int32} {a_lands : Nat → Int32} {a_evenings : Nat → Int32} {a_sights : Nat → Int32} {a_choirs : Nat → Int32} {f_reached : Int32} {f_length : Int32} {f_begins : Int32} {f_sort : Int32} {f_value : Int32} {f_word : Int64} {f_wrongAt : Int32} {f_laterFault : Int32} {f_laterPlace : Int32} {a_told : Nat → Int32} {a_read : Nat → Int32} {f_farHut : Int32} {f_farSinger : Int32} {f_good : Int32} {f_land : Int32} {f_huts : Int32} {f_singers : Int32} {f_evening : Int32} {a_at : Nat → Int32} {a_knows : Nat → Int32} {a_climbed : Nat → Int32} {a_snow : Nat → Int32} {a_level : Nat → Int32} {f_begun : Int32} {f_minute : Int32} {f_avalanches : Int32} {a_run : Nat → Int32} {a_covers : Nat → Int32} {a_routes : Nat → Int32} {a_longest : Nat → Int32} {a_steep : Nat → Int32} {a_laid : Nat → Int32} {a_far : Nat → Int32} {f_sight : Int32} {a_runs : Nat → Int32} {f_choir : Int32} {f_voices : Int32} {a_rest : Nat → Int64} {a_wins : Nat → Int32} {f_seed : Int32} {a_other : Nat → Int32} {a_kept : Nat → Int32} {P38 : Int32 → Int32 → Int32 → (Nat → Int32) → Prop} {post : Int32 → (Int32) → (Int32) → (Int32) → (Int32) → (Nat → Int32) → (Nat → Int32) → Prop} {x2 : Int32} {x3 : Int32} {x4 : Int32} {x5 : Int32} {x6 : Int32} {y0 : Int32} {ls : Array Slot} {H : Heap} {locs : List Loc}
    (zc : zC p s m args meth c cX11_carry 8 RX11 (some .int))
    (hK : zK E s)
    (hM : mW E q f_code a_tape a_size a_fault a_faultPlace a_many a_lands a_evenings a_sights a_choirs f_reached f_length f_begins f_sort f_value f_word f_wrongAt f_laterFault f_laterPlace a_told a_read f_farHut f_farSinger f_good f_land f_huts f_singers f_evening a_at a_knows a_climbed a_snow a_level f_begun f_minute f_avalanches a_run a_covers a_routes a_longest a_steep a_laid a_far f_sight a_runs f_choir f_voices a_rest a_wins f_seed a_other a_kept H)
    (hS : va_S (mA q) s.heap H locs)
    (hP38 : ∀ (x4 : Int32) (x5 : Int32) (x6 : Int32) (a_run : Nat → Int32) (H : Heap) (locs : List Loc) (ls : Array Slot), P38 x4 x5 x6 a_run → lv_has ls 8 [(0, .ref q), (2, .int x2), (3, .int x3), (4, .int x4), (5, .int x5), (6, .int x6)] → mW E q f_code a_tape a_size a_fault a_faultPlace a_many a_lands a_evenings a_sights a_choirs f_reached f_length f_begins f_sort f_value f_word f_wrongAt f_laterFault f_laterPlace a_told a_read f_farHut f_farSinger f_good f_land f_huts f_singers f_evening a_at a_knows a_climbed a_snow a_level f_begun f_minute f_avalanches a_run a_covers a_routes a_longest a_steep a_laid a_far f_sight a_runs f_choir f_voices a_rest a_wins f_seed a_other a_kept H → va_S (mA q) s.heap H locs → W p l e rm_m_carry s m args below meth c H locs 0 0 (MQ below (zQi (S := (Int32) × (Int32) × (Int32) × (Int32) × (Nat → Int32) × (Nat → Int32)) (fun r u => post r u.1 u.2.1 u.2.2.1 u.2.2.2.1 u.2.2.2.2.1 u.2.2.2.2.2) (fun u H => mW E q u.1 a_tape a_size a_fault a_faultPlace a_many a_lands a_evenings a_sights a_choirs f_reached f_length f_begins f_sort f_value f_word f_wrongAt f_laterFault f_laterPlace a_told a_read f_farHut f_farSinger f_good u.2.1 u.2.2.1 u.2.2.2.1 f_evening a_at a_knows a_climbed a_snow a_level f_begun f_minute f_avalanches u.2.2.2.2.1 a_covers a_routes a_longest a_steep a_laid u.2.2.2.2.2 f_sight a_runs f_choir f_voices a_rest a_wins f_seed a_other a_kept H) (mA q)) args s 0 0 (mA q)) (F0 m 38 ls []))
    (hl : lv_has ls 8 [(0, .ref q), (2, .int x2), (3, .int x3), (4, .int x4), (5, .int x5), (6, .int x6)])
    (hw : q_m_carry_93 P38 f_code a_many a_lands f_land f_huts f_singers a_run a_far x2 x3 x4 x5 x6 y0 post) :
    W p l e rm_m_carry s m args below meth c H locs 0 0 (MQ below (zQi (S := (Int32) × (Int32) × (Int32) × (Int32) × (Nat → Int32) × (Nat → Int32)) (fun r u => post r u.1 u.2.1 u.2.2.1 u.2.2.2.1 u.2.2.2.2.1 u.2.2.2.2.2) (fun u H => mW E q u.1 a_tape a_size a_fault a_faultPlace a_many a_lands a_evenings a_sights a_choirs f_reached f_length f_begins f_sort f_value f_word f_wrongAt f_laterFault f_laterPlace a_told a_read f_farHut f_farSinger f_good u.2.1 u.2.2.1 u.2.2.2.1 f_evening a_at a_knows a_climbed a_snow a_level f_begun f_minute f_avalanches u.2.2.2.2.1 a_covers a_routes a_longest a_steep a_laid u.2.2.2.2.2 f_sight a_runs f_choir f_voices a_rest a_wins f_seed a_other a_kept H) (mA q)) args s 0 0 (mA q)) (F0 m 93 ls [.int y0]) := by
  have hx := zc.1
  have hb := zc.2.1
  refine lv_istore (lv' := [(7, .int y0), (0, .ref q), (2, .int x2), (3, .int x3), (4, .int x4), (5, .int x5), (6, .int x6)]) hx hb dX11_carry_93 hl (by decide) rfl (fun ls hl => ?_)
  refine lv_iload hx hb dX11_carry_95 (lv_at hl 0 rfl) ?_
  refine lv_iload hx hb dX11_carry_97 (lv_at hl 5 rfl) ?_
  refine lv_icmp_ge (tgt := 107) hx hb dX11_carry_99 (by decide) (fun hc => ?_) (fun hc => ?_)
  · have hw := hw.1 hc
    refine lv_iload hx hb dX11_carry_107 (lv_at hl 4 rfl) ?_
    exact t_m_carry_109 zc hK hM hS hP38 (lv_sub hl [1, 2, 3, 5, 6, 0] rfl) hw
  · have hw := hw.2 hc
    refine lv_iload hx hb dX11_carry_102 (lv_at hl 6 rfl) ?_
    refine lv_goto (tgt := 109) hx hb dX11_carry_104 (by decide) ?_
    exact t_m_carry_109 zc hK hM hS hP38 (lv_sub hl [1, 2, 3, 5, 6, 0] rfl) hw
set_option maxRecDepth 20000 in
theorem t_m_carry_38 {p : Program} {l : Launch} {e : Env} {s : State} {m : MethodId} {args : Array Value} {below : List Frame} {meth : Method} {c : Code} {E : zE} {q : Nat} {f_code : Int32} {a_tape : Nat → Int32} {a_size : Nat → Int32} {a_fault : Nat → Int32} {a_faultPlace : Nat → Int32} {a_many : Nat → Int32} {a_lands : Nat → Int32} {a_evenings : Nat → Int32} {a_sights : Nat → Int32} {a_choirs : Nat → Int32} {f_reached : Int32} {f_length : Int32} {f_begins : Int32} {f_sort : Int32} {f_value : Int32} {f_word : Int64} {f_wrongAt : Int32} {f_laterFault : Int32} {f_laterPlace : Int32} {a_told : Nat → Int32} {a_read : Nat → Int32} {f_farHut : Int32} {f_farSinger : Int32} {f_good : Int32} {f_land : Int32} {f_huts : Int32} {f_singers : Int32} {f_evening : Int32} {a_at : Nat → Int32} {a_knows : Nat → Int32} {a_climbed : Nat → Int32} {a_snow : Nat → Int32} {a_level : Nat → Int32} {f_begun : Int32} {f_minute : Int32} {f_avalanches : Int32} {a_run : Nat → Int32} {a_covers : Nat → Int32} {a_routes : Nat → Int32} {a_longest : Nat → Int32} {a_steep : Nat → Int32} {a_laid : Nat → Int32} {a_far : Nat → Int32} {f_sight : Int32} {a_runs : Nat → Int32} {f_choir : Int32} {f_voices : Int32} {a_rest : Nat → Int64} {a_wins : Nat → Int32} {f_seed : Int32} {a_other : Nat → Int32} {a_kept : Nat → Int32} {post : Int32 → (Int32) → (Int32) → (Int32) → (Int32) → (Nat → Int32) → (Nat → Int32) → Prop} {x2 : Int32} {x3 : Int32} {x4 : Int32} {x5 : Int32} {x6 : Int32} {ls : Array Slot} {H : Heap} {locs : List Loc}
    (zc : zC p s m args meth c cX11_carry 8 RX11 (some .int))
    (hK : zK E s)
    (hM : mW E q f_code a_tape a_size a_fault a_faultPlace a_many a_lands a_evenings a_sights a_choirs f_reached f_length f_begins f_sort f_value f_word f_wrongAt f_laterFault f_laterPlace a_told a_read f_farHut f_farSinger f_good f_land f_huts f_singers f_evening a_at a_knows a_climbed a_snow a_level f_begun f_minute f_avalanches a_run a_covers a_routes a_longest a_steep a_laid a_far f_sight a_runs f_choir f_voices a_rest a_wins f_seed a_other a_kept H)
    (hS : va_S (mA q) s.heap H locs)
    (hl : lv_has ls 8 [(0, .ref q), (2, .int x2), (3, .int x3), (4, .int x4), (5, .int x5), (6, .int x6)])
    (hw : q_m_carry_38 f_code a_many a_lands f_land f_huts f_singers a_run a_far x2 x3 x4 x5 x6 post) :
    W p l e rm_m_carry s m args below meth c H locs 0 0 (MQ below (zQi (S := (Int32) × (Int32) × (Int32) × (Int32) × (Nat → Int32) × (Nat → Int32)) (fun r u => post r u.1 u.2.1 u.2.2.1 u.2.2.2.1 u.2.2.2.2.1 u.2.2.2.2.2) (fun u H => mW E q u.1 a_tape a_size a_fault a_faultPlace a_many a_lands a_evenings a_sights a_choirs f_reached f_length f_begins f_sort f_value f_word f_wrongAt f_laterFault f_laterPlace a_told a_read f_farHut f_farSinger f_good u.2.1 u.2.2.1 u.2.2.2.1 f_evening a_at a_knows a_climbed a_snow a_level f_begun f_minute f_avalanches u.2.2.2.2.1 a_covers a_routes a_longest a_steep a_laid u.2.2.2.2.2 f_sight a_runs f_choir f_voices a_rest a_wins f_seed a_other a_kept H) (mA q)) args s 0 0 (mA q)) (F0 m 38 ls []) := by
  have hx := zc.1
  have hb := zc.2.1
  refine hw (fun x4 x5 x6 a_run => ∀ (H : Heap) (locs : List Loc) (ls : Array Slot), lv_has ls 8 [(0, .ref q), (2, .int x2), (3, .int x3), (4, .int x4), (5, .int x5), (6, .int x6)] → mW E q f_code a_tape a_size a_fault a_faultPlace a_many a_lands a_evenings a_sights a_choirs f_reached f_length f_begins f_sort f_value f_word f_wrongAt f_laterFault f_laterPlace a_told a_read f_farHut f_farSinger f_good f_land f_huts f_singers f_evening a_at a_knows a_climbed a_snow a_level f_begun f_minute f_avalanches a_run a_covers a_routes a_longest a_steep a_laid a_far f_sight a_runs f_choir f_voices a_rest a_wins f_seed a_other a_kept H → va_S (mA q) s.heap H locs → W p l e rm_m_carry s m args below meth c H locs 0 0 (MQ below (zQi (S := (Int32) × (Int32) × (Int32) × (Int32) × (Nat → Int32) × (Nat → Int32)) (fun r u => post r u.1 u.2.1 u.2.2.1 u.2.2.2.1 u.2.2.2.2.1 u.2.2.2.2.2) (fun u H => mW E q u.1 a_tape a_size a_fault a_faultPlace a_many a_lands a_evenings a_sights a_choirs f_reached f_length f_begins f_sort f_value f_word f_wrongAt f_laterFault f_laterPlace a_told a_read f_farHut f_farSinger f_good u.2.1 u.2.2.1 u.2.2.2.1 f_evening a_at a_knows a_climbed a_snow a_level f_begun f_minute f_avalanches u.2.2.2.2.1 a_covers a_routes a_longest a_steep a_laid u.2.2.2.2.2 f_sight a_runs f_choir f_voices a_rest a_wins f_seed a_other a_kept H) (mA q)) args s 0 0 (mA q)) (F0 m 38 ls [])) ?_ _ _ _ hl hM hS
  intro x4 x5 x6 a_run hw H locs ls hl hM hS
  refine lv_iload hx hb dX11_carry_38 (lv_at hl 5 rfl) ?_
  refine lv_aload_n hx hb dX11_carry_40 rfl (lv_at hl 0 rfl) ?_
  refine mg_11_307_0 zc hK hM dX11_carry_41 ?_
  refine lv_icmp_ge (tgt := 126) hx hb dX11_carry_44 (by decide) (fun hc => ?_) (fun hc => ?_)
  · have hw := hw.1 hc
    refine lv_iload hx hb dX11_carry_126 (lv_at hl 3 rfl) ?_
    refine lv_iconst (v := (-1 : Int32)) hx hb dX11_carry_128 (by decide) ?_
    refine lv_icmp_eq (tgt := 136) hx hb dX11_carry_129 (by decide) (fun hc => ?_) (fun hc => ?_)
    · have hw := hw.1 hc
      exact t_m_carry_136 zc hK hM hS  (lv_sub hl [3] rfl) hw
    · have hw := hw.2 hc
      refine lv_iload_n hx hb dX11_carry_132 rfl (lv_at hl 2 rfl) ?_
      refine lv_if_ne (tgt := 141) hx hb dX11_carry_133 (by decide) (fun hc => ?_) (fun hc => ?_)
      · have hw := hw.1 hc
        refine lv_iload hx hb dX11_carry_141 (lv_at hl 4 rfl) ?_
        exact zret_iw ⟨f_code, f_land, f_huts, f_singers, a_run, a_far⟩ zc hS hw hM dX11_carry_143
      · have hw := hw.2 hc
        exact t_m_carry_136 zc hK hM hS  (lv_sub hl [3] rfl) hw
  · have hw := hw.2 hc
    refine lv_aload_n hx hb dX11_carry_47 rfl (lv_at hl 0 rfl) ?_
    refine lv_iload hx hb dX11_carry_48 (lv_at hl 5 rfl) ?_
    refine lv_iconst (v := (0 : Int32)) hx hb dX11_carry_50 (by decide) ?_
    refine zVw_v [.int x6, .int (0 : Int32)] [] zc ky_X11_findRun kz_X11_findRun km_11_414 (c_m_findRun l hw) (mPreV0 hK hM) hS rfl rfl hl.1 (Nat.le_of_ble_eq_true rfl) ⟨rfl, rfl⟩ ⟨Nat.le_of_ble_eq_true rfl, Nat.le_of_ble_eq_true rfl⟩ ⟨(Nat.zero_le _), (Nat.zero_le _)⟩ dX11_carry_51 (fun a_run_1 H locs hw hM hS => ?_)
    refine lv_aload_n hx hb dX11_carry_54 rfl (lv_at hl 0 rfl) ?_
    refine lv_iload hx hb dX11_carry_55 (lv_at hl 5 rfl) ?_
    refine zV_i [.int x6] [] zc ky_X11_isDam kz_X11_isDam km_11_355 (c_m_isDam l hw) (mPreV0 hK hM) rfl rfl hl.1 (Nat.le_of_ble_eq_true rfl) ⟨rfl, rfl⟩ ⟨Nat.le_of_ble_eq_true rfl, Nat.le_of_ble_eq_true rfl⟩ ⟨(Nat.zero_le _), (Nat.zero_le _)⟩ dX11_carry_57 (fun r_1 hw => ?_)
    refine lv_if_eq (tgt := 69) hx hb dX11_carry_60 (by decide) (fun hc => ?_) (fun hc => ?_)
    · have hw := hw.1 hc
      refine lv_aload_n hx hb dX11_carry_69 rfl (lv_at hl 0 rfl) ?_
      refine mg_11_78_0 zc hK hM dX11_carry_70 ?_
      refine lv_bipush (v := (9 : Int32)) hx hb dX11_carry_73 (by decide) ?_
      refine lv_aload_n hx hb dX11_carry_75 rfl (lv_at hl 0 rfl) ?_
      refine lv_bipush (v := (25 : Int32)) hx hb dX11_carry_76 (by decide) ?_
      refine lv_iload_n hx hb dX11_carry_78 rfl (lv_at hl 1 rfl) ?_
      refine lv_iadd hx hb dX11_carry_79 ?_
      refine zV_i [.int ((25 : Int32) + x2)] [.int (9 : Int32), .ref (q + 23)] zc ky_X11_of kz_X11_of km_11_303 (c_m_of l hw) (mPreV0 hK hM) rfl rfl hl.1 (Nat.le_of_ble_eq_true rfl) ⟨rfl, rfl⟩ ⟨Nat.le_of_ble_eq_true rfl, Nat.le_of_ble_eq_true rfl⟩ ⟨(Nat.zero_le _), (Nat.zero_le _)⟩ dX11_carry_80 (fun r_2 hw => ?_)
      refine lv_imul hx hb dX11_carry_83 ?_
      refine lv_iload hx hb dX11_carry_84 (lv_at hl 5 rfl) ?_
      refine lv_iadd hx hb dX11_carry_86 ?_
      refine mld_23 zc hK hM hw.1 dX11_carry_87 ?_
      have hw := hw.2
      refine lv_aload_n hx hb dX11_carry_88 rfl (lv_at hl 0 rfl) ?_
      refine zV_i [] [.int (a_far (Int32.toNatClampNeg (((9 : Int32) * r_2) + x6)))] zc ky_X11_lastVillage kz_X11_lastVillage km_11_426 (c_m_lastVillage l hw) (mPreV0 hK hM) rfl rfl hl.1 (Nat.le_of_ble_eq_true rfl) ⟨rfl, rfl⟩ ⟨Nat.le_of_ble_eq_true rfl, Nat.le_of_ble_eq_true rfl⟩ ⟨(Nat.zero_le _), (Nat.zero_le _)⟩ dX11_carry_89 (fun r_3 hw => ?_)
      refine lv_iadd hx hb dX11_carry_92 ?_
      exact t_m_carry_93 zc hK hM hS (fun _ _ _ _ H locs ls h hl hM hS => h H locs ls hl hM hS) (lv_sub hl [0, 1, 2, 3, 4, 5] rfl) hw
    · have hw := hw.2 hc
      refine lv_ldcw (v := (1000000 : Int32)) hx hb zc.2.2.2.1 (zc.2.2.2.2.1 _ kc_11_410) dX11_carry_63 ?_
      refine lv_goto (tgt := 93) hx hb dX11_carry_66 (by decide) ?_
      exact t_m_carry_93 zc hK hM hS (fun _ _ _ _ H locs ls h hl hM hS => h H locs ls hl hM hS) (lv_sub hl [0, 1, 2, 3, 4, 5] rfl) hw
set_option maxRecDepth 20000 in
theorem t_m_carry_0 {p : Program} {l : Launch} {e : Env} {s : State} {m : MethodId} {args : Array Value} {below : List Frame} {meth : Method} {c : Code} {E : zE} {q : Nat} {f_code : Int32} {a_tape : Nat → Int32} {a_size : Nat → Int32} {a_fault : Nat → Int32} {a_faultPlace : Nat → Int32} {a_many : Nat → Int32} {a_lands : Nat → Int32} {a_evenings : Nat → Int32} {a_sights : Nat → Int32} {a_choirs : Nat → Int32} {f_reached : Int32} {f_length : Int32} {f_begins : Int32} {f_sort : Int32} {f_value : Int32} {f_word : Int64} {f_wrongAt : Int32} {f_laterFault : Int32} {f_laterPlace : Int32} {a_told : Nat → Int32} {a_read : Nat → Int32} {f_farHut : Int32} {f_farSinger : Int32} {f_good : Int32} {f_land : Int32} {f_huts : Int32} {f_singers : Int32} {f_evening : Int32} {a_at : Nat → Int32} {a_knows : Nat → Int32} {a_climbed : Nat → Int32} {a_snow : Nat → Int32} {a_level : Nat → Int32} {f_begun : Int32} {f_minute : Int32} {f_avalanches : Int32} {a_run : Nat → Int32} {a_covers : Nat → Int32} {a_routes : Nat → Int32} {a_longest : Nat → Int32} {a_steep : Nat → Int32} {a_laid : Nat → Int32} {a_far : Nat → Int32} {f_sight : Int32} {a_runs : Nat → Int32} {f_choir : Int32} {f_voices : Int32} {a_rest : Nat → Int64} {a_wins : Nat → Int32} {f_seed : Int32} {a_other : Nat → Int32} {a_kept : Nat → Int32} {post : Int32 → (Int32) → (Int32) → (Int32) → (Int32) → (Nat → Int32) → (Nat → Int32) → Prop} {x1 : Int32} {x2 : Int32} {x3 : Int32} {ls : Array Slot} {H : Heap} {locs : List Loc}
    (zc : zC p s m args meth c cX11_carry 8 RX11 (some .int))
    (hK : zK E s)
    (hM : mW E q f_code a_tape a_size a_fault a_faultPlace a_many a_lands a_evenings a_sights a_choirs f_reached f_length f_begins f_sort f_value f_word f_wrongAt f_laterFault f_laterPlace a_told a_read f_farHut f_farSinger f_good f_land f_huts f_singers f_evening a_at a_knows a_climbed a_snow a_level f_begun f_minute f_avalanches a_run a_covers a_routes a_longest a_steep a_laid a_far f_sight a_runs f_choir f_voices a_rest a_wins f_seed a_other a_kept H)
    (hS : va_S (mA q) s.heap H locs)
    (hl : lv_has ls 8 [(0, .ref q), (1, .int x1), (2, .int x2), (3, .int x3)])
    (hw : q_m_carry_0 f_code a_many a_lands f_land f_huts f_singers a_run a_far x1 x2 x3 post) :
    W p l e rm_m_carry s m args below meth c H locs 0 0 (MQ below (zQi (S := (Int32) × (Int32) × (Int32) × (Int32) × (Nat → Int32) × (Nat → Int32)) (fun r u => post r u.1 u.2.1 u.2.2.1 u.2.2.2.1 u.2.2.2.2.1 u.2.2.2.2.2) (fun u H => mW E q u.1 a_tape a_size a_fault a_faultPlace a_many a_lands a_evenings a_sights a_choirs f_reached f_length f_begins f_sort f_value f_word f_wrongAt f_laterFault f_laterPlace a_told a_read f_farHut f_farSinger f_good u.2.1 u.2.2.1 u.2.2.2.1 f_evening a_at a_knows a_climbed a_snow a_level f_begun f_minute f_avalanches u.2.2.2.2.1 a_covers a_routes a_longest a_steep a_laid u.2.2.2.2.2 f_sight a_runs f_choir f_voices a_rest a_wins f_seed a_other a_kept H) (mA q)) args s 0 0 (mA q)) (F0 m 0 ls []) := by
  have hx := zc.1
  have hb := zc.2.1
  refine lv_aload_n hx hb dX11_carry_0 rfl (lv_at hl 0 rfl) ?_
  refine lv_iconst (v := (0 : Int32)) hx hb dX11_carry_1 (by decide) ?_
  refine mp_11_97_0 zc hK hM hS dX11_carry_2 (fun H locs hM hS => ?_)
  refine lv_aload_n hx hb dX11_carry_5 rfl (lv_at hl 0 rfl) ?_
  refine lv_iload_n hx hb dX11_carry_6 rfl (lv_at hl 1 rfl) ?_
  refine zVw_i [.int x1] [] zc ky_X11_hand kz_X11_hand km_11_313 (c_m_hand l hw) (mPreV0 hK hM) hS rfl rfl hl.1 (Nat.le_of_ble_eq_true rfl) ⟨rfl, rfl⟩ ⟨Nat.le_of_ble_eq_true rfl, Nat.le_of_ble_eq_true rfl⟩ ⟨(Nat.zero_le _), (Nat.zero_le _)⟩ dX11_carry_7 (fun r_1 u H locs hw hM hS => ?_)
  obtain ⟨f_land_1, f_huts_1, f_singers_1⟩ := u
  refine lv_if_eq (tgt := 21) hx hb dX11_carry_10 (by decide) (fun hc => ?_) (fun hc => ?_)
  · have hw := hw.1 hc
    refine lv_iconst (v := (-1 : Int32)) hx hb dX11_carry_21 (by decide) ?_
    exact zret_iw ⟨(0 : Int32), f_land_1, f_huts_1, f_singers_1, a_run, a_far⟩ zc hS hw hM dX11_carry_22
  · have hw := hw.2 hc
    refine lv_aload_n hx hb dX11_carry_13 rfl (lv_at hl 0 rfl) ?_
    refine lv_iload_n hx hb dX11_carry_14 rfl (lv_at hl 2 rfl) ?_
    refine zV_i [.int x2] [] zc ky_X11_isSinger kz_X11_isSinger km_11_325 (c_m_isSinger l hw) (mPreV0 hK hM) rfl rfl hl.1 (Nat.le_of_ble_eq_true rfl) ⟨rfl, rfl⟩ ⟨Nat.le_of_ble_eq_true rfl, Nat.le_of_ble_eq_true rfl⟩ ⟨(Nat.zero_le _), (Nat.zero_le _)⟩ dX11_carry_15 (fun r_2 hw => ?_)
    refine lv_if_ne (tgt := 23) hx hb dX11_carry_18 (by decide) (fun hc => ?_) (fun hc => ?_)
    · have hw := hw.1 hc
      refine lv_aload_n hx hb dX11_carry_23 rfl (lv_at hl 0 rfl) ?_
      refine zVw_v [] [] zc ky_X11_findFar kz_X11_findFar km_11_454 (c_m_findFar l hw) (mPreV0 hK hM) hS rfl rfl hl.1 (Nat.le_of_ble_eq_true rfl) ⟨rfl, rfl⟩ ⟨Nat.le_of_ble_eq_true rfl, Nat.le_of_ble_eq_true rfl⟩ ⟨(Nat.zero_le _), (Nat.zero_le _)⟩ dX11_carry_24 (fun a_far_1 H locs hw hM hS => ?_)
      refine lv_iconst (v := (-1 : Int32)) hx hb dX11_carry_27 (by decide) ?_
      refine lv_istore (lv' := [(4, .int (-1 : Int32)), (0, .ref q), (1, .int x1), (2, .int x2), (3, .int x3)]) hx hb dX11_carry_28 hl (by decide) rfl (fun ls hl => ?_)
      refine lv_ldcw (v := (1000000 : Int32)) hx hb zc.2.2.2.1 (zc.2.2.2.2.1 _ kc_11_410) dX11_carry_30 ?_
      refine lv_istore (lv' := [(5, .int (1000000 : Int32)), (4, .int (-1 : Int32)), (0, .ref q), (1, .int x1), (2, .int x2), (3, .int x3)]) hx hb dX11_carry_33 hl (by decide) rfl (fun ls hl => ?_)
      refine lv_iconst (v := (0 : Int32)) hx hb dX11_carry_35 (by decide) ?_
      refine lv_istore (lv' := [(6, .int (0 : Int32)), (5, .int (1000000 : Int32)), (4, .int (-1 : Int32)), (0, .ref q), (1, .int x1), (2, .int x2), (3, .int x3)]) hx hb dX11_carry_36 hl (by decide) rfl (fun ls hl => ?_)
      exact t_m_carry_38 zc hK hM hS  (lv_sub hl [3, 5, 6, 2, 1, 0] rfl) hw
    · have hw := hw.2 hc
      refine lv_iconst (v := (-1 : Int32)) hx hb dX11_carry_21 (by decide) ?_
      exact zret_iw ⟨(0 : Int32), f_land_1, f_huts_1, f_singers_1, a_run, a_far⟩ zc hS hw hM dX11_carry_22
set_option maxRecDepth 20000 in
theorem c_m_carry (l : Launch) {E : zE} {q : Nat} {f_code : Int32} {a_tape : Nat → Int32} {a_size : Nat → Int32} {a_fault : Nat → Int32} {a_faultPlace : Nat → Int32} {a_many : Nat → Int32} {a_lands : Nat → Int32} {a_evenings : Nat → Int32} {a_sights : Nat → Int32} {a_choirs : Nat → Int32} {f_reached : Int32} {f_length : Int32} {f_begins : Int32} {f_sort : Int32} {f_value : Int32} {f_word : Int64} {f_wrongAt : Int32} {f_laterFault : Int32} {f_laterPlace : Int32} {a_told : Nat → Int32} {a_read : Nat → Int32} {f_farHut : Int32} {f_farSinger : Int32} {f_good : Int32} {f_land : Int32} {f_huts : Int32} {f_singers : Int32} {f_evening : Int32} {a_at : Nat → Int32} {a_knows : Nat → Int32} {a_climbed : Nat → Int32} {a_snow : Nat → Int32} {a_level : Nat → Int32} {f_begun : Int32} {f_minute : Int32} {f_avalanches : Int32} {a_run : Nat → Int32} {a_covers : Nat → Int32} {a_routes : Nat → Int32} {a_longest : Nat → Int32} {a_steep : Nat → Int32} {a_laid : Nat → Int32} {a_far : Nat → Int32} {f_sight : Int32} {a_runs : Nat → Int32} {f_choir : Int32} {f_voices : Int32} {a_rest : Nat → Int64} {a_wins : Nat → Int32} {f_seed : Int32} {a_other : Nat → Int32} {a_kept : Nat → Int32} {x1 : Int32} {x2 : Int32} {x3 : Int32} {post : Int32 → (Int32) → (Int32) → (Int32) → (Int32) → (Nat → Int32) → (Nat → Int32) → Prop} (hw : q_m_carry_0 f_code a_many a_lands f_land f_huts f_singers a_run a_far x1 x2 x3 post) : Met l yX11_carry (Cond.code yX11_carry cX11_carry 8 (some .int) :: zb) rm_m_carry (va_Pc [.ref q, .int x1, .int x2, .int x3] (fun U => mW E q f_code a_tape a_size a_fault a_faultPlace a_many a_lands a_evenings a_sights a_choirs f_reached f_length f_begins f_sort f_value f_word f_wrongAt f_laterFault f_laterPlace a_told a_read f_farHut f_farSinger f_good f_land f_huts f_singers f_evening a_at a_knows a_climbed a_snow a_level f_begun f_minute f_avalanches a_run a_covers a_routes a_longest a_steep a_laid a_far f_sight a_runs f_choir f_voices a_rest a_wins f_seed a_other a_kept U.heap ∧ zK E U)) (zQi (S := (Int32) × (Int32) × (Int32) × (Int32) × (Nat → Int32) × (Nat → Int32)) (fun r u => post r u.1 u.2.1 u.2.2.1 u.2.2.2.1 u.2.2.2.2.1 u.2.2.2.2.2) (fun u H => mW E q u.1 a_tape a_size a_fault a_faultPlace a_many a_lands a_evenings a_sights a_choirs f_reached f_length f_begins f_sort f_value f_word f_wrongAt f_laterFault f_laterPlace a_told a_read f_farHut f_farSinger f_good u.2.1 u.2.2.1 u.2.2.2.1 f_evening a_at a_knows a_climbed a_snow a_level f_begun f_minute f_avalanches u.2.2.2.2.1 a_covers a_routes a_longest a_steep a_laid u.2.2.2.2.2 f_sight a_runs f_choir f_voices a_rest a_wins f_seed a_other a_kept H) (mA q)) 0 0 (mA q) := by
  refine Met.ofW (cc := cX11_carry) (maxL := 8) (ret := (some .int)) (by decide) rfl ?_
  intro p e s m args below meth c s₁ B hml hv
  obtain ⟨rfl, hM, hK⟩ := hv
  have zc := zc_of B hml
  have hl := lv_entry ([.ref q, .int x1, .int x2, .int x3]) (n := 8) (Nat.le_of_ble_eq_true rfl)
  rw [lg_entry_eq]
  generalize (lg_sl ([.ref q, .int x1, .int x2, .int x3]) ++ List.replicate (8 - (lg_sl ([.ref q, .int x1, .int x2, .int x3])).length) Slot.unset).toArray = ls at hl ⊢
  have hl : lv_has ls 8 [(0, .ref q), (1, .int x1), (2, .int x2), (3, .int x3)] := hl
  exact t_m_carry_0 zc hK hM va_S.rf (lv_sub hl [0, 1, 2, 3] rfl) hw
-- m_join
abbrev rm_m_join : Room := { frames := 3, cells := 0, slots := 0, locals := 70 }
def q_m_join_128 (P86 : Int32 → Int32 → Int32 → Prop) (f_code : Int32) (a_many : Nat → Int32) (a_lands : Nat → Int32) (f_land : Int32) (f_huts : Int32) (f_singers : Int32) (a_run : Nat → Int32) (a_other : Nat → Int32) (x4 : Int32) (x6 : Int32) (x7 : Int32) (x8 : Int32) (y0 : Int32) (post : Int32 → (Int32) → (Int32) → (Int32) → (Int32) → (Nat → Int32) → (Nat → Int32) → Prop) : Prop :=
  q_m_lesser_0 x6 x8 (fun r_1 => ∀ v_1 : Int32, v_1 = x7 + (1 : Int32) → (P86 y0 r_1 v_1))
def q_m_join_156 (f_code : Int32) (a_many : Nat → Int32) (a_lands : Nat → Int32) (f_land : Int32) (f_huts : Int32) (f_singers : Int32) (a_run : Nat → Int32) (a_other : Nat → Int32) (x5 : Int32) (post : Int32 → (Int32) → (Int32) → (Int32) → (Int32) → (Nat → Int32) → (Nat → Int32) → Prop) : Prop :=
  post x5 f_code f_land f_huts f_singers a_run a_other
def q_m_join_86 (f_code : Int32) (a_many : Nat → Int32) (a_lands : Nat → Int32) (f_land : Int32) (f_huts : Int32) (f_singers : Int32) (a_run : Nat → Int32) (a_other : Nat → Int32) (x4 : Int32) (x5 : Int32) (x6 : Int32) (x7 : Int32) (post : Int32 → (Int32) → (Int32) → (Int32) → (Int32) → (Nat → Int32) → (Nat → Int32) → Prop) : Prop :=
  ∀ P86 : Int32 → Int32 → Int32 → Prop, (∀ (x5 : Int32) (x6 : Int32) (x7 : Int32), ((f_huts ≤ x7 → ((x5 = (-1 : Int32) → (q_m_join_156 f_code a_many a_lands f_land f_huts f_singers a_run a_other x5 post)) ∧ (¬ x5 = (-1 : Int32) → ((¬ x4 = 0 → (post x6 f_code f_land f_huts f_singers a_run a_other)) ∧ (x4 = 0 → (q_m_join_156 f_code a_many a_lands f_land f_huts f_singers a_run a_other x5 post)))))) ∧ (¬ f_huts ≤ x7 → (vp_in x7 9 ∧ (vp_in x7 9 ∧ (q_m_greater_0 (a_run (Int32.toNatClampNeg x7)) (a_other (Int32.toNatClampNeg x7)) (fun r_1 => (x6 ≤ r_1 → (q_m_join_128 P86 f_code a_many a_lands f_land f_huts f_singers a_run a_other x4 x6 x7 r_1 x5 post)) ∧ (¬ x6 ≤ r_1 → (q_m_join_128 P86 f_code a_many a_lands f_land f_huts f_singers a_run a_other x4 x6 x7 r_1 x7 post)))))))) → P86 x5 x6 x7) → P86 x5 x6 x7
def q_m_join_40 (f_code : Int32) (a_many : Nat → Int32) (a_lands : Nat → Int32) (f_land : Int32) (f_huts : Int32) (f_singers : Int32) (a_run : Nat → Int32) (a_other : Nat → Int32) (x3 : Int32) (x4 : Int32) (x5 : Int32) (post : Int32 → (Int32) → (Int32) → (Int32) → (Int32) → (Nat → Int32) → (Nat → Int32) → Prop) : Prop :=
  ∀ P40 : Int32 → (Nat → Int32) → Prop, (∀ (x5 : Int32) (a_other : Nat → Int32), ((f_huts ≤ x5 → (q_m_findRun_0 a_lands f_land f_huts a_run x3 (0 : Int32) (fun a_run_1 => q_m_join_86 f_code a_many a_lands f_land f_huts f_singers a_run_1 a_other x4 (-1 : Int32) (1000000 : Int32) (0 : Int32) post))) ∧ (¬ f_huts ≤ x5 → (vp_in x5 9 ∧ (∀ v_1 : Int32, v_1 = (a_run (Int32.toNatClampNeg x5)) → (vp_in x5 9 ∧ (∀ a_other_1 : Nat → Int32, a_other_1 = upd a_other (Int32.toNatClampNeg x5) v_1 → (∀ v_2 : Int32, v_2 = x5 + (1 : Int32) → (P40 v_2 a_other_1)))))))) → P40 x5 a_other) → P40 x5 a_other
def q_m_join_0 (f_code : Int32) (a_many : Nat → Int32) (a_lands : Nat → Int32) (f_land : Int32) (f_huts : Int32) (f_singers : Int32) (a_run : Nat → Int32) (a_other : Nat → Int32) (x1 : Int32) (x2 : Int32) (x3 : Int32) (x4 : Int32) (post : Int32 → (Int32) → (Int32) → (Int32) → (Int32) → (Nat → Int32) → (Nat → Int32) → Prop) : Prop :=
  q_m_hand_0 a_many a_lands f_land f_huts f_singers x1 (fun r_1 f_land_1 f_huts_1 f_singers_1 => (r_1 = 0 → (post (-1 : Int32) (0 : Int32) f_land_1 f_huts_1 f_singers_1 a_run a_other)) ∧ (¬ r_1 = 0 → (q_m_isHut_0 f_huts_1 x2 (fun r_2 => (r_2 = 0 → (post (-1 : Int32) (0 : Int32) f_land_1 f_huts_1 f_singers_1 a_run a_other)) ∧ (¬ r_2 = 0 → (q_m_isHut_0 f_huts_1 x3 (fun r_3 => (¬ r_3 = 0 → (q_m_findRun_0 a_lands f_land_1 f_huts_1 a_run x2 (0 : Int32) (fun a_run_1 => q_m_join_40 (0 : Int32) a_many a_lands f_land_1 f_huts_1 f_singers_1 a_run_1 a_other x3 x4 (0 : Int32) post))) ∧ (r_3 = 0 → (post (-1 : Int32) (0 : Int32) f_land_1 f_huts_1 f_singers_1 a_run a_other)))))))))
set_option maxRecDepth 20000 in
theorem t_m_join_128 {p : Program} {l : Launch} {e : Env} {s : State} {m : MethodId} {args : Array Value} {below : List Frame} {meth : Method} {c : Code} {E : zE} {q : Nat} {f_code : Int32} {a_tape : Nat → Int32} {a_size : Nat → Int32} {a_fault : Nat → Int32} {a_faultPlace : Nat → Int32} {a_many : Nat → Int32} {a_lands : Nat → Int32} {a_evenings : Nat → Int32} {a_sights : Nat → Int32} {a_choirs : Nat → Int32} {f_reached : Int32} {f_length : Int32} {f_begins : Int32} {f_sort : Int32} {f_value : Int32} {f_word : Int64} {f_wrongAt : Int32} {f_laterFault : Int32} {f_laterPlace : Int32} {a_told : Nat → Int32} {a_read : Nat → Int32} {f_farHut : Int32} {f_farSinger : Int32} {f_good : Int32} {f_land : Int32} {f_huts : Int32} {f_singers : Int32} {f_evening : Int32} {a_at : Nat → Int32} {a_knows : Nat → Int32} {a_climbed : Nat → Int32} {a_snow : Nat → Int32} {a_level : Nat → Int32} {f_begun : Int32} {f_minute : Int32} {f_avalanches : Int32} {a_run : Nat → Int32} {a_covers : Nat → Int32} {a_routes : Nat → Int32} {a_longest : Nat → Int32} {a_steep : Nat → Int32} {a_laid : Nat → Int32} {a_far : Nat → Int32} {f_sight : Int32} {a_runs : Nat → Int32} {f_choir : Int32} {f_voices : Int32} {a_rest : Nat → Int64} {a_wins : Nat → Int32} {f_seed : Int32} {a_other : Nat → Int32} {a_kept : Nat → Int32} {P86 : Int32 → Int32 → Int32 → Prop} {post : Int32 → (Int32) → (Int32) → (Int32) → (Int32) → (Nat → Int32) → (Nat → Int32) → Prop} {x4 : Int32} {x6 : Int32} {x7 : Int32} {x8 : Int32} {y0 : Int32} {ls : Array Slot} {H : Heap} {locs : List Loc}
    (zc : zC p s m args meth c cX11_join 9 RX11 (some .int))
    (hK : zK E s)
    (hM : mW E q f_code a_tape a_size a_fault a_faultPlace a_many a_lands a_evenings a_sights a_choirs f_reached f_length f_begins f_sort f_value f_word f_wrongAt f_laterFault f_laterPlace a_told a_read f_farHut f_farSinger f_good f_land f_huts f_singers f_evening a_at a_knows a_climbed a_snow a_level f_begun f_minute f_avalanches a_run a_covers a_routes a_longest a_steep a_laid a_far f_sight a_runs f_choir f_voices a_rest a_wins f_seed a_other a_kept H)
    (hS : va_S (mA q) s.heap H locs)
    (hP86 : ∀ (x5 : Int32) (x6 : Int32) (x7 : Int32) (H : Heap) (locs : List Loc) (ls : Array Slot), P86 x5 x6 x7 → lv_has ls 9 [(0, .ref q), (4, .int x4), (5, .int x5), (6, .int x6), (7, .int x7)] → mW E q f_code a_tape a_size a_fault a_faultPlace a_many a_lands a_evenings a_sights a_choirs f_reached f_length f_begins f_sort f_value f_word f_wrongAt f_laterFault f_laterPlace a_told a_read f_farHut f_farSinger f_good f_land f_huts f_singers f_evening a_at a_knows a_climbed a_snow a_level f_begun f_minute f_avalanches a_run a_covers a_routes a_longest a_steep a_laid a_far f_sight a_runs f_choir f_voices a_rest a_wins f_seed a_other a_kept H → va_S (mA q) s.heap H locs → W p l e rm_m_join s m args below meth c H locs 0 0 (MQ below (zQi (S := (Int32) × (Int32) × (Int32) × (Int32) × (Nat → Int32) × (Nat → Int32)) (fun r u => post r u.1 u.2.1 u.2.2.1 u.2.2.2.1 u.2.2.2.2.1 u.2.2.2.2.2) (fun u H => mW E q u.1 a_tape a_size a_fault a_faultPlace a_many a_lands a_evenings a_sights a_choirs f_reached f_length f_begins f_sort f_value f_word f_wrongAt f_laterFault f_laterPlace a_told a_read f_farHut f_farSinger f_good u.2.1 u.2.2.1 u.2.2.2.1 f_evening a_at a_knows a_climbed a_snow a_level f_begun f_minute f_avalanches u.2.2.2.2.1 a_covers a_routes a_longest a_steep a_laid a_far f_sight a_runs f_choir f_voices a_rest a_wins f_seed u.2.2.2.2.2 a_kept H) (mA q)) args s 0 0 (mA q)) (F0 m 86 ls []))
    (hl : lv_has ls 9 [(0, .ref q), (4, .int x4), (6, .int x6), (7, .int x7), (8, .int x8)])
    (hw : q_m_join_128 P86 f_code a_many a_lands f_land f_huts f_singers a_run a_other x4 x6 x7 x8 y0 post) :
    W p l e rm_m_join s m args below meth c H locs 0 0 (MQ below (zQi (S := (Int32) × (Int32) × (Int32) × (Int32) × (Nat → Int32) × (Nat → Int32)) (fun r u => post r u.1 u.2.1 u.2.2.1 u.2.2.2.1 u.2.2.2.2.1 u.2.2.2.2.2) (fun u H => mW E q u.1 a_tape a_size a_fault a_faultPlace a_many a_lands a_evenings a_sights a_choirs f_reached f_length f_begins f_sort f_value f_word f_wrongAt f_laterFault f_laterPlace a_told a_read f_farHut f_farSinger f_good u.2.1 u.2.2.1 u.2.2.2.1 f_evening a_at a_knows a_climbed a_snow a_level f_begun f_minute f_avalanches u.2.2.2.2.1 a_covers a_routes a_longest a_steep a_laid a_far f_sight a_runs f_choir f_voices a_rest a_wins f_seed u.2.2.2.2.2 a_kept H) (mA q)) args s 0 0 (mA q)) (F0 m 128 ls [.int y0]) := by
  have hx := zc.1
  have hb := zc.2.1
  refine lv_istore (lv' := [(5, .int y0), (0, .ref q), (4, .int x4), (6, .int x6), (7, .int x7), (8, .int x8)]) hx hb dX11_join_128 hl (by decide) rfl (fun ls hl => ?_)
  refine lv_iload hx hb dX11_join_130 (lv_at hl 3 rfl) ?_
  refine lv_iload hx hb dX11_join_132 (lv_at hl 5 rfl) ?_
  refine zS_i [.int x6, .int x8] [] zc ky_X11_lesser kz_X11_lesser km_11_411 (c_m_lesser l hw) (zPre0 _) rfl rfl hl.1 (Nat.le_of_ble_eq_true rfl) ⟨rfl, rfl⟩ ⟨Nat.le_of_ble_eq_true rfl, Nat.le_of_ble_eq_true rfl⟩ ⟨(Nat.zero_le _), (Nat.zero_le _)⟩ dX11_join_134 (fun r_1 hw => ?_)
  refine lv_istore (lv' := [(6, .int r_1), (5, .int y0), (0, .ref q), (4, .int x4), (7, .int x7), (8, .int x8)]) hx hb dX11_join_137 hl (by decide) rfl (fun ls hl => ?_)
  obtain ⟨v_1, ev_1⟩ : ∃ y : Int32, y = x7 + (1 : Int32) := ⟨_, rfl⟩
  have hw := hw v_1 ev_1
  refine lv_iinc (v := v_1) (k := 4) (lv' := [(7, .int v_1), (6, .int r_1), (5, .int y0), (0, .ref q), (4, .int x4), (8, .int x8)]) hx hb dX11_join_139 hl rfl (by rw [ev_1]; rfl) (by decide) rfl (fun ls hl => ?_)
  refine lv_goto (tgt := 86) hx hb dX11_join_142 (by decide) ?_
  exact hP86 _ _ _ _ _ _ hw (lv_sub hl [3, 4, 2, 1, 0] rfl) hM hS
set_option maxRecDepth 20000 in
theorem t_m_join_156 {p : Program} {l : Launch} {e : Env} {s : State} {m : MethodId} {args : Array Value} {below : List Frame} {meth : Method} {c : Code} {E : zE} {q : Nat} {f_code : Int32} {a_tape : Nat → Int32} {a_size : Nat → Int32} {a_fault : Nat → Int32} {a_faultPlace : Nat → Int32} {a_many : Nat → Int32} {a_lands : Nat → Int32} {a_evenings : Nat → Int32} {a_sights : Nat → Int32} {a_choirs : Nat → Int32} {f_reached : Int32} {f_length : Int32} {f_begins : Int32} {f_sort : Int32} {f_value : Int32} {f_word : Int64} {f_wrongAt : Int32} {f_laterFault : Int32} {f_laterPlace : Int32} {a_told : Nat → Int32} {a_read : Nat → Int32} {f_farHut : Int32} {f_farSinger : Int32} {f_good : Int32} {f_land : Int32} {f_huts : Int32} {f_singers : Int32} {f_evening : Int32} {a_at : Nat → Int32} {a_knows : Nat → Int32} {a_climbed : Nat → Int32} {a_snow : Nat → Int32} {a_level : Nat → Int32} {f_begun : Int32} {f_minute : Int32} {f_avalanches : Int32} {a_run : Nat → Int32} {a_covers : Nat → Int32} {a_routes : Nat → Int32} {a_longest : Nat → Int32} {a_steep : Nat → Int32} {a_laid : Nat → Int32} {a_far : Nat → Int32} {f_sight : Int32} {a_runs : Nat → Int32} {f_choir : Int32} {f_voices : Int32} {a_rest : Nat → Int64} {a_wins : Nat → Int32} {f_seed : Int32} {a_other : Nat → Int32} {a_kept : Nat → Int32} {post : Int32 → (Int32) → (Int32) → (Int32) → (Int32) → (Nat → Int32) → (Nat → Int32) → Prop} {x5 : Int32} {ls : Array Slot} {H : Heap} {locs : List Loc}
    (zc : zC p s m args meth c cX11_join 9 RX11 (some .int))
    (hK : zK E s)
    (hM : mW E q f_code a_tape a_size a_fault a_faultPlace a_many a_lands a_evenings a_sights a_choirs f_reached f_length f_begins f_sort f_value f_word f_wrongAt f_laterFault f_laterPlace a_told a_read f_farHut f_farSinger f_good f_land f_huts f_singers f_evening a_at a_knows a_climbed a_snow a_level f_begun f_minute f_avalanches a_run a_covers a_routes a_longest a_steep a_laid a_far f_sight a_runs f_choir f_voices a_rest a_wins f_seed a_other a_kept H)
    (hS : va_S (mA q) s.heap H locs)
    (hl : lv_has ls 9 [(5, .int x5)])
    (hw : q_m_join_156 f_code a_many a_lands f_land f_huts f_singers a_run a_other x5 post) :
    W p l e rm_m_join s m args below meth c H locs 0 0 (MQ below (zQi (S := (Int32) × (Int32) × (Int32) × (Int32) × (Nat → Int32) × (Nat → Int32)) (fun r u => post r u.1 u.2.1 u.2.2.1 u.2.2.2.1 u.2.2.2.2.1 u.2.2.2.2.2) (fun u H => mW E q u.1 a_tape a_size a_fault a_faultPlace a_many a_lands a_evenings a_sights a_choirs f_reached f_length f_begins f_sort f_value f_word f_wrongAt f_laterFault f_laterPlace a_told a_read f_farHut f_farSinger f_good u.2.1 u.2.2.1 u.2.2.2.1 f_evening a_at a_knows a_climbed a_snow a_level f_begun f_minute f_avalanches u.2.2.2.2.1 a_covers a_routes a_longest a_steep a_laid a_far f_sight a_runs f_choir f_voices a_rest a_wins f_seed u.2.2.2.2.2 a_kept H) (mA q)) args s 0 0 (mA q)) (F0 m 156 ls []) := by
  have hx := zc.1
  have hb := zc.2.1
  refine lv_iload hx hb dX11_join_156 (lv_at hl 0 rfl) ?_
  refine lv_goto (tgt := 163) hx hb dX11_join_158 (by decide) ?_
  exact zret_iw ⟨f_code, f_land, f_huts, f_singers, a_run, a_other⟩ zc hS hw hM dX11_join_163
set_option maxRecDepth 20000 in
theorem t_m_join_86 {p : Program} {l : Launch} {e : Env} {s : State} {m : MethodId} {args : Array Value} {below : List Frame} {meth : Method} {c : Code} {E : zE} {q : Nat} {f_code : Int32} {a_tape : Nat → Int32} {a_size : Nat → Int32} {a_fault : Nat → Int32} {a_faultPlace : Nat → Int32} {a_many : Nat → Int32} {a_lands : Nat → Int32} {a_evenings : Nat → Int32} {a_sights : Nat → Int32} {a_choirs : Nat → Int32} {f_reached : Int32} {f_length : Int32} {f_begins : Int32} {f_sort : Int32} {f_value : Int32} {f_word : Int64} {f_wrongAt : Int32} {f_laterFault : Int32} {f_laterPlace : Int32} {a_told : Nat → Int32} {a_read : Nat → Int32} {f_farHut : Int32} {f_farSinger : Int32} {f_good : Int32} {f_land : Int32} {f_huts : Int32} {f_singers : Int32} {f_evening : Int32} {a_at : Nat → Int32} {a_knows : Nat → Int32} {a_climbed : Nat → Int32} {a_snow : Nat → Int32} {a_level : Nat → Int32} {f_begun : Int32} {f_minute : Int32} {f_avalanches : Int32} {a_run : Nat → Int32} {a_covers : Nat → Int32} {a_routes : Nat → Int32} {a_longest : Nat → Int32} {a_steep : Nat → Int32} {a_laid : Nat → Int32} {a_far : Nat → Int32} {f_sight : Int32} {a_runs : Nat → Int32} {f_choir : Int32} {f_voices : Int32} {a_rest : Nat → Int64} {a_wins : Nat → Int32} {f_seed : Int32} {a_other : Nat → Int32} {a_kept : Nat → Int32} {post : Int32 → (Int32) → (Int32) → (Int32) → (Int32) → (Nat → Int32) → (Nat → Int32) → Prop} {x4 : Int32} {x5 : Int32} {x6 : Int32} {x7 : Int32} {ls : Array Slot} {H : Heap} {locs : List Loc}
    (zc : zC p s m args meth c cX11_join 9 RX11 (some .int))
    (hK : zK E s)
    (hM : mW E q f_code a_tape a_size a_fault a_faultPlace a_many a_lands a_evenings a_sights a_choirs f_reached f_length f_begins f_sort f_value f_word f_wrongAt f_laterFault f_laterPlace a_told a_read f_farHut f_farSinger f_good f_land f_huts f_singers f_evening a_at a_knows a_climbed a_snow a_level f_begun f_minute f_avalanches a_run a_covers a_routes a_longest a_steep a_laid a_far f_sight a_runs f_choir f_voices a_rest a_wins f_seed a_other a_kept H)
    (hS : va_S (mA q) s.heap H locs)
    (hl : lv_has ls 9 [(0, .ref q), (4, .int x4), (5, .int x5), (6, .int x6), (7, .int x7)])
    (hw : q_m_join_86 f_code a_many a_lands f_land f_huts f_singers a_run a_other x4 x5 x6 x7 post) :
    W p l e rm_m_join s m args below meth c H locs 0 0 (MQ below (zQi (S := (Int32) × (Int32) × (Int32) × (Int32) × (Nat → Int32) × (Nat → Int32)) (fun r u => post r u.1 u.2.1 u.2.2.1 u.2.2.2.1 u.2.2.2.2.1 u.2.2.2.2.2) (fun u H => mW E q u.1 a_tape a_size a_fault a_faultPlace a_many a_lands a_evenings a_sights a_choirs f_reached f_length f_begins f_sort f_value f_word f_wrongAt f_laterFault f_laterPlace a_told a_read f_farHut f_farSinger f_good u.2.1 u.2.2.1 u.2.2.2.1 f_evening a_at a_knows a_climbed a_snow a_level f_begun f_minute f_avalanches u.2.2.2.2.1 a_covers a_routes a_longest a_steep a_laid a_far f_sight a_runs f_choir f_voices a_rest a_wins f_seed u.2.2.2.2.2 a_kept H) (mA q)) args s 0 0 (mA q)) (F0 m 86 ls []) := by
  have hx := zc.1
  have hb := zc.2.1
  refine hw (fun x5 x6 x7 => ∀ (H : Heap) (locs : List Loc) (ls : Array Slot), lv_has ls 9 [(0, .ref q), (4, .int x4), (5, .int x5), (6, .int x6), (7, .int x7)] → mW E q f_code a_tape a_size a_fault a_faultPlace a_many a_lands a_evenings a_sights a_choirs f_reached f_length f_begins f_sort f_value f_word f_wrongAt f_laterFault f_laterPlace a_told a_read f_farHut f_farSinger f_good f_land f_huts f_singers f_evening a_at a_knows a_climbed a_snow a_level f_begun f_minute f_avalanches a_run a_covers a_routes a_longest a_steep a_laid a_far f_sight a_runs f_choir f_voices a_rest a_wins f_seed a_other a_kept H → va_S (mA q) s.heap H locs → W p l e rm_m_join s m args below meth c H locs 0 0 (MQ below (zQi (S := (Int32) × (Int32) × (Int32) × (Int32) × (Nat → Int32) × (Nat → Int32)) (fun r u => post r u.1 u.2.1 u.2.2.1 u.2.2.2.1 u.2.2.2.2.1 u.2.2.2.2.2) (fun u H => mW E q u.1 a_tape a_size a_fault a_faultPlace a_many a_lands a_evenings a_sights a_choirs f_reached f_length f_begins f_sort f_value f_word f_wrongAt f_laterFault f_laterPlace a_told a_read f_farHut f_farSinger f_good u.2.1 u.2.2.1 u.2.2.2.1 f_evening a_at a_knows a_climbed a_snow a_level f_begun f_minute f_avalanches u.2.2.2.2.1 a_covers a_routes a_longest a_steep a_laid a_far f_sight a_runs f_choir f_voices a_rest a_wins f_seed u.2.2.2.2.2 a_kept H) (mA q)) args s 0 0 (mA q)) (F0 m 86 ls [])) ?_ _ _ _ hl hM hS
  intro x5 x6 x7 hw H locs ls hl hM hS
  refine lv_iload hx hb dX11_join_86 (lv_at hl 4 rfl) ?_
  refine lv_aload_n hx hb dX11_join_88 rfl (lv_at hl 0 rfl) ?_
  refine mg_11_307_0 zc hK hM dX11_join_89 ?_
  refine lv_icmp_ge (tgt := 145) hx hb dX11_join_92 (by decide) (fun hc => ?_) (fun hc => ?_)
  · have hw := hw.1 hc
    refine lv_iload hx hb dX11_join_145 (lv_at hl 2 rfl) ?_
    refine lv_iconst (v := (-1 : Int32)) hx hb dX11_join_147 (by decide) ?_
    refine lv_icmp_eq (tgt := 156) hx hb dX11_join_148 (by decide) (fun hc => ?_) (fun hc => ?_)
    · have hw := hw.1 hc
      exact t_m_join_156 zc hK hM hS  (lv_sub hl [2] rfl) hw
    · have hw := hw.2 hc
      refine lv_iload hx hb dX11_join_151 (lv_at hl 1 rfl) ?_
      refine lv_if_ne (tgt := 161) hx hb dX11_join_153 (by decide) (fun hc => ?_) (fun hc => ?_)
      · have hw := hw.1 hc
        refine lv_iload hx hb dX11_join_161 (lv_at hl 3 rfl) ?_
        exact zret_iw ⟨f_code, f_land, f_huts, f_singers, a_run, a_other⟩ zc hS hw hM dX11_join_163
      · have hw := hw.2 hc
        exact t_m_join_156 zc hK hM hS  (lv_sub hl [2] rfl) hw
  · have hw := hw.2 hc
    refine lv_aload_n hx hb dX11_join_95 rfl (lv_at hl 0 rfl) ?_
    refine mg_11_59_0 zc hK hM dX11_join_96 ?_
    refine lv_iload hx hb dX11_join_99 (lv_at hl 4 rfl) ?_
    refine mld_17 zc hK hM hw.1 dX11_join_101 ?_
    have hw := hw.2
    refine lv_aload_n hx hb dX11_join_102 rfl (lv_at hl 0 rfl) ?_
    refine mg_11_91_0 zc hK hM dX11_join_103 ?_
    refine lv_iload hx hb dX11_join_106 (lv_at hl 4 rfl) ?_
    refine mld_27 zc hK hM hw.1 dX11_join_108 ?_
    have hw := hw.2
    refine zS_i [.int (a_run (Int32.toNatClampNeg x7)), .int (a_other (Int32.toNatClampNeg x7))] [] zc ky_X11_greater kz_X11_greater km_11_171 (c_m_greater l hw) (zPre0 _) rfl rfl hl.1 (Nat.le_of_ble_eq_true rfl) ⟨rfl, rfl⟩ ⟨Nat.le_of_ble_eq_true rfl, Nat.le_of_ble_eq_true rfl⟩ ⟨(Nat.zero_le _), (Nat.zero_le _)⟩ dX11_join_109 (fun r_1 hw => ?_)
    refine lv_istore (lv' := [(8, .int r_1), (0, .ref q), (4, .int x4), (5, .int x5), (6, .int x6), (7, .int x7)]) hx hb dX11_join_112 hl (by decide) rfl (fun ls hl => ?_)
    refine lv_iload hx hb dX11_join_114 (lv_at hl 0 rfl) ?_
    refine lv_iload hx hb dX11_join_116 (lv_at hl 4 rfl) ?_
    refine lv_icmp_ge (tgt := 126) hx hb dX11_join_118 (by decide) (fun hc => ?_) (fun hc => ?_)
    · have hw := hw.1 hc
      refine lv_iload hx hb dX11_join_126 (lv_at hl 3 rfl) ?_
      exact t_m_join_128 zc hK hM hS (fun _ _ _ H locs ls h hl hM hS => h H locs ls hl hM hS) (lv_sub hl [1, 2, 4, 5, 0] rfl) hw
    · have hw := hw.2 hc
      refine lv_iload hx hb dX11_join_121 (lv_at hl 5 rfl) ?_
      refine lv_goto (tgt := 128) hx hb dX11_join_123 (by decide) ?_
      exact t_m_join_128 zc hK hM hS (fun _ _ _ H locs ls h hl hM hS => h H locs ls hl hM hS) (lv_sub hl [1, 2, 4, 5, 0] rfl) hw
set_option maxRecDepth 20000 in
theorem t_m_join_40 {p : Program} {l : Launch} {e : Env} {s : State} {m : MethodId} {args : Array Value} {below : List Frame} {meth : Method} {c : Code} {E : zE} {q : Nat} {f_code : Int32} {a_tape : Nat → Int32} {a_size : Nat → Int32} {a_fault : Nat → Int32} {a_faultPlace : Nat → Int32} {a_many : Nat → Int32} {a_lands : Nat → Int32} {a_evenings : Nat → Int32} {a_sights : Nat → Int32} {a_choirs : Nat → Int32} {f_reached : Int32} {f_length : Int32} {f_begins : Int32} {f_sort : Int32} {f_value : Int32} {f_word : Int64} {f_wrongAt : Int32} {f_laterFault : Int32} {f_laterPlace : Int32} {a_told : Nat → Int32} {a_read : Nat → Int32} {f_farHut : Int32} {f_farSinger : Int32} {f_good : Int32} {f_land : Int32} {f_huts : Int32} {f_singers : Int32} {f_evening : Int32} {a_at : Nat → Int32} {a_knows : Nat → Int32} {a_climbed : Nat → Int32} {a_snow : Nat → Int32} {a_level : Nat → Int32} {f_begun : Int32} {f_minute : Int32} {f_avalanches : Int32} {a_run : Nat → Int32} {a_covers : Nat → Int32} {a_routes : Nat → Int32} {a_longest : Nat → Int32} {a_steep : Nat → Int32} {a_laid : Nat → Int32} {a_far : Nat → Int32} {f_sight : Int32} {a_runs : Nat → Int32} {f_choir : Int32} {f_voices : Int32} {a_rest : Nat → Int64} {a_wins : Nat → Int32} {f_seed : Int32} {a_other : Nat → Int32} {a_kept : Nat → Int32} {post : Int32 → (Int32) → (Int32) → (Int32) → (Int32) → (Nat → Int32) → (Nat → Int32) → Prop} {x3 : Int32} {x4 : Int32} {x5 : Int32} {ls : Array Slot} {H : Heap} {locs : List Loc}
    (zc : zC p s m args meth c cX11_join 9 RX11 (some .int))
    (hK : zK E s)
    (hM : mW E q f_code a_tape a_size a_fault a_faultPlace a_many a_lands a_evenings a_sights a_choirs f_reached f_length f_begins f_sort f_value f_word f_wrongAt f_laterFault f_laterPlace a_told a_read f_farHut f_farSinger f_good f_land f_huts f_singers f_evening a_at a_knows a_climbed a_snow a_level f_begun f_minute f_avalanches a_run a_covers a_routes a_longest a_steep a_laid a_far f_sight a_runs f_choir f_voices a_rest a_wins f_seed a_other a_kept H)
    (hS : va_S (mA q) s.heap H locs)
    (hl : lv_has ls 9 [(0, .ref q), (3, .int x3), (4, .int x4), (5, .int x5)])
    (hw : q_m_join_40 f_code a_many a_lands f_land f_huts f_singers a_run a_other x3 x4 x5 post) :
    W p l e rm_m_join s m args below meth c H locs 0 0 (MQ below (zQi (S := (Int32) × (Int32) × (Int32) × (Int32) × (Nat → Int32) × (Nat → Int32)) (fun r u => post r u.1 u.2.1 u.2.2.1 u.2.2.2.1 u.2.2.2.2.1 u.2.2.2.2.2) (fun u H => mW E q u.1 a_tape a_size a_fault a_faultPlace a_many a_lands a_evenings a_sights a_choirs f_reached f_length f_begins f_sort f_value f_word f_wrongAt f_laterFault f_laterPlace a_told a_read f_farHut f_farSinger f_good u.2.1 u.2.2.1 u.2.2.2.1 f_evening a_at a_knows a_climbed a_snow a_level f_begun f_minute f_avalanches u.2.2.2.2.1 a_covers a_routes a_longest a_steep a_laid a_far f_sight a_runs f_choir f_voices a_rest a_wins f_seed u.2.2.2.2.2 a_kept H) (mA q)) args s 0 0 (mA q)) (F0 m 40 ls []) := by
  have hx := zc.1
  have hb := zc.2.1
  refine hw (fun x5 a_other => ∀ (H : Heap) (locs : List Loc) (ls : Array Slot), lv_has ls 9 [(0, .ref q), (3, .int x3), (4, .int x4), (5, .int x5)] → mW E q f_code a_tape a_size a_fault a_faultPlace a_many a_lands a_evenings a_sights a_choirs f_reached f_length f_begins f_sort f_value f_word f_wrongAt f_laterFault f_laterPlace a_told a_read f_farHut f_farSinger f_good f_land f_huts f_singers f_evening a_at a_knows a_climbed a_snow a_level f_begun f_minute f_avalanches a_run a_covers a_routes a_longest a_steep a_laid a_far f_sight a_runs f_choir f_voices a_rest a_wins f_seed a_other a_kept H → va_S (mA q) s.heap H locs → W p l e rm_m_join s m args below meth c H locs 0 0 (MQ below (zQi (S := (Int32) × (Int32) × (Int32) × (Int32) × (Nat → Int32) × (Nat → Int32)) (fun r u => post r u.1 u.2.1 u.2.2.1 u.2.2.2.1 u.2.2.2.2.1 u.2.2.2.2.2) (fun u H => mW E q u.1 a_tape a_size a_fault a_faultPlace a_many a_lands a_evenings a_sights a_choirs f_reached f_length f_begins f_sort f_value f_word f_wrongAt f_laterFault f_laterPlace a_told a_read f_farHut f_farSinger f_good u.2.1 u.2.2.1 u.2.2.2.1 f_evening a_at a_knows a_climbed a_snow a_level f_begun f_minute f_avalanches u.2.2.2.2.1 a_covers a_routes a_longest a_steep a_laid a_far f_sight a_runs f_choir f_voices a_rest a_wins f_seed u.2.2.2.2.2 a_kept H) (mA q)) args s 0 0 (mA q)) (F0 m 40 ls [])) ?_ _ _ _ hl hM hS
  intro x5 a_other hw H locs ls hl hM hS
  refine lv_iload hx hb dX11_join_40 (lv_at hl 3 rfl) ?_
  refine lv_aload_n hx hb dX11_join_42 rfl (lv_at hl 0 rfl) ?_
  refine mg_11_307_0 zc hK hM dX11_join_43 ?_
  refine lv_icmp_ge (tgt := 69) hx hb dX11_join_46 (by decide) (fun hc => ?_) (fun hc => ?_)
  · have hw := hw.1 hc
    refine lv_aload_n hx hb dX11_join_69 rfl (lv_at hl 0 rfl) ?_
    refine lv_iload_n hx hb dX11_join_70 rfl (lv_at hl 1 rfl) ?_
    refine lv_iconst (v := (0 : Int32)) hx hb dX11_join_71 (by decide) ?_
    refine zVw_v [.int x3, .int (0 : Int32)] [] zc ky_X11_findRun kz_X11_findRun km_11_414 (c_m_findRun l hw) (mPreV0 hK hM) hS rfl rfl hl.1 (Nat.le_of_ble_eq_true rfl) ⟨rfl, rfl⟩ ⟨Nat.le_of_ble_eq_true rfl, Nat.le_of_ble_eq_true rfl⟩ ⟨(Nat.zero_le _), (Nat.zero_le _)⟩ dX11_join_72 (fun a_run_1 H locs hw hM hS => ?_)
    refine lv_iconst (v := (-1 : Int32)) hx hb dX11_join_75 (by decide) ?_
    refine lv_istore (lv' := [(5, .int (-1 : Int32)), (0, .ref q), (3, .int x3), (4, .int x4)]) hx hb dX11_join_76 hl (by decide) rfl (fun ls hl => ?_)
    refine lv_ldcw (v := (1000000 : Int32)) hx hb zc.2.2.2.1 (zc.2.2.2.2.1 _ kc_11_410) dX11_join_78 ?_
    refine lv_istore (lv' := [(6, .int (1000000 : Int32)), (5, .int (-1 : Int32)), (0, .ref q), (3, .int x3), (4, .int x4)]) hx hb dX11_join_81 hl (by decide) rfl (fun ls hl => ?_)
    refine lv_iconst (v := (0 : Int32)) hx hb dX11_join_83 (by decide) ?_
    refine lv_istore (lv' := [(7, .int (0 : Int32)), (6, .int (1000000 : Int32)), (5, .int (-1 : Int32)), (0, .ref q), (3, .int x3), (4, .int x4)]) hx hb dX11_join_84 hl (by decide) rfl (fun ls hl => ?_)
    exact t_m_join_86 zc hK hM hS  (lv_sub hl [3, 5, 2, 1, 0] rfl) hw
  · have hw := hw.2 hc
    refine lv_aload_n hx hb dX11_join_49 rfl (lv_at hl 0 rfl) ?_
    refine mg_11_91_0 zc hK hM dX11_join_50 ?_
    refine lv_iload hx hb dX11_join_53 (lv_at hl 3 rfl) ?_
    refine lv_aload_n hx hb dX11_join_55 rfl (lv_at hl 0 rfl) ?_
    refine mg_11_59_0 zc hK hM dX11_join_56 ?_
    refine lv_iload hx hb dX11_join_59 (lv_at hl 3 rfl) ?_
    refine mld_17 zc hK hM hw.1 dX11_join_61 ?_
    have hw := hw.2
    refine lv_topi (fun v_1 ev_1 => ?_)
    have hw := hw v_1 ev_1
    refine mst_27 zc hK hM hS hw.1 dX11_join_62 (fun a_other_1 H locs ea_other_1 hM hS => ?_)
    have hw := hw.2 a_other_1 ea_other_1
    obtain ⟨v_2, ev_2⟩ : ∃ y : Int32, y = x5 + (1 : Int32) := ⟨_, rfl⟩
    have hw := hw v_2 ev_2
    refine lv_iinc (v := v_2) (k := 3) (lv' := [(5, .int v_2), (0, .ref q), (3, .int x3), (4, .int x4)]) hx hb dX11_join_63 hl rfl (by rw [ev_2]; rfl) (by decide) rfl (fun ls hl => ?_)
    refine lv_goto (tgt := 40) hx hb dX11_join_66 (by decide) ?_
    exact hw _ _ _ (lv_sub hl [1, 2, 3, 0] rfl) hM hS
set_option maxRecDepth 20000 in
theorem t_m_join_0 {p : Program} {l : Launch} {e : Env} {s : State} {m : MethodId} {args : Array Value} {below : List Frame} {meth : Method} {c : Code} {E : zE} {q : Nat} {f_code : Int32} {a_tape : Nat → Int32} {a_size : Nat → Int32} {a_fault : Nat → Int32} {a_faultPlace : Nat → Int32} {a_many : Nat → Int32} {a_lands : Nat → Int32} {a_evenings : Nat → Int32} {a_sights : Nat → Int32} {a_choirs : Nat → Int32} {f_reached : Int32} {f_length : Int32} {f_begins : Int32} {f_sort : Int32} {f_value : Int32} {f_word : Int64} {f_wrongAt : Int32} {f_laterFault : Int32} {f_laterPlace : Int32} {a_told : Nat → Int32} {a_read : Nat → Int32} {f_farHut : Int32} {f_farSinger : Int32} {f_good : Int32} {f_land : Int32} {f_huts : Int32} {f_singers : Int32} {f_evening : Int32} {a_at : Nat → Int32} {a_knows : Nat → Int32} {a_climbed : Nat → Int32} {a_snow : Nat → Int32} {a_level : Nat → Int32} {f_begun : Int32} {f_minute : Int32} {f_avalanches : Int32} {a_run : Nat → Int32} {a_covers : Nat → Int32} {a_routes : Nat → Int32} {a_longest : Nat → Int32} {a_steep : Nat → Int32} {a_laid : Nat → Int32} {a_far : Nat → Int32} {f_sight : Int32} {a_runs : Nat → Int32} {f_choir : Int32} {f_voices : Int32} {a_rest : Nat → Int64} {a_wins : Nat → Int32} {f_seed : Int32} {a_other : Nat → Int32} {a_kept : Nat → Int32} {post : Int32 → (Int32) → (Int32) → (Int32) → (Int32) → (Nat → Int32) → (Nat → Int32) → Prop} {x1 : Int32} {x2 : Int32} {x3 : Int32} {x4 : Int32} {ls : Array Slot} {H : Heap} {locs : List Loc}
    (zc : zC p s m args meth c cX11_join 9 RX11 (some .int))
    (hK : zK E s)
    (hM : mW E q f_code a_tape a_size a_fault a_faultPlace a_many a_lands a_evenings a_sights a_choirs f_reached f_length f_begins f_sort f_value f_word f_wrongAt f_laterFault f_laterPlace a_told a_read f_farHut f_farSinger f_good f_land f_huts f_singers f_evening a_at a_knows a_climbed a_snow a_level f_begun f_minute f_avalanches a_run a_covers a_routes a_longest a_steep a_laid a_far f_sight a_runs f_choir f_voices a_rest a_wins f_seed a_other a_kept H)
    (hS : va_S (mA q) s.heap H locs)
    (hl : lv_has ls 9 [(0, .ref q), (1, .int x1), (2, .int x2), (3, .int x3), (4, .int x4)])
    (hw : q_m_join_0 f_code a_many a_lands f_land f_huts f_singers a_run a_other x1 x2 x3 x4 post) :
    W p l e rm_m_join s m args below meth c H locs 0 0 (MQ below (zQi (S := (Int32) × (Int32) × (Int32) × (Int32) × (Nat → Int32) × (Nat → Int32)) (fun r u => post r u.1 u.2.1 u.2.2.1 u.2.2.2.1 u.2.2.2.2.1 u.2.2.2.2.2) (fun u H => mW E q u.1 a_tape a_size a_fault a_faultPlace a_many a_lands a_evenings a_sights a_choirs f_reached f_length f_begins f_sort f_value f_word f_wrongAt f_laterFault f_laterPlace a_told a_read f_farHut f_farSinger f_good u.2.1 u.2.2.1 u.2.2.2.1 f_evening a_at a_knows a_climbed a_snow a_level f_begun f_minute f_avalanches u.2.2.2.2.1 a_covers a_routes a_longest a_steep a_laid a_far f_sight a_runs f_choir f_voices a_rest a_wins f_seed u.2.2.2.2.2 a_kept H) (mA q)) args s 0 0 (mA q)) (F0 m 0 ls []) := by
  have hx := zc.1
  have hb := zc.2.1
  refine lv_aload_n hx hb dX11_join_0 rfl (lv_at hl 0 rfl) ?_
  refine lv_iconst (v := (0 : Int32)) hx hb dX11_join_1 (by decide) ?_
  refine mp_11_97_0 zc hK hM hS dX11_join_2 (fun H locs hM hS => ?_)
  refine lv_aload_n hx hb dX11_join_5 rfl (lv_at hl 0 rfl) ?_
  refine lv_iload_n hx hb dX11_join_6 rfl (lv_at hl 1 rfl) ?_
  refine zVw_i [.int x1] [] zc ky_X11_hand kz_X11_hand km_11_313 (c_m_hand l hw) (mPreV0 hK hM) hS rfl rfl hl.1 (Nat.le_of_ble_eq_true rfl) ⟨rfl, rfl⟩ ⟨Nat.le_of_ble_eq_true rfl, Nat.le_of_ble_eq_true rfl⟩ ⟨(Nat.zero_le _), (Nat.zero_le _)⟩ dX11_join_7 (fun r_1 u H locs hw hM hS => ?_)
  obtain ⟨f_land_1, f_huts_1, f_singers_1⟩ := u
  refine lv_if_eq (tgt := 29) hx hb dX11_join_10 (by decide) (fun hc => ?_) (fun hc => ?_)
  · have hw := hw.1 hc
    refine lv_iconst (v := (-1 : Int32)) hx hb dX11_join_29 (by decide) ?_
    exact zret_iw ⟨(0 : Int32), f_land_1, f_huts_1, f_singers_1, a_run, a_other⟩ zc hS hw hM dX11_join_30
  · have hw := hw.2 hc
    refine lv_aload_n hx hb dX11_join_13 rfl (lv_at hl 0 rfl) ?_
    refine lv_iload_n hx hb dX11_join_14 rfl (lv_at hl 2 rfl) ?_
    refine zV_i [.int x2] [] zc ky_X11_isHut kz_X11_isHut km_11_316 (c_m_isHut l hw) (mPreV0 hK hM) rfl rfl hl.1 (Nat.le_of_ble_eq_true rfl) ⟨rfl, rfl⟩ ⟨Nat.le_of_ble_eq_true rfl, Nat.le_of_ble_eq_true rfl⟩ ⟨(Nat.zero_le _), (Nat.zero_le _)⟩ dX11_join_15 (fun r_2 hw => ?_)
    refine lv_if_eq (tgt := 29) hx hb dX11_join_18 (by decide) (fun hc => ?_) (fun hc => ?_)
    · have hw := hw.1 hc
      refine lv_iconst (v := (-1 : Int32)) hx hb dX11_join_29 (by decide) ?_
      exact zret_iw ⟨(0 : Int32), f_land_1, f_huts_1, f_singers_1, a_run, a_other⟩ zc hS hw hM dX11_join_30
    · have hw := hw.2 hc
      refine lv_aload_n hx hb dX11_join_21 rfl (lv_at hl 0 rfl) ?_
      refine lv_iload_n hx hb dX11_join_22 rfl (lv_at hl 3 rfl) ?_
      refine zV_i [.int x3] [] zc ky_X11_isHut kz_X11_isHut km_11_316 (c_m_isHut l hw) (mPreV0 hK hM) rfl rfl hl.1 (Nat.le_of_ble_eq_true rfl) ⟨rfl, rfl⟩ ⟨Nat.le_of_ble_eq_true rfl, Nat.le_of_ble_eq_true rfl⟩ ⟨(Nat.zero_le _), (Nat.zero_le _)⟩ dX11_join_23 (fun r_3 hw => ?_)
      refine lv_if_ne (tgt := 31) hx hb dX11_join_26 (by decide) (fun hc => ?_) (fun hc => ?_)
      · have hw := hw.1 hc
        refine lv_aload_n hx hb dX11_join_31 rfl (lv_at hl 0 rfl) ?_
        refine lv_iload_n hx hb dX11_join_32 rfl (lv_at hl 2 rfl) ?_
        refine lv_iconst (v := (0 : Int32)) hx hb dX11_join_33 (by decide) ?_
        refine zVw_v [.int x2, .int (0 : Int32)] [] zc ky_X11_findRun kz_X11_findRun km_11_414 (c_m_findRun l hw) (mPreV0 hK hM) hS rfl rfl hl.1 (Nat.le_of_ble_eq_true rfl) ⟨rfl, rfl⟩ ⟨Nat.le_of_ble_eq_true rfl, Nat.le_of_ble_eq_true rfl⟩ ⟨(Nat.zero_le _), (Nat.zero_le _)⟩ dX11_join_34 (fun a_run_1 H locs hw hM hS => ?_)
        refine lv_iconst (v := (0 : Int32)) hx hb dX11_join_37 (by decide) ?_
        refine lv_istore (lv' := [(5, .int (0 : Int32)), (0, .ref q), (1, .int x1), (2, .int x2), (3, .int x3), (4, .int x4)]) hx hb dX11_join_38 hl (by decide) rfl (fun ls hl => ?_)
        exact t_m_join_40 zc hK hM hS  (lv_sub hl [1, 4, 5, 0] rfl) hw
      · have hw := hw.2 hc
        refine lv_iconst (v := (-1 : Int32)) hx hb dX11_join_29 (by decide) ?_
        exact zret_iw ⟨(0 : Int32), f_land_1, f_huts_1, f_singers_1, a_run, a_other⟩ zc hS hw hM dX11_join_30
set_option maxRecDepth 20000 in
theorem c_m_join (l : Launch) {E : zE} {q : Nat} {f_code : Int32} {a_tape : Nat → Int32} {a_size : Nat → Int32} {a_fault : Nat → Int32} {a_faultPlace : Nat → Int32} {a_many : Nat → Int32} {a_lands : Nat → Int32} {a_evenings : Nat → Int32} {a_sights : Nat → Int32} {a_choirs : Nat → Int32} {f_reached : Int32} {f_length : Int32} {f_begins : Int32} {f_sort : Int32} {f_value : Int32} {f_word : Int64} {f_wrongAt : Int32} {f_laterFault : Int32} {f_laterPlace : Int32} {a_told : Nat → Int32} {a_read : Nat → Int32} {f_farHut : Int32} {f_farSinger : Int32} {f_good : Int32} {f_land : Int32} {f_huts : Int32} {f_singers : Int32} {f_evening : Int32} {a_at : Nat → Int32} {a_knows : Nat → Int32} {a_climbed : Nat → Int32} {a_snow : Nat → Int32} {a_level : Nat → Int32} {f_begun : Int32} {f_minute : Int32} {f_avalanches : Int32} {a_run : Nat → Int32} {a_covers : Nat → Int32} {a_routes : Nat → Int32} {a_longest : Nat → Int32} {a_steep : Nat → Int32} {a_laid : Nat → Int32} {a_far : Nat → Int32} {f_sight : Int32} {a_runs : Nat → Int32} {f_choir : Int32} {f_voices : Int32} {a_rest : Nat → Int64} {a_wins : Nat → Int32} {f_seed : Int32} {a_other : Nat → Int32} {a_kept : Nat → Int32} {x1 : Int32} {x2 : Int32} {x3 : Int32} {x4 : Int32} {post : Int32 → (Int32) → (Int32) → (Int32) → (Int32) → (Nat → Int32) → (Nat → Int32) → Prop} (hw : q_m_join_0 f_code a_many a_lands f_land f_huts f_singers a_run a_other x1 x2 x3 x4 post) : Met l yX11_join (Cond.code yX11_join cX11_join 9 (some .int) :: zb) rm_m_join (va_Pc [.ref q, .int x1, .int x2, .int x3, .int x4] (fun U => mW E q f_code a_tape a_size a_fault a_faultPlace a_many a_lands a_evenings a_sights a_choirs f_reached f_length f_begins f_sort f_value f_word f_wrongAt f_laterFault f_laterPlace a_told a_read f_farHut f_farSinger f_good f_land f_huts f_singers f_evening a_at a_knows a_climbed a_snow a_level f_begun f_minute f_avalanches a_run a_covers a_routes a_longest a_steep a_laid a_far f_sight a_runs f_choir f_voices a_rest a_wins f_seed a_other a_kept U.heap ∧ zK E U)) (zQi (S := (Int32) × (Int32) × (Int32) × (Int32) × (Nat → Int32) × (Nat → Int32)) (fun r u => post r u.1 u.2.1 u.2.2.1 u.2.2.2.1 u.2.2.2.2.1 u.2.2.2.2.2) (fun u H => mW E q u.1 a_tape a_size a_fault a_faultPlace a_many a_lands a_evenings a_sights a_choirs f_reached f_length f_begins f_sort f_value f_word f_wrongAt f_laterFault f_laterPlace a_told a_read f_farHut f_farSinger f_good u.2.1 u.2.2.1 u.2.2.2.1 f_evening a_at a_knows a_climbed a_snow a_level f_begun f_minute f_avalanches u.2.2.2.2.1 a_covers a_routes a_longest a_steep a_laid a_far f_sight a_runs f_choir f_voices a_rest a_wins f_seed u.2.2.2.2.2 a_kept H) (mA q)) 0 0 (mA q) := by
  refine Met.ofW (cc := cX11_join) (maxL := 9) (ret := (some .int)) (by decide) rfl ?_
  intro p e s m args below meth c s₁ B hml hv
  obtain ⟨rfl, hM, hK⟩ := hv
  have zc := zc_of B hml
  have hl := lv_entry ([.ref q, .int x1, .int x2, .int x3, .int x4]) (n := 9) (Nat.le_of_ble_eq_true rfl)
  rw [lg_entry_eq]
  generalize (lg_sl ([.ref q, .int x1, .int x2, .int x3, .int x4]) ++ List.replicate (9 - (lg_sl ([.ref q, .int x1, .int x2, .int x3, .int x4])).length) Slot.unset).toArray = ls at hl ⊢
  have hl : lv_has ls 9 [(0, .ref q), (1, .int x1), (2, .int x2), (3, .int x3), (4, .int x4)] := hl
  exact t_m_join_0 zc hK hM va_S.rf (lv_sub hl [0, 1, 2, 3, 4] rfl) hw
-- m_slopes
abbrev rm_m_slopes : Room := { frames := 4, cells := 0, slots := 0, locals := 90 }
def q_m_slopes_121 (P38 : Int32 → Int32 → Int32 → Int32 → Int32 → (Nat → Int32) → (Nat → Int32) → (Nat → Int32) → (Nat → Int32) → (Nat → Int32) → Prop) (f_code : Int32) (a_many : Nat → Int32) (a_lands : Nat → Int32) (f_land : Int32) (f_huts : Int32) (f_singers : Int32) (a_run : Nat → Int32) (a_routes : Nat → Int32) (a_longest : Nat → Int32) (a_steep : Nat → Int32) (a_laid : Nat → Int32) (x2 : Int32) (x3 : Int32) (x4 : Int32) (x5 : Int32) (x6 : Int32) (x7 : Int32) (x9 : Int32) (post : Int32 → (Int32) → (Int32) → (Int32) → (Int32) → (Nat → Int32) → (Nat → Int32) → (Nat → Int32) → (Nat → Int32) → (Nat → Int32) → Prop) : Prop :=
  ∀ P121 : Int32 → Int32 → Prop, (∀ (x6 : Int32) (x9 : Int32), ((f_huts ≤ x9 → (∀ v_1 : Int32, v_1 = x7 + (1 : Int32) → (P38 x3 x4 x5 x6 v_1 a_run a_routes a_longest a_steep a_laid))) ∧ (¬ f_huts ≤ x9 → (vp_in x9 9 ∧ (q_m_greater_0 x6 (a_longest (Int32.toNatClampNeg x9)) (fun r_1 => ∀ v_2 : Int32, v_2 = x9 + (1 : Int32) → (P121 r_1 v_2)))))) → P121 x6 x9) → P121 x6 x9
def q_m_slopes_99 (P38 : Int32 → Int32 → Int32 → Int32 → Int32 → (Nat → Int32) → (Nat → Int32) → (Nat → Int32) → (Nat → Int32) → (Nat → Int32) → Prop) (f_code : Int32) (a_many : Nat → Int32) (a_lands : Nat → Int32) (f_land : Int32) (f_huts : Int32) (f_singers : Int32) (a_run : Nat → Int32) (a_routes : Nat → Int32) (a_longest : Nat → Int32) (a_steep : Nat → Int32) (a_laid : Nat → Int32) (x2 : Int32) (x3 : Int32) (x5 : Int32) (x6 : Int32) (x7 : Int32) (x8 : Int32) (y0 : Int32) (y1 : Int32) (post : Int32 → (Int32) → (Int32) → (Int32) → (Int32) → (Nat → Int32) → (Nat → Int32) → (Nat → Int32) → (Nat → Int32) → (Nat → Int32) → Prop) : Prop :=
  ∀ v_1 : Int32, v_1 = (y0 ||| y1) → (q_m_ones_0 x8 (fun r_1 => ∀ v_2 : Int32, v_2 = (x5 + r_1) → (q_m_findRoutes_0 a_lands f_land f_huts a_routes a_longest a_steep a_laid x7 (fun a_routes_1 a_longest_1 a_steep_1 a_laid_1 => q_m_slopes_121 P38 f_code a_many a_lands f_land f_huts f_singers a_run a_routes_1 a_longest_1 a_steep_1 a_laid_1 x2 x3 v_1 v_2 x6 x7 (0 : Int32) post))))
def q_m_slopes_98 (P38 : Int32 → Int32 → Int32 → Int32 → Int32 → (Nat → Int32) → (Nat → Int32) → (Nat → Int32) → (Nat → Int32) → (Nat → Int32) → Prop) (f_code : Int32) (a_many : Nat → Int32) (a_lands : Nat → Int32) (f_land : Int32) (f_huts : Int32) (f_singers : Int32) (a_run : Nat → Int32) (a_routes : Nat → Int32) (a_longest : Nat → Int32) (a_steep : Nat → Int32) (a_laid : Nat → Int32) (x2 : Int32) (x3 : Int32) (x5 : Int32) (x6 : Int32) (x7 : Int32) (x8 : Int32) (y0 : Int32) (post : Int32 → (Int32) → (Int32) → (Int32) → (Int32) → (Nat → Int32) → (Nat → Int32) → (Nat → Int32) → (Nat → Int32) → (Nat → Int32) → Prop) : Prop :=
  q_m_slopes_99 P38 f_code a_many a_lands f_land f_huts f_singers a_run a_routes a_longest a_steep a_laid x2 x3 x5 x6 x7 x8 y0 (0 : Int32) post
def q_m_slopes_38 (f_code : Int32) (a_many : Nat → Int32) (a_lands : Nat → Int32) (f_land : Int32) (f_huts : Int32) (f_singers : Int32) (a_run : Nat → Int32) (a_routes : Nat → Int32) (a_longest : Nat → Int32) (a_steep : Nat → Int32) (a_laid : Nat → Int32) (x2 : Int32) (x3 : Int32) (x4 : Int32) (x5 : Int32) (x6 : Int32) (x7 : Int32) (post : Int32 → (Int32) → (Int32) → (Int32) → (Int32) → (Nat → Int32) → (Nat → Int32) → (Nat → Int32) → (Nat → Int32) → (Nat → Int32) → Prop) : Prop :=
  ∀ P38 : Int32 → Int32 → Int32 → Int32 → Int32 → (Nat → Int32) → (Nat → Int32) → (Nat → Int32) → (Nat → Int32) → (Nat → Int32) → Prop, (∀ (x3 : Int32) (x4 : Int32) (x5 : Int32) (x6 : Int32) (x7 : Int32) (a_run : Nat → Int32) (a_routes : Nat → Int32) (a_longest : Nat → Int32) (a_steep : Nat → Int32) (a_laid : Nat → Int32), ((f_huts ≤ x7 → ((¬ x2 = 0 → ((¬ x2 = (1 : Int32) → ((¬ x2 = (2 : Int32) → (post x6 f_code f_land f_huts f_singers a_run a_routes a_longest a_steep a_laid)) ∧ (x2 = (2 : Int32) → (post x5 f_code f_land f_huts f_singers a_run a_routes a_longest a_steep a_laid)))) ∧ (x2 = (1 : Int32) → (post x4 f_code f_land f_huts f_singers a_run a_routes a_longest a_steep a_laid)))) ∧ (x2 = 0 → (q_m_noDams_0 a_lands f_land f_huts (fun r_1 => post (r_1 &&& (x3 ^^^ (-1 : Int32))) f_code f_land f_huts f_singers a_run a_routes a_longest a_steep a_laid))))) ∧ (¬ f_huts ≤ x7 → (q_m_findRun_0 a_lands f_land f_huts a_run x7 (0 : Int32) (fun a_run_1 => q_m_comesBy_0 f_huts a_run_1 (999999 : Int32) (fun r_2 => ∀ v_1 : Int32, v_1 = (r_2 &&& (((1 : Int32) <<< (x7 &&& 31)) ^^^ (-1 : Int32))) → (∀ v_2 : Int32, v_2 = (x3 ||| v_1) → ((¬ v_1 = 0 → (q_m_slopes_98 P38 f_code a_many a_lands f_land f_huts f_singers a_run_1 a_routes a_longest a_steep a_laid x2 v_2 x5 x6 x7 v_1 x4 post)) ∧ (v_1 = 0 → (q_m_isDam_0 a_lands f_land x7 (fun r_3 => (¬ r_3 = 0 → (q_m_slopes_98 P38 f_code a_many a_lands f_land f_huts f_singers a_run_1 a_routes a_longest a_steep a_laid x2 v_2 x5 x6 x7 v_1 x4 post)) ∧ (r_3 = 0 → (q_m_slopes_99 P38 f_code a_many a_lands f_land f_huts f_singers a_run_1 a_routes a_longest a_steep a_laid x2 v_2 x5 x6 x7 v_1 x4 ((1 : Int32) <<< (x7 &&& 31)) post)))))))))))) → P38 x3 x4 x5 x6 x7 a_run a_routes a_longest a_steep a_laid) → P38 x3 x4 x5 x6 x7 a_run a_routes a_longest a_steep a_laid
def q_m_slopes_0 (f_code : Int32) (a_many : Nat → Int32) (a_lands : Nat → Int32) (f_land : Int32) (f_huts : Int32) (f_singers : Int32) (a_run : Nat → Int32) (a_routes : Nat → Int32) (a_longest : Nat → Int32) (a_steep : Nat → Int32) (a_laid : Nat → Int32) (x1 : Int32) (x2 : Int32) (post : Int32 → (Int32) → (Int32) → (Int32) → (Int32) → (Nat → Int32) → (Nat → Int32) → (Nat → Int32) → (Nat → Int32) → (Nat → Int32) → Prop) : Prop :=
  q_m_hand_0 a_many a_lands f_land f_huts f_singers x1 (fun r_1 f_land_1 f_huts_1 f_singers_1 => (r_1 = 0 → (post (-1 : Int32) (0 : Int32) f_land_1 f_huts_1 f_singers_1 a_run a_routes a_longest a_steep a_laid)) ∧ (¬ r_1 = 0 → (q_m_in_0 x2 (0 : Int32) (3 : Int32) (fun r_2 => (¬ r_2 = 0 → (q_m_slopes_38 (0 : Int32) a_many a_lands f_land_1 f_huts_1 f_singers_1 a_run a_routes a_longest a_steep a_laid x2 (0 : Int32) (0 : Int32) (0 : Int32) (0 : Int32) (0 : Int32) post)) ∧ (r_2 = 0 → (post (-1 : Int32) (0 : Int32) f_land_1 f_huts_1 f_singers_1 a_run a_routes a_longest a_steep a_laid))))))
set_option maxRecDepth 20000 in
theorem t_m_slopes_121 {p : Program} {l : Launch} {e : Env} {s : State} {m : MethodId} {args : Array Value} {below : List Frame} {meth : Method} {c : Code} {E : zE} {q : Nat} {f_code : Int32} {a_tape : Nat → Int32} {a_size : Nat → Int32} {a_fault : Nat → Int32} {a_faultPlace : Nat → Int32} {a_many : Nat → Int32} {a_lands : Nat → Int32} {a_evenings : Nat → Int32} {a_sights : Nat → Int32} {a_choirs : Nat → Int32} {f_reached : Int32} {f_length : Int32} {f_begins : Int32} {f_sort : Int32} {f_value : Int32} {f_word : Int64} {f_wrongAt : Int32} {f_laterFault : Int32} {f_laterPlace : Int32} {a_told : Nat → Int32} {a_read : Nat → Int32} {f_farHut : Int32} {f_farSinger : Int32} {f_good : Int32} {f_land : Int32} {f_huts : Int32} {f_singers : Int32} {f_evening : Int32} {a_at : Nat → Int32} {a_knows : Nat → Int32} {a_climbed : Nat → Int32} {a_snow : Nat → Int32} {a_level : Nat → Int32} {f_begun : Int32} {f_minute : Int32} {f_avalanches : Int32} {a_run : Nat → Int32} {a_covers : Nat → Int32} {a_routes : Nat → Int32} {a_longest : Nat → Int32} {a_steep : Nat → Int32} {a_laid : Nat → Int32} {a_far : Nat → Int32} {f_sight : Int32} {a_runs : Nat → Int32} {f_choir : Int32} {f_voices : Int32} {a_rest : Nat → Int64} {a_wins : Nat → Int32} {f_seed : Int32} {a_other : Nat → Int32} {a_kept : Nat → Int32} {P38 : Int32 → Int32 → Int32 → Int32 → Int32 → (Nat → Int32) → (Nat → Int32) → (Nat → Int32) → (Nat → Int32) → (Nat → Int32) → Prop} {post : Int32 → (Int32) → (Int32) → (Int32) → (Int32) → (Nat → Int32) → (Nat → Int32) → (Nat → Int32) → (Nat → Int32) → (Nat → Int32) → Prop} {x2 : Int32} {x3 : Int32} {x4 : Int32} {x5 : Int32} {x6 : Int32} {x7 : Int32} {x9 : Int32} {ls : Array Slot} {H : Heap} {locs : List Loc}
    (zc : zC p s m args meth c cX11_slopes 10 RX11 (some .int))
    (hK : zK E s)
    (hM : mW E q f_code a_tape a_size a_fault a_faultPlace a_many a_lands a_evenings a_sights a_choirs f_reached f_length f_begins f_sort f_value f_word f_wrongAt f_laterFault f_laterPlace a_told a_read f_farHut f_farSinger f_good f_land f_huts f_singers f_evening a_at a_knows a_climbed a_snow a_level f_begun f_minute f_avalanches a_run a_covers a_routes a_longest a_steep a_laid a_far f_sight a_runs f_choir f_voices a_rest a_wins f_seed a_other a_kept H)
    (hS : va_S (mA q) s.heap H locs)
    (hP38 : ∀ (x3 : Int32) (x4 : Int32) (x5 : Int32) (x6 : Int32) (x7 : Int32) (a_run : Nat → Int32) (a_routes : Nat → Int32) (a_longest : Nat → Int32) (a_steep : Nat → Int32) (a_laid : Nat → Int32) (H : Heap) (locs : List Loc) (ls : Array Slot), P38 x3 x4 x5 x6 x7 a_run a_routes a_longest a_steep a_laid → lv_has ls 10 [(0, .ref q), (2, .int x2), (3, .int x3), (4, .int x4), (5, .int x5), (6, .int x6), (7, .int x7)] → mW E q f_code a_tape a_size a_fault a_faultPlace a_many a_lands a_evenings a_sights a_choirs f_reached f_length f_begins f_sort f_value f_word f_wrongAt f_laterFault f_laterPlace a_told a_read f_farHut f_farSinger f_good f_land f_huts f_singers f_evening a_at a_knows a_climbed a_snow a_level f_begun f_minute f_avalanches a_run a_covers a_routes a_longest a_steep a_laid a_far f_sight a_runs f_choir f_voices a_rest a_wins f_seed a_other a_kept H → va_S (mA q) s.heap H locs → W p l e rm_m_slopes s m args below meth c H locs 0 0 (MQ below (zQi (S := (Int32) × (Int32) × (Int32) × (Int32) × (Nat → Int32) × (Nat → Int32) × (Nat → Int32) × (Nat → Int32) × (Nat → Int32)) (fun r u => post r u.1 u.2.1 u.2.2.1 u.2.2.2.1 u.2.2.2.2.1 u.2.2.2.2.2.1 u.2.2.2.2.2.2.1 u.2.2.2.2.2.2.2.1 u.2.2.2.2.2.2.2.2) (fun u H => mW E q u.1 a_tape a_size a_fault a_faultPlace a_many a_lands a_evenings a_sights a_choirs f_reached f_length f_begins f_sort f_value f_word f_wrongAt f_laterFault f_laterPlace a_told a_read f_farHut f_farSinger f_good u.2.1 u.2.2.1 u.2.2.2.1 f_evening a_at a_knows a_climbed a_snow a_level f_begun f_minute f_avalanches u.2.2.2.2.1 a_covers u.2.2.2.2.2.1 u.2.2.2.2.2.2.1 u.2.2.2.2.2.2.2.1 u.2.2.2.2.2.2.2.2 a_far f_sight a_runs f_choir f_voices a_rest a_wins f_seed a_other a_kept H) (mA q)) args s 0 0 (mA q)) (F0 m 38 ls []))
    (hl : lv_has ls 10 [(0, .ref q), (2, .int x2), (3, .int x3), (4, .int x4), (5, .int x5), (6, .int x6), (7, .int x7), (9, .int x9)])
    (hw : q_m_slopes_121 P38 f_code a_many a_lands f_land f_huts f_singers a_run a_routes a_longest a_steep a_laid x2 x3 x4 x5 x6 x7 x9 post) :
    W p l e rm_m_slopes s m args below meth c H locs 0 0 (MQ below (zQi (S := (Int32) × (Int32) × (Int32) × (Int32) × (Nat → Int32) × (Nat → Int32) × (Nat → Int32) × (Nat → Int32) × (Nat → Int32)) (fun r u => post r u.1 u.2.1 u.2.2.1 u.2.2.2.1 u.2.2.2.2.1 u.2.2.2.2.2.1 u.2.2.2.2.2.2.1 u.2.2.2.2.2.2.2.1 u.2.2.2.2.2.2.2.2) (fun u H => mW E q u.1 a_tape a_size a_fault a_faultPlace a_many a_lands a_evenings a_sights a_choirs f_reached f_length f_begins f_sort f_value f_word f_wrongAt f_laterFault f_laterPlace a_told a_read f_farHut f_farSinger f_good u.2.1 u.2.2.1 u.2.2.2.1 f_evening a_at a_knows a_climbed a_snow a_level f_begun f_minute f_avalanches u.2.2.2.2.1 a_covers u.2.2.2.2.2.1 u.2.2.2.2.2.2.1 u.2.2.2.2.2.2.2.1 u.2.2.2.2.2.2.2.2 a_far f_sight a_runs f_choir f_voices a_rest a_wins f_seed a_other a_kept H) (mA q)) args s 0 0 (mA q)) (F0 m 121 ls []) := by
  have hx := zc.1
  have hb := zc.2.1
  refine hw (fun x6 x9 => ∀ (H : Heap) (locs : List Loc) (ls : Array Slot), lv_has ls 10 [(0, .ref q), (2, .int x2), (3, .int x3), (4, .int x4), (5, .int x5), (6, .int x6), (7, .int x7), (9, .int x9)] → mW E q f_code a_tape a_size a_fault a_faultPlace a_many a_lands a_evenings a_sights a_choirs f_reached f_length f_begins f_sort f_value f_word f_wrongAt f_laterFault f_laterPlace a_told a_read f_farHut f_farSinger f_good f_land f_huts f_singers f_evening a_at a_knows a_climbed a_snow a_level f_begun f_minute f_avalanches a_run a_covers a_routes a_longest a_steep a_laid a_far f_sight a_runs f_choir f_voices a_rest a_wins f_seed a_other a_kept H → va_S (mA q) s.heap H locs → W p l e rm_m_slopes s m args below meth c H locs 0 0 (MQ below (zQi (S := (Int32) × (Int32) × (Int32) × (Int32) × (Nat → Int32) × (Nat → Int32) × (Nat → Int32) × (Nat → Int32) × (Nat → Int32)) (fun r u => post r u.1 u.2.1 u.2.2.1 u.2.2.2.1 u.2.2.2.2.1 u.2.2.2.2.2.1 u.2.2.2.2.2.2.1 u.2.2.2.2.2.2.2.1 u.2.2.2.2.2.2.2.2) (fun u H => mW E q u.1 a_tape a_size a_fault a_faultPlace a_many a_lands a_evenings a_sights a_choirs f_reached f_length f_begins f_sort f_value f_word f_wrongAt f_laterFault f_laterPlace a_told a_read f_farHut f_farSinger f_good u.2.1 u.2.2.1 u.2.2.2.1 f_evening a_at a_knows a_climbed a_snow a_level f_begun f_minute f_avalanches u.2.2.2.2.1 a_covers u.2.2.2.2.2.1 u.2.2.2.2.2.2.1 u.2.2.2.2.2.2.2.1 u.2.2.2.2.2.2.2.2 a_far f_sight a_runs f_choir f_voices a_rest a_wins f_seed a_other a_kept H) (mA q)) args s 0 0 (mA q)) (F0 m 121 ls [])) ?_ _ _ _ hl hM hS
  intro x6 x9 hw H locs ls hl hM hS
  refine lv_iload hx hb dX11_slopes_121 (lv_at hl 7 rfl) ?_
  refine lv_aload_n hx hb dX11_slopes_123 rfl (lv_at hl 0 rfl) ?_
  refine mg_11_307_0 zc hK hM dX11_slopes_124 ?_
  refine lv_icmp_ge (tgt := 150) hx hb dX11_slopes_127 (by decide) (fun hc => ?_) (fun hc => ?_)
  · have hw := hw.1 hc
    obtain ⟨v_1, ev_1⟩ : ∃ y : Int32, y = x7 + (1 : Int32) := ⟨_, rfl⟩
    have hw := hw v_1 ev_1
    refine lv_iinc (v := v_1) (k := 6) (lv' := [(7, .int v_1), (0, .ref q), (2, .int x2), (3, .int x3), (4, .int x4), (5, .int x5), (6, .int x6), (9, .int x9)]) hx hb dX11_slopes_150 hl rfl (by rw [ev_1]; rfl) (by decide) rfl (fun ls hl => ?_)
    refine lv_goto (tgt := 38) hx hb dX11_slopes_153 (by decide) ?_
    exact hP38 _ _ _ _ _ _ _ _ _ _ _ _ _ hw (lv_sub hl [1, 2, 3, 4, 5, 6, 0] rfl) hM hS
  · have hw := hw.2 hc
    refine lv_iload hx hb dX11_slopes_130 (lv_at hl 5 rfl) ?_
    refine lv_aload_n hx hb dX11_slopes_132 rfl (lv_at hl 0 rfl) ?_
    refine mg_11_68_0 zc hK hM dX11_slopes_133 ?_
    refine lv_iload hx hb dX11_slopes_136 (lv_at hl 7 rfl) ?_
    refine mld_20 zc hK hM hw.1 dX11_slopes_138 ?_
    have hw := hw.2
    refine zS_i [.int x6, .int (a_longest (Int32.toNatClampNeg x9))] [] zc ky_X11_greater kz_X11_greater km_11_171 (c_m_greater l hw) (zPre0 _) rfl rfl hl.1 (Nat.le_of_ble_eq_true rfl) ⟨rfl, rfl⟩ ⟨Nat.le_of_ble_eq_true rfl, Nat.le_of_ble_eq_true rfl⟩ ⟨(Nat.zero_le _), (Nat.zero_le _)⟩ dX11_slopes_139 (fun r_1 hw => ?_)
    refine lv_istore (lv' := [(6, .int r_1), (0, .ref q), (2, .int x2), (3, .int x3), (4, .int x4), (5, .int x5), (7, .int x7), (9, .int x9)]) hx hb dX11_slopes_142 hl (by decide) rfl (fun ls hl => ?_)
    obtain ⟨v_2, ev_2⟩ : ∃ y : Int32, y = x9 + (1 : Int32) := ⟨_, rfl⟩
    have hw := hw v_2 ev_2
    refine lv_iinc (v := v_2) (k := 7) (lv' := [(9, .int v_2), (6, .int r_1), (0, .ref q), (2, .int x2), (3, .int x3), (4, .int x4), (5, .int x5), (7, .int x7)]) hx hb dX11_slopes_144 hl rfl (by rw [ev_2]; rfl) (by decide) rfl (fun ls hl => ?_)
    refine lv_goto (tgt := 121) hx hb dX11_slopes_147 (by decide) ?_
    exact hw _ _ _ (lv_sub hl [2, 3, 4, 5, 6, 1, 7, 0] rfl) hM hS
set_option maxRecDepth 20000 in
theorem t_m_slopes_99 {p : Program} {l : Launch} {e : Env} {s : State} {m : MethodId} {args : Array Value} {below : List Frame} {meth : Method} {c : Code} {E : zE} {q : Nat} {f_code : Int32} {a_tape : Nat → Int32} {a_size : Nat → Int32} {a_fault : Nat → Int32} {a_faultPlace : Nat → Int32} {a_many : Nat → Int32} {a_lands : Nat → Int32} {a_evenings : Nat → Int32} {a_sights : Nat → Int32} {a_choirs : Nat → Int32} {f_reached : Int32} {f_length : Int32} {f_begins : Int32} {f_sort : Int32} {f_value : Int32} {f_word : Int64} {f_wrongAt : Int32} {f_laterFault : Int32} {f_laterPlace : Int32} {a_told : Nat → Int32} {a_read : Nat → Int32} {f_farHut : Int32} {f_farSinger : Int32} {f_good : Int32} {f_land : Int32} {f_huts : Int32} {f_singers : Int32} {f_evening : Int32} {a_at : Nat → Int32} {a_knows : Nat → Int32} {a_climbed : Nat → Int32} {a_snow : Nat → Int32} {a_level : Nat → Int32} {f_begun : Int32} {f_minute : Int32} {f_avalanches : Int32} {a_run : Nat → Int32} {a_covers : Nat → Int32} {a_routes : Nat → Int32} {a_longest : Nat → Int32} {a_steep : Nat → Int32} {a_laid : Nat → Int32} {a_far : Nat → Int32} {f_sight : Int32} {a_runs : Nat → Int32} {f_choir : Int32} {f_voices : Int32} {a_rest : Nat → Int64} {a_wins : Nat → Int32} {f_seed : Int32} {a_other : Nat → Int32} {a_kept : Nat → Int32} {P38 : Int32 → Int32 → Int32 → Int32 → Int32 → (Nat → Int32) → (Nat → Int32) → (Nat → Int32) → (Nat → Int32) → (Nat → Int32) → Prop} {post : Int32 → (Int32) → (Int32) → (Int32) → (Int32) → (Nat → Int32) → (Nat → Int32) → (Nat → Int32) → (Nat → Int32) → (Nat → Int32) → Prop} {x2 : Int32} {x3 : Int32} {x5 : Int32} {x6 : Int32} {x7 : Int32} {x8 : Int32} {y0 : Int32} {y1 : Int32} {ls : Array Slot} {H : Heap} {locs : List Loc}
    (zc : zC p s m args meth c cX11_slopes 10 RX11 (some .int))
    (hK : zK E s)
    (hM : mW E q f_code a_tape a_size a_fault a_faultPlace a_many a_lands a_evenings a_sights a_choirs f_reached f_length f_begins f_sort f_value f_word f_wrongAt f_laterFault f_laterPlace a_told a_read f_farHut f_farSinger f_good f_land f_huts f_singers f_evening a_at a_knows a_climbed a_snow a_level f_begun f_minute f_avalanches a_run a_covers a_routes a_longest a_steep a_laid a_far f_sight a_runs f_choir f_voices a_rest a_wins f_seed a_other a_kept H)
    (hS : va_S (mA q) s.heap H locs)
    (hP38 : ∀ (x3 : Int32) (x4 : Int32) (x5 : Int32) (x6 : Int32) (x7 : Int32) (a_run : Nat → Int32) (a_routes : Nat → Int32) (a_longest : Nat → Int32) (a_steep : Nat → Int32) (a_laid : Nat → Int32) (H : Heap) (locs : List Loc) (ls : Array Slot), P38 x3 x4 x5 x6 x7 a_run a_routes a_longest a_steep a_laid → lv_has ls 10 [(0, .ref q), (2, .int x2), (3, .int x3), (4, .int x4), (5, .int x5), (6, .int x6), (7, .int x7)] → mW E q f_code a_tape a_size a_fault a_faultPlace a_many a_lands a_evenings a_sights a_choirs f_reached f_length f_begins f_sort f_value f_word f_wrongAt f_laterFault f_laterPlace a_told a_read f_farHut f_farSinger f_good f_land f_huts f_singers f_evening a_at a_knows a_climbed a_snow a_level f_begun f_minute f_avalanches a_run a_covers a_routes a_longest a_steep a_laid a_far f_sight a_runs f_choir f_voices a_rest a_wins f_seed a_other a_kept H → va_S (mA q) s.heap H locs → W p l e rm_m_slopes s m args below meth c H locs 0 0 (MQ below (zQi (S := (Int32) × (Int32) × (Int32) × (Int32) × (Nat → Int32) × (Nat → Int32) × (Nat → Int32) × (Nat → Int32) × (Nat → Int32)) (fun r u => post r u.1 u.2.1 u.2.2.1 u.2.2.2.1 u.2.2.2.2.1 u.2.2.2.2.2.1 u.2.2.2.2.2.2.1 u.2.2.2.2.2.2.2.1 u.2.2.2.2.2.2.2.2) (fun u H => mW E q u.1 a_tape a_size a_fault a_faultPlace a_many a_lands a_evenings a_sights a_choirs f_reached f_length f_begins f_sort f_value f_word f_wrongAt f_laterFault f_laterPlace a_told a_read f_farHut f_farSinger f_good u.2.1 u.2.2.1 u.2.2.2.1 f_evening a_at a_knows a_climbed a_snow a_level f_begun f_minute f_avalanches u.2.2.2.2.1 a_covers u.2.2.2.2.2.1 u.2.2.2.2.2.2.1 u.2.2.2.2.2.2.2.1 u.2.2.2.2.2.2.2.2 a_far f_sight a_runs f_choir f_voices a_rest a_wins f_seed a_other a_kept H) (mA q)) args s 0 0 (mA q)) (F0 m 38 ls []))
    (hl : lv_has ls 10 [(0, .ref q), (2, .int x2), (3, .int x3), (5, .int x5), (6, .int x6), (7, .int x7), (8, .int x8)])
    (hw : q_m_slopes_99 P38 f_code a_many a_lands f_land f_huts f_singers a_run a_routes a_longest a_steep a_laid x2 x3 x5 x6 x7 x8 y0 y1 post) :
    W p l e rm_m_slopes s m args below meth c H locs 0 0 (MQ below (zQi (S := (Int32) × (Int32) × (Int32) × (Int32) × (Nat → Int32) × (Nat → Int32) × (Nat → Int32) × (Nat → Int32) × (Nat → Int32)) (fun r u => post r u.1 u.2.1 u.2.2.1 u.2.2.2.1 u.2.2.2.2.1 u.2.2.2.2.2.1 u.2.2.2.2.2.2.1 u.2.2.2.2.2.2.2.1 u.2.2.2.2.2.2.2.2) (fun u H => mW E q u.1 a_tape a_size a_fault a_faultPlace a_many a_lands a_evenings a_sights a_choirs f_reached f_length f_begins f_sort f_value f_word f_wrongAt f_laterFault f_laterPlace a_told a_read f_farHut f_farSinger f_good u.2.1 u.2.2.1 u.2.2.2.1 f_evening a_at a_knows a_climbed a_snow a_level f_begun f_minute f_avalanches u.2.2.2.2.1 a_covers u.2.2.2.2.2.1 u.2.2.2.2.2.2.1 u.2.2.2.2.2.2.2.1 u.2.2.2.2.2.2.2.2 a_far f_sight a_runs f_choir f_voices a_rest a_wins f_seed a_other a_kept H) (mA q)) args s 0 0 (mA q)) (F0 m 99 ls [.int y1, .int y0]) := by
  have hx := zc.1
  have hb := zc.2.1
  refine lv_ior hx hb dX11_slopes_99 ?_
  refine lv_topi (fun v_1 ev_1 => ?_)
  have hw := hw v_1 ev_1
  refine lv_istore (lv' := [(4, .int v_1), (0, .ref q), (2, .int x2), (3, .int x3), (5, .int x5), (6, .int x6), (7, .int x7), (8, .int x8)]) hx hb dX11_slopes_100 hl (by decide) rfl (fun ls hl => ?_)
  refine lv_iload hx hb dX11_slopes_102 (lv_at hl 4 rfl) ?_
  refine lv_iload hx hb dX11_slopes_104 (lv_at hl 7 rfl) ?_
  refine zS_i [.int x8] [.int x5] zc ky_X11_ones kz_X11_ones km_11_429 (c_m_ones l hw) (zPre0 _) rfl rfl hl.1 (Nat.le_of_ble_eq_true rfl) ⟨rfl, rfl⟩ ⟨Nat.le_of_ble_eq_true rfl, Nat.le_of_ble_eq_true rfl⟩ ⟨(Nat.zero_le _), (Nat.zero_le _)⟩ dX11_slopes_106 (fun r_1 hw => ?_)
  refine lv_iadd hx hb dX11_slopes_109 ?_
  refine lv_topi (fun v_2 ev_2 => ?_)
  have hw := hw v_2 ev_2
  refine lv_istore (lv' := [(5, .int v_2), (4, .int v_1), (0, .ref q), (2, .int x2), (3, .int x3), (6, .int x6), (7, .int x7), (8, .int x8)]) hx hb dX11_slopes_110 hl (by decide) rfl (fun ls hl => ?_)
  refine lv_aload_n hx hb dX11_slopes_112 rfl (lv_at hl 2 rfl) ?_
  refine lv_iload hx hb dX11_slopes_113 (lv_at hl 6 rfl) ?_
  refine zVw_v [.int x7] [] zc ky_X11_findRoutes kz_X11_findRoutes km_11_447 (c_m_findRoutes l hw) (mPreV0 hK hM) hS rfl rfl hl.1 (Nat.le_of_ble_eq_true rfl) ⟨rfl, rfl⟩ ⟨Nat.le_of_ble_eq_true rfl, Nat.le_of_ble_eq_true rfl⟩ ⟨(Nat.zero_le _), (Nat.zero_le _)⟩ dX11_slopes_115 (fun u H locs hw hM hS => ?_)
  obtain ⟨a_routes_1, a_longest_1, a_steep_1, a_laid_1⟩ := u
  refine lv_iconst (v := (0 : Int32)) hx hb dX11_slopes_118 (by decide) ?_
  refine lv_istore (lv' := [(9, .int (0 : Int32)), (5, .int v_2), (4, .int v_1), (0, .ref q), (2, .int x2), (3, .int x3), (6, .int x6), (7, .int x7), (8, .int x8)]) hx hb dX11_slopes_119 hl (by decide) rfl (fun ls hl => ?_)
  exact t_m_slopes_121 zc hK hM hS hP38 (lv_sub hl [3, 4, 5, 2, 1, 6, 7, 0] rfl) hw
set_option maxRecDepth 20000 in
theorem t_m_slopes_98 {p : Program} {l : Launch} {e : Env} {s : State} {m : MethodId} {args : Array Value} {below : List Frame} {meth : Method} {c : Code} {E : zE} {q : Nat} {f_code : Int32} {a_tape : Nat → Int32} {a_size : Nat → Int32} {a_fault : Nat → Int32} {a_faultPlace : Nat → Int32} {a_many : Nat → Int32} {a_lands : Nat → Int32} {a_evenings : Nat → Int32} {a_sights : Nat → Int32} {a_choirs : Nat → Int32} {f_reached : Int32} {f_length : Int32} {f_begins : Int32} {f_sort : Int32} {f_value : Int32} {f_word : Int64} {f_wrongAt : Int32} {f_laterFault : Int32} {f_laterPlace : Int32} {a_told : Nat → Int32} {a_read : Nat → Int32} {f_farHut : Int32} {f_farSinger : Int32} {f_good : Int32} {f_land : Int32} {f_huts : Int32} {f_singers : Int32} {f_evening : Int32} {a_at : Nat → Int32} {a_knows : Nat → Int32} {a_climbed : Nat → Int32} {a_snow : Nat → Int32} {a_level : Nat → Int32} {f_begun : Int32} {f_minute : Int32} {f_avalanches : Int32} {a_run : Nat → Int32} {a_covers : Nat → Int32} {a_routes : Nat → Int32} {a_longest : Nat → Int32} {a_steep : Nat → Int32} {a_laid : Nat → Int32} {a_far : Nat → Int32} {f_sight : Int32} {a_runs : Nat → Int32} {f_choir : Int32} {f_voices : Int32} {a_rest : Nat → Int64} {a_wins : Nat → Int32} {f_seed : Int32} {a_other : Nat → Int32} {a_kept : Nat → Int32} {P38 : Int32 → Int32 → Int32 → Int32 → Int32 → (Nat → Int32) → (Nat → Int32) → (Nat → Int32) → (Nat → Int32) → (Nat → Int32) → Prop} {post : Int32 → (Int32) → (Int32) → (Int32) → (Int32) → (Nat → Int32) → (Nat → Int32) → (Nat → Int32) → (Nat → Int32) → (Nat → Int32) → Prop} {x2 : Int32} {x3 : Int32} {x5 : Int32} {x6 : Int32} {x7 : Int32} {x8 : Int32} {y0 : Int32} {ls : Array Slot} {H : Heap} {locs : List Loc}
    (zc : zC p s m args meth c cX11_slopes 10 RX11 (some .int))
    (hK : zK E s)
    (hM : mW E q f_code a_tape a_size a_fault a_faultPlace a_many a_lands a_evenings a_sights a_choirs f_reached f_length f_begins f_sort f_value f_word f_wrongAt f_laterFault f_laterPlace a_told a_read f_farHut f_farSinger f_good f_land f_huts f_singers f_evening a_at a_knows a_climbed a_snow a_level f_begun f_minute f_avalanches a_run a_covers a_routes a_longest a_steep a_laid a_far f_sight a_runs f_choir f_voices a_rest a_wins f_seed a_other a_kept H)
    (hS : va_S (mA q) s.heap H locs)
    (hP38 : ∀ (x3 : Int32) (x4 : Int32) (x5 : Int32) (x6 : Int32) (x7 : Int32) (a_run : Nat → Int32) (a_routes : Nat → Int32) (a_longest : Nat → Int32) (a_steep : Nat → Int32) (a_laid : Nat → Int32) (H : Heap) (locs : List Loc) (ls : Array Slot), P38 x3 x4 x5 x6 x7 a_run a_routes a_longest a_steep a_laid → lv_has ls 10 [(0, .ref q), (2, .int x2), (3, .int x3), (4, .int x4), (5, .int x5), (6, .int x6), (7, .int x7)] → mW E q f_code a_tape a_size a_fault a_faultPlace a_many a_lands a_evenings a_sights a_choirs f_reached f_length f_begins f_sort f_value f_word f_wrongAt f_laterFault f_laterPlace a_told a_read f_farHut f_farSinger f_good f_land f_huts f_singers f_evening a_at a_knows a_climbed a_snow a_level f_begun f_minute f_avalanches a_run a_covers a_routes a_longest a_steep a_laid a_far f_sight a_runs f_choir f_voices a_rest a_wins f_seed a_other a_kept H → va_S (mA q) s.heap H locs → W p l e rm_m_slopes s m args below meth c H locs 0 0 (MQ below (zQi (S := (Int32) × (Int32) × (Int32) × (Int32) × (Nat → Int32) × (Nat → Int32) × (Nat → Int32) × (Nat → Int32) × (Nat → Int32)) (fun r u => post r u.1 u.2.1 u.2.2.1 u.2.2.2.1 u.2.2.2.2.1 u.2.2.2.2.2.1 u.2.2.2.2.2.2.1 u.2.2.2.2.2.2.2.1 u.2.2.2.2.2.2.2.2) (fun u H => mW E q u.1 a_tape a_size a_fault a_faultPlace a_many a_lands a_evenings a_sights a_choirs f_reached f_length f_begins f_sort f_value f_word f_wrongAt f_laterFault f_laterPlace a_told a_read f_farHut f_farSinger f_good u.2.1 u.2.2.1 u.2.2.2.1 f_evening a_at a_knows a_climbed a_snow a_level f_begun f_minute f_avalanches u.2.2.2.2.1 a_covers u.2.2.2.2.2.1 u.2.2.2.2.2.2.1 u.2.2.2.2.2.2.2.1 u.2.2.2.2.2.2.2.2 a_far f_sight a_runs f_choir f_voices a_rest a_wins f_seed a_other a_kept H) (mA q)) args s 0 0 (mA q)) (F0 m 38 ls []))
    (hl : lv_has ls 10 [(0, .ref q), (2, .int x2), (3, .int x3), (5, .int x5), (6, .int x6), (7, .int x7), (8, .int x8)])
    (hw : q_m_slopes_98 P38 f_code a_many a_lands f_land f_huts f_singers a_run a_routes a_longest a_steep a_laid x2 x3 x5 x6 x7 x8 y0 post) :
    W p l e rm_m_slopes s m args below meth c H locs 0 0 (MQ below (zQi (S := (Int32) × (Int32) × (Int32) × (Int32) × (Nat → Int32) × (Nat → Int32) × (Nat → Int32) × (Nat → Int32) × (Nat → Int32)) (fun r u => post r u.1 u.2.1 u.2.2.1 u.2.2.2.1 u.2.2.2.2.1 u.2.2.2.2.2.1 u.2.2.2.2.2.2.1 u.2.2.2.2.2.2.2.1 u.2.2.2.2.2.2.2.2) (fun u H => mW E q u.1 a_tape a_size a_fault a_faultPlace a_many a_lands a_evenings a_sights a_choirs f_reached f_length f_begins f_sort f_value f_word f_wrongAt f_laterFault f_laterPlace a_told a_read f_farHut f_farSinger f_good u.2.1 u.2.2.1 u.2.2.2.1 f_evening a_at a_knows a_climbed a_snow a_level f_begun f_minute f_avalanches u.2.2.2.2.1 a_covers u.2.2.2.2.2.1 u.2.2.2.2.2.2.1 u.2.2.2.2.2.2.2.1 u.2.2.2.2.2.2.2.2 a_far f_sight a_runs f_choir f_voices a_rest a_wins f_seed a_other a_kept H) (mA q)) args s 0 0 (mA q)) (F0 m 98 ls [.int y0]) := by
  have hx := zc.1
  have hb := zc.2.1
  refine lv_iconst (v := (0 : Int32)) hx hb dX11_slopes_98 (by decide) ?_
  exact t_m_slopes_99 zc hK hM hS hP38 (lv_sub hl [0, 1, 2, 3, 4, 5, 6] rfl) hw
set_option maxRecDepth 20000 in
theorem t_m_slopes_38 {p : Program} {l : Launch} {e : Env} {s : State} {m : MethodId} {args : Array Value} {below : List Frame} {meth : Method} {c : Code} {E : zE} {q : Nat} {f_code : Int32} {a_tape : Nat → Int32} {a_size : Nat → Int32} {a_fault : Nat → Int32} {a_faultPlace : Nat → Int32} {a_many : Nat → Int32} {a_lands : Nat → Int32} {a_evenings : Nat → Int32} {a_sights : Nat → Int32} {a_choirs : Nat → Int32} {f_reached : Int32} {f_length : Int32} {f_begins : Int32} {f_sort : Int32} {f_value : Int32} {f_word : Int64} {f_wrongAt : Int32} {f_laterFault : Int32} {f_laterPlace : Int32} {a_told : Nat → Int32} {a_read : Nat → Int32} {f_farHut : Int32} {f_farSinger : Int32} {f_good : Int32} {f_land : Int32} {f_huts : Int32} {f_singers : Int32} {f_evening : Int32} {a_at : Nat → Int32} {a_knows : Nat → Int32} {a_climbed : Nat → Int32} {a_snow : Nat → Int32} {a_level : Nat → Int32} {f_begun : Int32} {f_minute : Int32} {f_avalanches : Int32} {a_run : Nat → Int32} {a_covers : Nat → Int32} {a_routes : Nat → Int32} {a_longest : Nat → Int32} {a_steep : Nat → Int32} {a_laid : Nat → Int32} {a_far : Nat → Int32} {f_sight : Int32} {a_runs : Nat → Int32} {f_choir : Int32} {f_voices : Int32} {a_rest : Nat → Int64} {a_wins : Nat → Int32} {f_seed : Int32} {a_other : Nat → Int32} {a_kept : Nat → Int32} {post : Int32 → (Int32) → (Int32) → (Int32) → (Int32) → (Nat → Int32) → (Nat → Int32) → (Nat → Int32) → (Nat → Int32) → (Nat → Int32) → Prop} {x2 : Int32} {x3 : Int32} {x4 : Int32} {x5 : Int32} {x6 : Int32} {x7 : Int32} {ls : Array Slot} {H : Heap} {locs : List Loc}
    (zc : zC p s m args meth c cX11_slopes 10 RX11 (some .int))
    (hK : zK E s)
    (hM : mW E q f_code a_tape a_size a_fault a_faultPlace a_many a_lands a_evenings a_sights a_choirs f_reached f_length f_begins f_sort f_value f_word f_wrongAt f_laterFault f_laterPlace a_told a_read f_farHut f_farSinger f_good f_land f_huts f_singers f_evening a_at a_knows a_climbed a_snow a_level f_begun f_minute f_avalanches a_run a_covers a_routes a_longest a_steep a_laid a_far f_sight a_runs f_choir f_voices a_rest a_wins f_seed a_other a_kept H)
    (hS : va_S (mA q) s.heap H locs)
    (hl : lv_has ls 10 [(0, .ref q), (2, .int x2), (3, .int x3), (4, .int x4), (5, .int x5), (6, .int x6), (7, .int x7)])
    (hw : q_m_slopes_38 f_code a_many a_lands f_land f_huts f_singers a_run a_routes a_longest a_steep a_laid x2 x3 x4 x5 x6 x7 post) :
    W p l e rm_m_slopes s m args below meth c H locs 0 0 (MQ below (zQi (S := (Int32) × (Int32) × (Int32) × (Int32) × (Nat → Int32) × (Nat → Int32) × (Nat → Int32) × (Nat → Int32) × (Nat → Int32)) (fun r u => post r u.1 u.2.1 u.2.2.1 u.2.2.2.1 u.2.2.2.2.1 u.2.2.2.2.2.1 u.2.2.2.2.2.2.1 u.2.2.2.2.2.2.2.1 u.2.2.2.2.2.2.2.2) (fun u H => mW E q u.1 a_tape a_size a_fault a_faultPlace a_many a_lands a_evenings a_sights a_choirs f_reached f_length f_begins f_sort f_value f_word f_wrongAt f_laterFault f_laterPlace a_told a_read f_farHut f_farSinger f_good u.2.1 u.2.2.1 u.2.2.2.1 f_evening a_at a_knows a_climbed a_snow a_level f_begun f_minute f_avalanches u.2.2.2.2.1 a_covers u.2.2.2.2.2.1 u.2.2.2.2.2.2.1 u.2.2.2.2.2.2.2.1 u.2.2.2.2.2.2.2.2 a_far f_sight a_runs f_choir f_voices a_rest a_wins f_seed a_other a_kept H) (mA q)) args s 0 0 (mA q)) (F0 m 38 ls []) := by
  have hx := zc.1
  have hb := zc.2.1
  refine hw (fun x3 x4 x5 x6 x7 a_run a_routes a_longest a_steep a_laid => ∀ (H : Heap) (locs : List Loc) (ls : Array Slot), lv_has ls 10 [(0, .ref q), (2, .int x2), (3, .int x3), (4, .int x4), (5, .int x5), (6, .int x6), (7, .int x7)] → mW E q f_code a_tape a_size a_fault a_faultPlace a_many a_lands a_evenings a_sights a_choirs f_reached f_length f_begins f_sort f_value f_word f_wrongAt f_laterFault f_laterPlace a_told a_read f_farHut f_farSinger f_good f_land f_huts f_singers f_evening a_at a_knows a_climbed a_snow a_level f_begun f_minute f_avalanches a_run a_covers a_routes a_longest a_steep a_laid a_far f_sight a_runs f_choir f_voices a_rest a_wins f_seed a_other a_kept H → va_S (mA q) s.heap H locs → W p l e rm_m_slopes s m args below meth c H locs 0 0 (MQ below (zQi (S := (Int32) × (Int32) × (Int32) × (Int32) × (Nat → Int32) × (Nat → Int32) × (Nat → Int32) × (Nat → Int32) × (Nat → Int32)) (fun r u => post r u.1 u.2.1 u.2.2.1 u.2.2.2.1 u.2.2.2.2.1 u.2.2.2.2.2.1 u.2.2.2.2.2.2.1 u.2.2.2.2.2.2.2.1 u.2.2.2.2.2.2.2.2) (fun u H => mW E q u.1 a_tape a_size a_fault a_faultPlace a_many a_lands a_evenings a_sights a_choirs f_reached f_length f_begins f_sort f_value f_word f_wrongAt f_laterFault f_laterPlace a_told a_read f_farHut f_farSinger f_good u.2.1 u.2.2.1 u.2.2.2.1 f_evening a_at a_knows a_climbed a_snow a_level f_begun f_minute f_avalanches u.2.2.2.2.1 a_covers u.2.2.2.2.2.1 u.2.2.2.2.2.2.1 u.2.2.2.2.2.2.2.1 u.2.2.2.2.2.2.2.2 a_far f_sight a_runs f_choir f_voices a_rest a_wins f_seed a_other a_kept H) (mA q)) args s 0 0 (mA q)) (F0 m 38 ls [])) ?_ _ _ _ hl hM hS
  intro x3 x4 x5 x6 x7 a_run a_routes a_longest a_steep a_laid hw H locs ls hl hM hS
  refine lv_iload hx hb dX11_slopes_38 (lv_at hl 6 rfl) ?_
  refine lv_aload_n hx hb dX11_slopes_40 rfl (lv_at hl 0 rfl) ?_
  refine mg_11_307_0 zc hK hM dX11_slopes_41 ?_
  refine lv_icmp_ge (tgt := 156) hx hb dX11_slopes_44 (by decide) (fun hc => ?_) (fun hc => ?_)
  · have hw := hw.1 hc
    refine lv_iload_n hx hb dX11_slopes_156 rfl (lv_at hl 1 rfl) ?_
    refine lv_if_ne (tgt := 171) hx hb dX11_slopes_157 (by decide) (fun hc => ?_) (fun hc => ?_)
    · have hw := hw.1 hc
      refine lv_iload_n hx hb dX11_slopes_171 rfl (lv_at hl 1 rfl) ?_
      refine lv_iconst (v := (1 : Int32)) hx hb dX11_slopes_172 (by decide) ?_
      refine lv_icmp_ne (tgt := 181) hx hb dX11_slopes_173 (by decide) (fun hc => ?_) (fun hc => ?_)
      · have hw := hw.1 hc
        refine lv_iload_n hx hb dX11_slopes_181 rfl (lv_at hl 1 rfl) ?_
        refine lv_iconst (v := (2 : Int32)) hx hb dX11_slopes_182 (by decide) ?_
        refine lv_icmp_ne (tgt := 191) hx hb dX11_slopes_183 (by decide) (fun hc => ?_) (fun hc => ?_)
        · have hw := hw.1 hc
          refine lv_iload hx hb dX11_slopes_191 (lv_at hl 5 rfl) ?_
          exact zret_iw ⟨f_code, f_land, f_huts, f_singers, a_run, a_routes, a_longest, a_steep, a_laid⟩ zc hS hw hM dX11_slopes_193
        · have hw := hw.2 hc
          refine lv_iload hx hb dX11_slopes_186 (lv_at hl 4 rfl) ?_
          refine lv_goto (tgt := 193) hx hb dX11_slopes_188 (by decide) ?_
          exact zret_iw ⟨f_code, f_land, f_huts, f_singers, a_run, a_routes, a_longest, a_steep, a_laid⟩ zc hS hw hM dX11_slopes_193
      · have hw := hw.2 hc
        refine lv_iload hx hb dX11_slopes_176 (lv_at hl 3 rfl) ?_
        refine lv_goto (tgt := 193) hx hb dX11_slopes_178 (by decide) ?_
        exact zret_iw ⟨f_code, f_land, f_huts, f_singers, a_run, a_routes, a_longest, a_steep, a_laid⟩ zc hS hw hM dX11_slopes_193
    · have hw := hw.2 hc
      refine lv_aload_n hx hb dX11_slopes_160 rfl (lv_at hl 0 rfl) ?_
      refine zV_i [] [] zc ky_X11_noDams kz_X11_noDams km_11_435 (c_m_noDams l hw) (mPreV0 hK hM) rfl rfl hl.1 (Nat.le_of_ble_eq_true rfl) ⟨rfl, rfl⟩ ⟨Nat.le_of_ble_eq_true rfl, Nat.le_of_ble_eq_true rfl⟩ ⟨(Nat.zero_le _), (Nat.zero_le _)⟩ dX11_slopes_161 (fun r_1 hw => ?_)
      refine lv_iload_n hx hb dX11_slopes_164 rfl (lv_at hl 2 rfl) ?_
      refine lv_iconst (v := (-1 : Int32)) hx hb dX11_slopes_165 (by decide) ?_
      refine lv_ixor hx hb dX11_slopes_166 ?_
      refine lv_iand hx hb dX11_slopes_167 ?_
      refine lv_goto (tgt := 193) hx hb dX11_slopes_168 (by decide) ?_
      exact zret_iw ⟨f_code, f_land, f_huts, f_singers, a_run, a_routes, a_longest, a_steep, a_laid⟩ zc hS hw hM dX11_slopes_193
  · have hw := hw.2 hc
    refine lv_aload_n hx hb dX11_slopes_47 rfl (lv_at hl 0 rfl) ?_
    refine lv_iload hx hb dX11_slopes_48 (lv_at hl 6 rfl) ?_
    refine lv_iconst (v := (0 : Int32)) hx hb dX11_slopes_50 (by decide) ?_
    refine zVw_v [.int x7, .int (0 : Int32)] [] zc ky_X11_findRun kz_X11_findRun km_11_414 (c_m_findRun l hw) (mPreV0 hK hM) hS rfl rfl hl.1 (Nat.le_of_ble_eq_true rfl) ⟨rfl, rfl⟩ ⟨Nat.le_of_ble_eq_true rfl, Nat.le_of_ble_eq_true rfl⟩ ⟨(Nat.zero_le _), (Nat.zero_le _)⟩ dX11_slopes_51 (fun a_run_1 H locs hw hM hS => ?_)
    refine lv_aload_n hx hb dX11_slopes_54 rfl (lv_at hl 0 rfl) ?_
    refine lv_ldcw (v := (999999 : Int32)) hx hb zc.2.2.2.1 (zc.2.2.2.2.1 _ kc_11_450) dX11_slopes_55 ?_
    refine zV_i [.int (999999 : Int32)] [] zc ky_X11_comesBy kz_X11_comesBy km_11_423 (c_m_comesBy l hw) (mPreV0 hK hM) rfl rfl hl.1 (Nat.le_of_ble_eq_true rfl) ⟨rfl, rfl⟩ ⟨Nat.le_of_ble_eq_true rfl, Nat.le_of_ble_eq_true rfl⟩ ⟨(Nat.zero_le _), (Nat.zero_le _)⟩ dX11_slopes_58 (fun r_2 hw => ?_)
    refine lv_iconst (v := (1 : Int32)) hx hb dX11_slopes_61 (by decide) ?_
    refine lv_iload hx hb dX11_slopes_62 (lv_at hl 6 rfl) ?_
    refine lv_ishl hx hb dX11_slopes_64 ?_
    refine lv_iconst (v := (-1 : Int32)) hx hb dX11_slopes_65 (by decide) ?_
    refine lv_ixor hx hb dX11_slopes_66 ?_
    refine lv_iand hx hb dX11_slopes_67 ?_
    refine lv_topi (fun v_1 ev_1 => ?_)
    have hw := hw v_1 ev_1
    refine lv_istore (lv' := [(8, .int v_1), (0, .ref q), (2, .int x2), (3, .int x3), (4, .int x4), (5, .int x5), (6, .int x6), (7, .int x7)]) hx hb dX11_slopes_68 hl (by decide) rfl (fun ls hl => ?_)
    refine lv_iload_n hx hb dX11_slopes_70 rfl (lv_at hl 3 rfl) ?_
    refine lv_iload hx hb dX11_slopes_71 (lv_at hl 0 rfl) ?_
    refine lv_ior hx hb dX11_slopes_73 ?_
    refine lv_topi (fun v_2 ev_2 => ?_)
    have hw := hw v_2 ev_2
    refine lv_istore_n (lv' := [(3, .int v_2), (8, .int v_1), (0, .ref q), (2, .int x2), (4, .int x4), (5, .int x5), (6, .int x6), (7, .int x7)]) hx hb dX11_slopes_74 rfl hl (by decide) rfl (fun ls hl => ?_)
    refine lv_iload hx hb dX11_slopes_75 (lv_at hl 4 rfl) ?_
    refine lv_iload hx hb dX11_slopes_77 (lv_at hl 1 rfl) ?_
    refine lv_if_ne (tgt := 98) hx hb dX11_slopes_79 (by decide) (fun hc => ?_) (fun hc => ?_)
    · have hw := hw.1 hc
      exact t_m_slopes_98 zc hK hM hS (fun _ _ _ _ _ _ _ _ _ _ H locs ls h hl hM hS => h H locs ls hl hM hS) (lv_sub hl [2, 3, 0, 5, 6, 7, 1] rfl) hw
    · have hw := hw.2 hc
      refine lv_aload_n hx hb dX11_slopes_82 rfl (lv_at hl 2 rfl) ?_
      refine lv_iload hx hb dX11_slopes_83 (lv_at hl 7 rfl) ?_
      refine zV_i [.int x7] [.int x4] zc ky_X11_isDam kz_X11_isDam km_11_355 (c_m_isDam l hw) (mPreV0 hK hM) rfl rfl hl.1 (Nat.le_of_ble_eq_true rfl) ⟨rfl, rfl⟩ ⟨Nat.le_of_ble_eq_true rfl, Nat.le_of_ble_eq_true rfl⟩ ⟨(Nat.zero_le _), (Nat.zero_le _)⟩ dX11_slopes_85 (fun r_3 hw => ?_)
      refine lv_if_ne (tgt := 98) hx hb dX11_slopes_88 (by decide) (fun hc => ?_) (fun hc => ?_)
      · have hw := hw.1 hc
        exact t_m_slopes_98 zc hK hM hS (fun _ _ _ _ _ _ _ _ _ _ H locs ls h hl hM hS => h H locs ls hl hM hS) (lv_sub hl [2, 3, 0, 5, 6, 7, 1] rfl) hw
      · have hw := hw.2 hc
        refine lv_iconst (v := (1 : Int32)) hx hb dX11_slopes_91 (by decide) ?_
        refine lv_iload hx hb dX11_slopes_92 (lv_at hl 7 rfl) ?_
        refine lv_ishl hx hb dX11_slopes_94 ?_
        refine lv_goto (tgt := 99) hx hb dX11_slopes_95 (by decide) ?_
        exact t_m_slopes_99 zc hK hM hS (fun _ _ _ _ _ _ _ _ _ _ H locs ls h hl hM hS => h H locs ls hl hM hS) (lv_sub hl [2, 3, 0, 5, 6, 7, 1] rfl) hw
set_option maxRecDepth 20000 in
theorem t_m_slopes_0 {p : Program} {l : Launch} {e : Env} {s : State} {m : MethodId} {args : Array Value} {below : List Frame} {meth : Method} {c : Code} {E : zE} {q : Nat} {f_code : Int32} {a_tape : Nat → Int32} {a_size : Nat → Int32} {a_fault : Nat → Int32} {a_faultPlace : Nat → Int32} {a_many : Nat → Int32} {a_lands : Nat → Int32} {a_evenings : Nat → Int32} {a_sights : Nat → Int32} {a_choirs : Nat → Int32} {f_reached : Int32} {f_length : Int32} {f_begins : Int32} {f_sort : Int32} {f_value : Int32} {f_word : Int64} {f_wrongAt : Int32} {f_laterFault : Int32} {f_laterPlace : Int32} {a_told : Nat → Int32} {a_read : Nat → Int32} {f_farHut : Int32} {f_farSinger : Int32} {f_good : Int32} {f_land : Int32} {f_huts : Int32} {f_singers : Int32} {f_evening : Int32} {a_at : Nat → Int32} {a_knows : Nat → Int32} {a_climbed : Nat → Int32} {a_snow : Nat → Int32} {a_level : Nat → Int32} {f_begun : Int32} {f_minute : Int32} {f_avalanches : Int32} {a_run : Nat → Int32} {a_covers : Nat → Int32} {a_routes : Nat → Int32} {a_longest : Nat → Int32} {a_steep : Nat → Int32} {a_laid : Nat → Int32} {a_far : Nat → Int32} {f_sight : Int32} {a_runs : Nat → Int32} {f_choir : Int32} {f_voices : Int32} {a_rest : Nat → Int64} {a_wins : Nat → Int32} {f_seed : Int32} {a_other : Nat → Int32} {a_kept : Nat → Int32} {post : Int32 → (Int32) → (Int32) → (Int32) → (Int32) → (Nat → Int32) → (Nat → Int32) → (Nat → Int32) → (Nat → Int32) → (Nat → Int32) → Prop} {x1 : Int32} {x2 : Int32} {ls : Array Slot} {H : Heap} {locs : List Loc}
    (zc : zC p s m args meth c cX11_slopes 10 RX11 (some .int))
    (hK : zK E s)
    (hM : mW E q f_code a_tape a_size a_fault a_faultPlace a_many a_lands a_evenings a_sights a_choirs f_reached f_length f_begins f_sort f_value f_word f_wrongAt f_laterFault f_laterPlace a_told a_read f_farHut f_farSinger f_good f_land f_huts f_singers f_evening a_at a_knows a_climbed a_snow a_level f_begun f_minute f_avalanches a_run a_covers a_routes a_longest a_steep a_laid a_far f_sight a_runs f_choir f_voices a_rest a_wins f_seed a_other a_kept H)
    (hS : va_S (mA q) s.heap H locs)
    (hl : lv_has ls 10 [(0, .ref q), (1, .int x1), (2, .int x2)])
    (hw : q_m_slopes_0 f_code a_many a_lands f_land f_huts f_singers a_run a_routes a_longest a_steep a_laid x1 x2 post) :
    W p l e rm_m_slopes s m args below meth c H locs 0 0 (MQ below (zQi (S := (Int32) × (Int32) × (Int32) × (Int32) × (Nat → Int32) × (Nat → Int32) × (Nat → Int32) × (Nat → Int32) × (Nat → Int32)) (fun r u => post r u.1 u.2.1 u.2.2.1 u.2.2.2.1 u.2.2.2.2.1 u.2.2.2.2.2.1 u.2.2.2.2.2.2.1 u.2.2.2.2.2.2.2.1 u.2.2.2.2.2.2.2.2) (fun u H => mW E q u.1 a_tape a_size a_fault a_faultPlace a_many a_lands a_evenings a_sights a_choirs f_reached f_length f_begins f_sort f_value f_word f_wrongAt f_laterFault f_laterPlace a_told a_read f_farHut f_farSinger f_good u.2.1 u.2.2.1 u.2.2.2.1 f_evening a_at a_knows a_climbed a_snow a_level f_begun f_minute f_avalanches u.2.2.2.2.1 a_covers u.2.2.2.2.2.1 u.2.2.2.2.2.2.1 u.2.2.2.2.2.2.2.1 u.2.2.2.2.2.2.2.2 a_far f_sight a_runs f_choir f_voices a_rest a_wins f_seed a_other a_kept H) (mA q)) args s 0 0 (mA q)) (F0 m 0 ls []) := by
  have hx := zc.1
  have hb := zc.2.1
  refine lv_aload_n hx hb dX11_slopes_0 rfl (lv_at hl 0 rfl) ?_
  refine lv_iconst (v := (0 : Int32)) hx hb dX11_slopes_1 (by decide) ?_
  refine mp_11_97_0 zc hK hM hS dX11_slopes_2 (fun H locs hM hS => ?_)
  refine lv_aload_n hx hb dX11_slopes_5 rfl (lv_at hl 0 rfl) ?_
  refine lv_iload_n hx hb dX11_slopes_6 rfl (lv_at hl 1 rfl) ?_
  refine zVw_i [.int x1] [] zc ky_X11_hand kz_X11_hand km_11_313 (c_m_hand l hw) (mPreV0 hK hM) hS rfl rfl hl.1 (Nat.le_of_ble_eq_true rfl) ⟨rfl, rfl⟩ ⟨Nat.le_of_ble_eq_true rfl, Nat.le_of_ble_eq_true rfl⟩ ⟨(Nat.zero_le _), (Nat.zero_le _)⟩ dX11_slopes_7 (fun r_1 u H locs hw hM hS => ?_)
  obtain ⟨f_land_1, f_huts_1, f_singers_1⟩ := u
  refine lv_if_eq (tgt := 22) hx hb dX11_slopes_10 (by decide) (fun hc => ?_) (fun hc => ?_)
  · have hw := hw.1 hc
    refine lv_iconst (v := (-1 : Int32)) hx hb dX11_slopes_22 (by decide) ?_
    exact zret_iw ⟨(0 : Int32), f_land_1, f_huts_1, f_singers_1, a_run, a_routes, a_longest, a_steep, a_laid⟩ zc hS hw hM dX11_slopes_23
  · have hw := hw.2 hc
    refine lv_iload_n hx hb dX11_slopes_13 rfl (lv_at hl 2 rfl) ?_
    refine lv_iconst (v := (0 : Int32)) hx hb dX11_slopes_14 (by decide) ?_
    refine lv_iconst (v := (3 : Int32)) hx hb dX11_slopes_15 (by decide) ?_
    refine zS_i [.int x2, .int (0 : Int32), .int (3 : Int32)] [] zc ky_X11_in kz_X11_in km_11_109 (c_m_in l hw) (zPre0 _) rfl rfl hl.1 (Nat.le_of_ble_eq_true rfl) ⟨rfl, rfl⟩ ⟨Nat.le_of_ble_eq_true rfl, Nat.le_of_ble_eq_true rfl⟩ ⟨(Nat.zero_le _), (Nat.zero_le _)⟩ dX11_slopes_16 (fun r_2 hw => ?_)
    refine lv_if_ne (tgt := 24) hx hb dX11_slopes_19 (by decide) (fun hc => ?_) (fun hc => ?_)
    · have hw := hw.1 hc
      refine lv_iconst (v := (0 : Int32)) hx hb dX11_slopes_24 (by decide) ?_
      refine lv_istore_n (lv' := [(3, .int (0 : Int32)), (0, .ref q), (1, .int x1), (2, .int x2)]) hx hb dX11_slopes_25 rfl hl (by decide) rfl (fun ls hl => ?_)
      refine lv_iconst (v := (0 : Int32)) hx hb dX11_slopes_26 (by decide) ?_
      refine lv_istore (lv' := [(4, .int (0 : Int32)), (3, .int (0 : Int32)), (0, .ref q), (1, .int x1), (2, .int x2)]) hx hb dX11_slopes_27 hl (by decide) rfl (fun ls hl => ?_)
      refine lv_iconst (v := (0 : Int32)) hx hb dX11_slopes_29 (by decide) ?_
      refine lv_istore (lv' := [(5, .int (0 : Int32)), (4, .int (0 : Int32)), (3, .int (0 : Int32)), (0, .ref q), (1, .int x1), (2, .int x2)]) hx hb dX11_slopes_30 hl (by decide) rfl (fun ls hl => ?_)
      refine lv_iconst (v := (0 : Int32)) hx hb dX11_slopes_32 (by decide) ?_
      refine lv_istore (lv' := [(6, .int (0 : Int32)), (5, .int (0 : Int32)), (4, .int (0 : Int32)), (3, .int (0 : Int32)), (0, .ref q), (1, .int x1), (2, .int x2)]) hx hb dX11_slopes_33 hl (by decide) rfl (fun ls hl => ?_)
      refine lv_iconst (v := (0 : Int32)) hx hb dX11_slopes_35 (by decide) ?_
      refine lv_istore (lv' := [(7, .int (0 : Int32)), (6, .int (0 : Int32)), (5, .int (0 : Int32)), (4, .int (0 : Int32)), (3, .int (0 : Int32)), (0, .ref q), (1, .int x1), (2, .int x2)]) hx hb dX11_slopes_36 hl (by decide) rfl (fun ls hl => ?_)
      exact t_m_slopes_38 zc hK hM hS  (lv_sub hl [5, 7, 4, 3, 2, 1, 0] rfl) hw
    · have hw := hw.2 hc
      refine lv_iconst (v := (-1 : Int32)) hx hb dX11_slopes_22 (by decide) ?_
      exact zret_iw ⟨(0 : Int32), f_land_1, f_huts_1, f_singers_1, a_run, a_routes, a_longest, a_steep, a_laid⟩ zc hS hw hM dX11_slopes_23
set_option maxRecDepth 20000 in
theorem c_m_slopes (l : Launch) {E : zE} {q : Nat} {f_code : Int32} {a_tape : Nat → Int32} {a_size : Nat → Int32} {a_fault : Nat → Int32} {a_faultPlace : Nat → Int32} {a_many : Nat → Int32} {a_lands : Nat → Int32} {a_evenings : Nat → Int32} {a_sights : Nat → Int32} {a_choirs : Nat → Int32} {f_reached : Int32} {f_length : Int32} {f_begins : Int32} {f_sort : Int32} {f_value : Int32} {f_word : Int64} {f_wrongAt : Int32} {f_laterFault : Int32} {f_laterPlace : Int32} {a_told : Nat → Int32} {a_read : Nat → Int32} {f_farHut : Int32} {f_farSinger : Int32} {f_good : Int32} {f_land : Int32} {f_huts : Int32} {f_singers : Int32} {f_evening : Int32} {a_at : Nat → Int32} {a_knows : Nat → Int32} {a_climbed : Nat → Int32} {a_snow : Nat → Int32} {a_level : Nat → Int32} {f_begun : Int32} {f_minute : Int32} {f_avalanches : Int32} {a_run : Nat → Int32} {a_covers : Nat → Int32} {a_routes : Nat → Int32} {a_longest : Nat → Int32} {a_steep : Nat → Int32} {a_laid : Nat → Int32} {a_far : Nat → Int32} {f_sight : Int32} {a_runs : Nat → Int32} {f_choir : Int32} {f_voices : Int32} {a_rest : Nat → Int64} {a_wins : Nat → Int32} {f_seed : Int32} {a_other : Nat → Int32} {a_kept : Nat → Int32} {x1 : Int32} {x2 : Int32} {post : Int32 → (Int32) → (Int32) → (Int32) → (Int32) → (Nat → Int32) → (Nat → Int32) → (Nat → Int32) → (Nat → Int32) → (Nat → Int32) → Prop} (hw : q_m_slopes_0 f_code a_many a_lands f_land f_huts f_singers a_run a_routes a_longest a_steep a_laid x1 x2 post) : Met l yX11_slopes (Cond.code yX11_slopes cX11_slopes 10 (some .int) :: zb) rm_m_slopes (va_Pc [.ref q, .int x1, .int x2] (fun U => mW E q f_code a_tape a_size a_fault a_faultPlace a_many a_lands a_evenings a_sights a_choirs f_reached f_length f_begins f_sort f_value f_word f_wrongAt f_laterFault f_laterPlace a_told a_read f_farHut f_farSinger f_good f_land f_huts f_singers f_evening a_at a_knows a_climbed a_snow a_level f_begun f_minute f_avalanches a_run a_covers a_routes a_longest a_steep a_laid a_far f_sight a_runs f_choir f_voices a_rest a_wins f_seed a_other a_kept U.heap ∧ zK E U)) (zQi (S := (Int32) × (Int32) × (Int32) × (Int32) × (Nat → Int32) × (Nat → Int32) × (Nat → Int32) × (Nat → Int32) × (Nat → Int32)) (fun r u => post r u.1 u.2.1 u.2.2.1 u.2.2.2.1 u.2.2.2.2.1 u.2.2.2.2.2.1 u.2.2.2.2.2.2.1 u.2.2.2.2.2.2.2.1 u.2.2.2.2.2.2.2.2) (fun u H => mW E q u.1 a_tape a_size a_fault a_faultPlace a_many a_lands a_evenings a_sights a_choirs f_reached f_length f_begins f_sort f_value f_word f_wrongAt f_laterFault f_laterPlace a_told a_read f_farHut f_farSinger f_good u.2.1 u.2.2.1 u.2.2.2.1 f_evening a_at a_knows a_climbed a_snow a_level f_begun f_minute f_avalanches u.2.2.2.2.1 a_covers u.2.2.2.2.2.1 u.2.2.2.2.2.2.1 u.2.2.2.2.2.2.2.1 u.2.2.2.2.2.2.2.2 a_far f_sight a_runs f_choir f_voices a_rest a_wins f_seed a_other a_kept H) (mA q)) 0 0 (mA q) := by
  refine Met.ofW (cc := cX11_slopes) (maxL := 10) (ret := (some .int)) (by decide) rfl ?_
  intro p e s m args below meth c s₁ B hml hv
  obtain ⟨rfl, hM, hK⟩ := hv
  have zc := zc_of B hml
  have hl := lv_entry ([.ref q, .int x1, .int x2]) (n := 10) (Nat.le_of_ble_eq_true rfl)
  rw [lg_entry_eq]
  generalize (lg_sl ([.ref q, .int x1, .int x2]) ++ List.replicate (10 - (lg_sl ([.ref q, .int x1, .int x2])).length) Slot.unset).toArray = ls at hl ⊢
  have hl : lv_has ls 10 [(0, .ref q), (1, .int x1), (2, .int x2)] := hl
  exact t_m_slopes_0 zc hK hM va_S.rf (lv_sub hl [0, 1, 2] rfl) hw
-- m_flood
abbrev rm_m_flood : Room := { frames := 3, cells := 0, slots := 0, locals := 70 }
def q_m_flood_144 (P58 : Int32 → Int32 → (Nat → Int32) → Prop) (f_code : Int32) (a_many : Nat → Int32) (a_lands : Nat → Int32) (f_land : Int32) (f_huts : Int32) (f_singers : Int32) (a_run : Nat → Int32) (x2 : Int32) (x3 : Int32) (x4 : Int32) (x6 : Int32) (y0 : Int32) (post : Int32 → (Int32) → (Int32) → (Int32) → (Int32) → (Nat → Int32) → Prop) : Prop :=
  ∀ v_1 : Int32, v_1 = x6 + (1 : Int32) → (P58 y0 v_1 a_run)
def q_m_flood_137 (P58 : Int32 → Int32 → (Nat → Int32) → Prop) (f_code : Int32) (a_many : Nat → Int32) (a_lands : Nat → Int32) (f_land : Int32) (f_huts : Int32) (f_singers : Int32) (a_run : Nat → Int32) (x2 : Int32) (x3 : Int32) (x4 : Int32) (x6 : Int32) (post : Int32 → (Int32) → (Int32) → (Int32) → (Int32) → (Nat → Int32) → Prop) : Prop :=
  q_m_flood_144 P58 f_code a_many a_lands f_land f_huts f_singers a_run x2 x3 x4 x6 x6 post
def q_m_flood_142 (P58 : Int32 → Int32 → (Nat → Int32) → Prop) (f_code : Int32) (a_many : Nat → Int32) (a_lands : Nat → Int32) (f_land : Int32) (f_huts : Int32) (f_singers : Int32) (a_run : Nat → Int32) (x2 : Int32) (x3 : Int32) (x4 : Int32) (x5 : Int32) (x6 : Int32) (post : Int32 → (Int32) → (Int32) → (Int32) → (Int32) → (Nat → Int32) → Prop) : Prop :=
  q_m_flood_144 P58 f_code a_many a_lands f_land f_huts f_singers a_run x2 x3 x4 x6 x5 post
def q_m_flood_111 (P58 : Int32 → Int32 → (Nat → Int32) → Prop) (f_code : Int32) (a_many : Nat → Int32) (a_lands : Nat → Int32) (f_land : Int32) (f_huts : Int32) (f_singers : Int32) (a_run : Nat → Int32) (x2 : Int32) (x3 : Int32) (x4 : Int32) (x5 : Int32) (x6 : Int32) (y0 : Int32) (post : Int32 → (Int32) → (Int32) → (Int32) → (Int32) → (Nat → Int32) → Prop) : Prop :=
  (y0 = 0 → (q_m_flood_142 P58 f_code a_many a_lands f_land f_huts f_singers a_run x2 x3 x4 x5 x6 post)) ∧ (¬ y0 = 0 → ((x5 = (-1 : Int32) → (q_m_flood_137 P58 f_code a_many a_lands f_land f_huts f_singers a_run x2 x3 x4 x6 post)) ∧ (¬ x5 = (-1 : Int32) → (q_m_ones_0 x6 (fun r_1 => q_m_ones_0 x5 (fun r_2 => (r_2 ≤ r_1 → (q_m_flood_142 P58 f_code a_many a_lands f_land f_huts f_singers a_run x2 x3 x4 x5 x6 post)) ∧ (¬ r_2 ≤ r_1 → (q_m_flood_137 P58 f_code a_many a_lands f_land f_huts f_singers a_run x2 x3 x4 x6 post))))))))
def q_m_flood_110 (P58 : Int32 → Int32 → (Nat → Int32) → Prop) (f_code : Int32) (a_many : Nat → Int32) (a_lands : Nat → Int32) (f_land : Int32) (f_huts : Int32) (f_singers : Int32) (a_run : Nat → Int32) (x2 : Int32) (x3 : Int32) (x4 : Int32) (x5 : Int32) (x6 : Int32) (post : Int32 → (Int32) → (Int32) → (Int32) → (Int32) → (Nat → Int32) → Prop) : Prop :=
  q_m_flood_111 P58 f_code a_many a_lands f_land f_huts f_singers a_run x2 x3 x4 x5 x6 (0 : Int32) post
def q_m_flood_163 (f_code : Int32) (a_many : Nat → Int32) (a_lands : Nat → Int32) (f_land : Int32) (f_huts : Int32) (f_singers : Int32) (a_run : Nat → Int32) (x5 : Int32) (post : Int32 → (Int32) → (Int32) → (Int32) → (Int32) → (Nat → Int32) → Prop) : Prop :=
  post x5 f_code f_land f_huts f_singers a_run
def q_m_flood_58 (f_code : Int32) (a_many : Nat → Int32) (a_lands : Nat → Int32) (f_land : Int32) (f_huts : Int32) (f_singers : Int32) (a_run : Nat → Int32) (x2 : Int32) (x3 : Int32) (x4 : Int32) (x5 : Int32) (x6 : Int32) (post : Int32 → (Int32) → (Int32) → (Int32) → (Int32) → (Nat → Int32) → Prop) : Prop :=
  ∀ P58 : Int32 → Int32 → (Nat → Int32) → Prop, (∀ (x5 : Int32) (x6 : Int32) (a_run : Nat → Int32), ((((1 : Int32) <<< (f_huts &&& 31)) ≤ x6 → ((x5 = (-1 : Int32) → (q_m_flood_163 f_code a_many a_lands f_land f_huts f_singers a_run x5 post)) ∧ (¬ x5 = (-1 : Int32) → ((x4 = 0 → (q_m_ones_0 x5 (fun r_1 => post r_1 f_code f_land f_huts f_singers a_run))) ∧ (¬ x4 = 0 → (q_m_flood_163 f_code a_many a_lands f_land f_huts f_singers a_run x5 post)))))) ∧ (¬ ((1 : Int32) <<< (f_huts &&& 31)) ≤ x6 → (q_m_findRun_0 a_lands f_land f_huts a_run x2 x6 (fun a_run_1 => q_m_has_0 x6 x2 (fun r_2 => (¬ r_2 = 0 → (q_m_flood_110 P58 f_code a_many a_lands f_land f_huts f_singers a_run_1 x2 x3 x4 x5 x6 post)) ∧ (r_2 = 0 → (q_m_has_0 x6 x3 (fun r_3 => (¬ r_3 = 0 → (q_m_flood_110 P58 f_code a_many a_lands f_land f_huts f_singers a_run_1 x2 x3 x4 x5 x6 post)) ∧ (r_3 = 0 → (vp_in x3 9 ∧ (((a_run_1 (Int32.toNatClampNeg x3)) < (1000000 : Int32) → (q_m_flood_110 P58 f_code a_many a_lands f_land f_huts f_singers a_run_1 x2 x3 x4 x5 x6 post)) ∧ (¬ (a_run_1 (Int32.toNatClampNeg x3)) < (1000000 : Int32) → (q_m_flood_111 P58 f_code a_many a_lands f_land f_huts f_singers a_run_1 x2 x3 x4 x5 x6 (1 : Int32) post))))))))))))) → P58 x5 x6 a_run) → P58 x5 x6 a_run
def q_m_flood_0 (f_code : Int32) (a_many : Nat → Int32) (a_lands : Nat → Int32) (f_land : Int32) (f_huts : Int32) (f_singers : Int32) (a_run : Nat → Int32) (x1 : Int32) (x2 : Int32) (x3 : Int32) (x4 : Int32) (post : Int32 → (Int32) → (Int32) → (Int32) → (Int32) → (Nat → Int32) → Prop) : Prop :=
  q_m_hand_0 a_many a_lands f_land f_huts f_singers x1 (fun r_1 f_land_1 f_huts_1 f_singers_1 => (r_1 = 0 → (post (-1 : Int32) (0 : Int32) f_land_1 f_huts_1 f_singers_1 a_run)) ∧ (¬ r_1 = 0 → (q_m_isHut_0 f_huts_1 x2 (fun r_2 => (r_2 = 0 → (post (-1 : Int32) (0 : Int32) f_land_1 f_huts_1 f_singers_1 a_run)) ∧ (¬ r_2 = 0 → (q_m_isHut_0 f_huts_1 x3 (fun r_3 => (r_3 = 0 → (post (-1 : Int32) (0 : Int32) f_land_1 f_huts_1 f_singers_1 a_run)) ∧ (¬ r_3 = 0 → ((x2 = x3 → (post (-1 : Int32) (0 : Int32) f_land_1 f_huts_1 f_singers_1 a_run)) ∧ (¬ x2 = x3 → (q_m_isDam_0 a_lands f_land_1 x2 (fun r_4 => (¬ r_4 = 0 → (post (-1 : Int32) (0 : Int32) f_land_1 f_huts_1 f_singers_1 a_run)) ∧ (r_4 = 0 → (q_m_isDam_0 a_lands f_land_1 x3 (fun r_5 => (r_5 = 0 → (q_m_flood_58 (0 : Int32) a_many a_lands f_land_1 f_huts_1 f_singers_1 a_run x2 x3 x4 (-1 : Int32) (0 : Int32) post)) ∧ (¬ r_5 = 0 → (post (-1 : Int32) (0 : Int32) f_land_1 f_huts_1 f_singers_1 a_run)))))))))))))))))
set_option maxRecDepth 20000 in
theorem t_m_flood_144 {p : Program} {l : Launch} {e : Env} {s : State} {m : MethodId} {args : Array Value} {below : List Frame} {meth : Method} {c : Code} {E : zE} {q : Nat} {f_code : Int32} {a_tape : Nat → Int32} {a_size : Nat → Int32} {a_fault : Nat → Int32} {a_faultPlace : Nat → Int32} {a_many : Nat → Int32} {a_lands : Nat → Int32} {a_evenings : Nat → Int32} {a_sights : Nat → Int32} {a_choirs : Nat → Int32} {f_reached : Int32} {f_length : Int32} {f_begins : Int32} {f_sort : Int32} {f_value : Int32} {f_word : Int64} {f_wrongAt : Int32} {f_laterFault : Int32} {f_laterPlace : Int32} {a_told : Nat → Int32} {a_read : Nat → Int32} {f_farHut : Int32} {f_farSinger : Int32} {f_good : Int32} {f_land : Int32} {f_huts : Int32} {f_singers : Int32} {f_evening : Int32} {a_at : Nat → Int32} {a_knows : Nat → Int32} {a_climbed : Nat → Int32} {a_snow : Nat → Int32} {a_level : Nat → Int32} {f_begun : Int32} {f_minute : Int32} {f_avalanches : Int32} {a_run : Nat → Int32} {a_covers : Nat → Int32} {a_routes : Nat → Int32} {a_longest : Nat → Int32} {a_steep : Nat → Int32} {a_laid : Nat → Int32} {a_far : Nat → Int32} {f_sight : Int32} {a_runs : Nat → Int32} {f_choir : Int32} {f_voices : Int32} {a_rest : Nat → Int64} {a_wins : Nat → Int32} {f_seed : Int32} {a_other : Nat → Int32} {a_kept : Nat → Int32} {P58 : Int32 → Int32 → (Nat → Int32) → Prop} {post : Int32 → (Int32) → (Int32) → (Int32) → (Int32) → (Nat → Int32) → Prop} {x2 : Int32} {x3 : Int32} {x4 : Int32} {x6 : Int32} {y0 : Int32} {ls : Array Slot} {H : Heap} {locs : List Loc}
    (zc : zC p s m args meth c cX11_flood 8 RX11 (some .int))
    (hK : zK E s)
    (hM : mW E q f_code a_tape a_size a_fault a_faultPlace a_many a_lands a_evenings a_sights a_choirs f_reached f_length f_begins f_sort f_value f_word f_wrongAt f_laterFault f_laterPlace a_told a_read f_farHut f_farSinger f_good f_land f_huts f_singers f_evening a_at a_knows a_climbed a_snow a_level f_begun f_minute f_avalanches a_run a_covers a_routes a_longest a_steep a_laid a_far f_sight a_runs f_choir f_voices a_rest a_wins f_seed a_other a_kept H)
    (hS : va_S (mA q) s.heap H locs)
    (hP58 : ∀ (x5 : Int32) (x6 : Int32) (a_run : Nat → Int32) (H : Heap) (locs : List Loc) (ls : Array Slot), P58 x5 x6 a_run → lv_has ls 8 [(0, .ref q), (2, .int x2), (3, .int x3), (4, .int x4), (5, .int x5), (6, .int x6)] → mW E q f_code a_tape a_size a_fault a_faultPlace a_many a_lands a_evenings a_sights a_choirs f_reached f_length f_begins f_sort f_value f_word f_wrongAt f_laterFault f_laterPlace a_told a_read f_farHut f_farSinger f_good f_land f_huts f_singers f_evening a_at a_knows a_climbed a_snow a_level f_begun f_minute f_avalanches a_run a_covers a_routes a_longest a_steep a_laid a_far f_sight a_runs f_choir f_voices a_rest a_wins f_seed a_other a_kept H → va_S (mA q) s.heap H locs → W p l e rm_m_flood s m args below meth c H locs 0 0 (MQ below (zQi (S := (Int32) × (Int32) × (Int32) × (Int32) × (Nat → Int32)) (fun r u => post r u.1 u.2.1 u.2.2.1 u.2.2.2.1 u.2.2.2.2) (fun u H => mW E q u.1 a_tape a_size a_fault a_faultPlace a_many a_lands a_evenings a_sights a_choirs f_reached f_length f_begins f_sort f_value f_word f_wrongAt f_laterFault f_laterPlace a_told a_read f_farHut f_farSinger f_good u.2.1 u.2.2.1 u.2.2.2.1 f_evening a_at a_knows a_climbed a_snow a_level f_begun f_minute f_avalanches u.2.2.2.2 a_covers a_routes a_longest a_steep a_laid a_far f_sight a_runs f_choir f_voices a_rest a_wins f_seed a_other a_kept H) (mA q)) args s 0 0 (mA q)) (F0 m 58 ls []))
    (hl : lv_has ls 8 [(0, .ref q), (2, .int x2), (3, .int x3), (4, .int x4), (6, .int x6)])
    (hw : q_m_flood_144 P58 f_code a_many a_lands f_land f_huts f_singers a_run x2 x3 x4 x6 y0 post) :
    W p l e rm_m_flood s m args below meth c H locs 0 0 (MQ below (zQi (S := (Int32) × (Int32) × (Int32) × (Int32) × (Nat → Int32)) (fun r u => post r u.1 u.2.1 u.2.2.1 u.2.2.2.1 u.2.2.2.2) (fun u H => mW E q u.1 a_tape a_size a_fault a_faultPlace a_many a_lands a_evenings a_sights a_choirs f_reached f_length f_begins f_sort f_value f_word f_wrongAt f_laterFault f_laterPlace a_told a_read f_farHut f_farSinger f_good u.2.1 u.2.2.1 u.2.2.2.1 f_evening a_at a_knows a_climbed a_snow a_level f_begun f_minute f_avalanches u.2.2.2.2 a_covers a_routes a_longest a_steep a_laid a_far f_sight a_runs f_choir f_voices a_rest a_wins f_seed a_other a_kept H) (mA q)) args s 0 0 (mA q)) (F0 m 144 ls [.int y0]) := by
  have hx := zc.1
  have hb := zc.2.1
  refine lv_istore (lv' := [(5, .int y0), (0, .ref q), (2, .int x2), (3, .int x3), (4, .int x4), (6, .int x6)]) hx hb dX11_flood_144 hl (by decide) rfl (fun ls hl => ?_)
  obtain ⟨v_1, ev_1⟩ : ∃ y : Int32, y = x6 + (1 : Int32) := ⟨_, rfl⟩
  have hw := hw v_1 ev_1
  refine lv_iinc (v := v_1) (k := 5) (lv' := [(6, .int v_1), (5, .int y0), (0, .ref q), (2, .int x2), (3, .int x3), (4, .int x4)]) hx hb dX11_flood_146 hl rfl (by rw [ev_1]; rfl) (by decide) rfl (fun ls hl => ?_)
  refine lv_goto (tgt := 58) hx hb dX11_flood_149 (by decide) ?_
  exact hP58 _ _ _ _ _ _ hw (lv_sub hl [2, 3, 4, 5, 1, 0] rfl) hM hS
set_option maxRecDepth 20000 in
theorem t_m_flood_137 {p : Program} {l : Launch} {e : Env} {s : State} {m : MethodId} {args : Array Value} {below : List Frame} {meth : Method} {c : Code} {E : zE} {q : Nat} {f_code : Int32} {a_tape : Nat → Int32} {a_size : Nat → Int32} {a_fault : Nat → Int32} {a_faultPlace : Nat → Int32} {a_many : Nat → Int32} {a_lands : Nat → Int32} {a_evenings : Nat → Int32} {a_sights : Nat → Int32} {a_choirs : Nat → Int32} {f_reached : Int32} {f_length : Int32} {f_begins : Int32} {f_sort : Int32} {f_value : Int32} {f_word : Int64} {f_wrongAt : Int32} {f_laterFault : Int32} {f_laterPlace : Int32} {a_told : Nat → Int32} {a_read : Nat → Int32} {f_farHut : Int32} {f_farSinger : Int32} {f_good : Int32} {f_land : Int32} {f_huts : Int32} {f_singers : Int32} {f_evening : Int32} {a_at : Nat → Int32} {a_knows : Nat → Int32} {a_climbed : Nat → Int32} {a_snow : Nat → Int32} {a_level : Nat → Int32} {f_begun : Int32} {f_minute : Int32} {f_avalanches : Int32} {a_run : Nat → Int32} {a_covers : Nat → Int32} {a_routes : Nat → Int32} {a_longest : Nat → Int32} {a_steep : Nat → Int32} {a_laid : Nat → Int32} {a_far : Nat → Int32} {f_sight : Int32} {a_runs : Nat → Int32} {f_choir : Int32} {f_voices : Int32} {a_rest : Nat → Int64} {a_wins : Nat → Int32} {f_seed : Int32} {a_other : Nat → Int32} {a_kept : Nat → Int32} {P58 : Int32 → Int32 → (Nat → Int32) → Prop} {post : Int32 → (Int32) → (Int32) → (Int32) → (Int32) → (Nat → Int32) → Prop} {x2 : Int32} {x3 : Int32} {x4 : Int32} {x6 : Int32} {ls : Array Slot} {H : Heap} {locs : List Loc}
    (zc : zC p s m args meth c cX11_flood 8 RX11 (some .int))
    (hK : zK E s)
    (hM : mW E q f_code a_tape a_size a_fault a_faultPlace a_many a_lands a_evenings a_sights a_choirs f_reached f_length f_begins f_sort f_value f_word f_wrongAt f_laterFault f_laterPlace a_told a_read f_farHut f_farSinger f_good f_land f_huts f_singers f_evening a_at a_knows a_climbed a_snow a_level f_begun f_minute f_avalanches a_run a_covers a_routes a_longest a_steep a_laid a_far f_sight a_runs f_choir f_voices a_rest a_wins f_seed a_other a_kept H)
    (hS : va_S (mA q) s.heap H locs)
    (hP58 : ∀ (x5 : Int32) (x6 : Int32) (a_run : Nat → Int32) (H : Heap) (locs : List Loc) (ls : Array Slot), P58 x5 x6 a_run → lv_has ls 8 [(0, .ref q), (2, .int x2), (3, .int x3), (4, .int x4), (5, .int x5), (6, .int x6)] → mW E q f_code a_tape a_size a_fault a_faultPlace a_many a_lands a_evenings a_sights a_choirs f_reached f_length f_begins f_sort f_value f_word f_wrongAt f_laterFault f_laterPlace a_told a_read f_farHut f_farSinger f_good f_land f_huts f_singers f_evening a_at a_knows a_climbed a_snow a_level f_begun f_minute f_avalanches a_run a_covers a_routes a_longest a_steep a_laid a_far f_sight a_runs f_choir f_voices a_rest a_wins f_seed a_other a_kept H → va_S (mA q) s.heap H locs → W p l e rm_m_flood s m args below meth c H locs 0 0 (MQ below (zQi (S := (Int32) × (Int32) × (Int32) × (Int32) × (Nat → Int32)) (fun r u => post r u.1 u.2.1 u.2.2.1 u.2.2.2.1 u.2.2.2.2) (fun u H => mW E q u.1 a_tape a_size a_fault a_faultPlace a_many a_lands a_evenings a_sights a_choirs f_reached f_length f_begins f_sort f_value f_word f_wrongAt f_laterFault f_laterPlace a_told a_read f_farHut f_farSinger f_good u.2.1 u.2.2.1 u.2.2.2.1 f_evening a_at a_knows a_climbed a_snow a_level f_begun f_minute f_avalanches u.2.2.2.2 a_covers a_routes a_longest a_steep a_laid a_far f_sight a_runs f_choir f_voices a_rest a_wins f_seed a_other a_kept H) (mA q)) args s 0 0 (mA q)) (F0 m 58 ls []))
    (hl : lv_has ls 8 [(0, .ref q), (2, .int x2), (3, .int x3), (4, .int x4), (6, .int x6)])
    (hw : q_m_flood_137 P58 f_code a_many a_lands f_land f_huts f_singers a_run x2 x3 x4 x6 post) :
    W p l e rm_m_flood s m args below meth c H locs 0 0 (MQ below (zQi (S := (Int32) × (Int32) × (Int32) × (Int32) × (Nat → Int32)) (fun r u => post r u.1 u.2.1 u.2.2.1 u.2.2.2.1 u.2.2.2.2) (fun u H => mW E q u.1 a_tape a_size a_fault a_faultPlace a_many a_lands a_evenings a_sights a_choirs f_reached f_length f_begins f_sort f_value f_word f_wrongAt f_laterFault f_laterPlace a_told a_read f_farHut f_farSinger f_good u.2.1 u.2.2.1 u.2.2.2.1 f_evening a_at a_knows a_climbed a_snow a_level f_begun f_minute f_avalanches u.2.2.2.2 a_covers a_routes a_longest a_steep a_laid a_far f_sight a_runs f_choir f_voices a_rest a_wins f_seed a_other a_kept H) (mA q)) args s 0 0 (mA q)) (F0 m 137 ls []) := by
  have hx := zc.1
  have hb := zc.2.1
  refine lv_iload hx hb dX11_flood_137 (lv_at hl 4 rfl) ?_
  refine lv_goto (tgt := 144) hx hb dX11_flood_139 (by decide) ?_
  exact t_m_flood_144 zc hK hM hS hP58 (lv_sub hl [0, 1, 2, 3, 4] rfl) hw
set_option maxRecDepth 20000 in
theorem t_m_flood_142 {p : Program} {l : Launch} {e : Env} {s : State} {m : MethodId} {args : Array Value} {below : List Frame} {meth : Method} {c : Code} {E : zE} {q : Nat} {f_code : Int32} {a_tape : Nat → Int32} {a_size : Nat → Int32} {a_fault : Nat → Int32} {a_faultPlace : Nat → Int32} {a_many : Nat → Int32} {a_lands : Nat → Int32} {a_evenings : Nat → Int32} {a_sights : Nat → Int32} {a_choirs : Nat → Int32} {f_reached : Int32} {f_length : Int32} {f_begins : Int32} {f_sort : Int32} {f_value : Int32} {f_word : Int64} {f_wrongAt : Int32} {f_laterFault : Int32} {f_laterPlace : Int32} {a_told : Nat → Int32} {a_read : Nat → Int32} {f_farHut : Int32} {f_farSinger : Int32} {f_good : Int32} {f_land : Int32} {f_huts : Int32} {f_singers : Int32} {f_evening : Int32} {a_at : Nat → Int32} {a_knows : Nat → Int32} {a_climbed : Nat → Int32} {a_snow : Nat → Int32} {a_level : Nat → Int32} {f_begun : Int32} {f_minute : Int32} {f_avalanches : Int32} {a_run : Nat → Int32} {a_covers : Nat → Int32} {a_routes : Nat → Int32} {a_longest : Nat → Int32} {a_steep : Nat → Int32} {a_laid : Nat → Int32} {a_far : Nat → Int32} {f_sight : Int32} {a_runs : Nat → Int32} {f_choir : Int32} {f_voices : Int32} {a_rest : Nat → Int64} {a_wins : Nat → Int32} {f_seed : Int32} {a_other : Nat → Int32} {a_kept : Nat → Int32} {P58 : Int32 → Int32 → (Nat → Int32) → Prop} {post : Int32 → (Int32) → (Int32) → (Int32) → (Int32) → (Nat → Int32) → Prop} {x2 : Int32} {x3 : Int32} {x4 : Int32} {x5 : Int32} {x6 : Int32} {ls : Array Slot} {H : Heap} {locs : List Loc}
    (zc : zC p s m args meth c cX11_flood 8 RX11 (some .int))
    (hK : zK E s)
    (hM : mW E q f_code a_tape a_size a_fault a_faultPlace a_many a_lands a_evenings a_sights a_choirs f_reached f_length f_begins f_sort f_value f_word f_wrongAt f_laterFault f_laterPlace a_told a_read f_farHut f_farSinger f_good f_land f_huts f_singers f_evening a_at a_knows a_climbed a_snow a_level f_begun f_minute f_avalanches a_run a_covers a_routes a_longest a_steep a_laid a_far f_sight a_runs f_choir f_voices a_rest a_wins f_seed a_other a_kept H)
    (hS : va_S (mA q) s.heap H locs)
    (hP58 : ∀ (x5 : Int32) (x6 : Int32) (a_run : Nat → Int32) (H : Heap) (locs : List Loc) (ls : Array Slot), P58 x5 x6 a_run → lv_has ls 8 [(0, .ref q), (2, .int x2), (3, .int x3), (4, .int x4), (5, .int x5), (6, .int x6)] → mW E q f_code a_tape a_size a_fault a_faultPlace a_many a_lands a_evenings a_sights a_choirs f_reached f_length f_begins f_sort f_value f_word f_wrongAt f_laterFault f_laterPlace a_told a_read f_farHut f_farSinger f_good f_land f_huts f_singers f_evening a_at a_knows a_climbed a_snow a_level f_begun f_minute f_avalanches a_run a_covers a_routes a_longest a_steep a_laid a_far f_sight a_runs f_choir f_voices a_rest a_wins f_seed a_other a_kept H → va_S (mA q) s.heap H locs → W p l e rm_m_flood s m args below meth c H locs 0 0 (MQ below (zQi (S := (Int32) × (Int32) × (Int32) × (Int32) × (Nat → Int32)) (fun r u => post r u.1 u.2.1 u.2.2.1 u.2.2.2.1 u.2.2.2.2) (fun u H => mW E q u.1 a_tape a_size a_fault a_faultPlace a_many a_lands a_evenings a_sights a_choirs f_reached f_length f_begins f_sort f_value f_word f_wrongAt f_laterFault f_laterPlace a_told a_read f_farHut f_farSinger f_good u.2.1 u.2.2.1 u.2.2.2.1 f_evening a_at a_knows a_climbed a_snow a_level f_begun f_minute f_avalanches u.2.2.2.2 a_covers a_routes a_longest a_steep a_laid a_far f_sight a_runs f_choir f_voices a_rest a_wins f_seed a_other a_kept H) (mA q)) args s 0 0 (mA q)) (F0 m 58 ls []))
    (hl : lv_has ls 8 [(0, .ref q), (2, .int x2), (3, .int x3), (4, .int x4), (5, .int x5), (6, .int x6)])
    (hw : q_m_flood_142 P58 f_code a_many a_lands f_land f_huts f_singers a_run x2 x3 x4 x5 x6 post) :
    W p l e rm_m_flood s m args below meth c H locs 0 0 (MQ below (zQi (S := (Int32) × (Int32) × (Int32) × (Int32) × (Nat → Int32)) (fun r u => post r u.1 u.2.1 u.2.2.1 u.2.2.2.1 u.2.2.2.2) (fun u H => mW E q u.1 a_tape a_size a_fault a_faultPlace a_many a_lands a_evenings a_sights a_choirs f_reached f_length f_begins f_sort f_value f_word f_wrongAt f_laterFault f_laterPlace a_told a_read f_farHut f_farSinger f_good u.2.1 u.2.2.1 u.2.2.2.1 f_evening a_at a_knows a_climbed a_snow a_level f_begun f_minute f_avalanches u.2.2.2.2 a_covers a_routes a_longest a_steep a_laid a_far f_sight a_runs f_choir f_voices a_rest a_wins f_seed a_other a_kept H) (mA q)) args s 0 0 (mA q)) (F0 m 142 ls []) := by
  have hx := zc.1
  have hb := zc.2.1
  refine lv_iload hx hb dX11_flood_142 (lv_at hl 4 rfl) ?_
  exact t_m_flood_144 zc hK hM hS hP58 (lv_sub hl [0, 1, 2, 3, 5] rfl) hw
set_option maxRecDepth 20000 in
theorem t_m_flood_111 {p : Program} {l : Launch} {e : Env} {s : State} {m : MethodId} {args : Array Value} {below : List Frame} {meth : Method} {c : Code} {E : zE} {q : Nat} {f_code : Int32} {a_tape : Nat → Int32} {a_size : Nat → Int32} {a_fault : Nat → Int32} {a_faultPlace : Nat → Int32} {a_many : Nat → Int32} {a_lands : Nat → Int32} {a_evenings : Nat → Int32} {a_sights : Nat → Int32} {a_choirs : Nat → Int32} {f_reached : Int32} {f_length : Int32} {f_begins : Int32} {f_sort : Int32} {f_value : Int32} {f_word : Int64} {f_wrongAt : Int32} {f_laterFault : Int32} {f_laterPlace : Int32} {a_told : Nat → Int32} {a_read : Nat → Int32} {f_farHut : Int32} {f_farSinger : Int32} {f_good : Int32} {f_land : Int32} {f_huts : Int32} {f_singers : Int32} {f_evening : Int32} {a_at : Nat → Int32} {a_knows : Nat → Int32} {a_climbed : Nat → Int32} {a_snow : Nat → Int32} {a_level : Nat → Int32} {f_begun : Int32} {f_minute : Int32} {f_avalanches : Int32} {a_run : Nat → Int32} {a_covers : Nat → Int32} {a_routes : Nat → Int32} {a_longest : Nat → Int32} {a_steep : Nat → Int32} {a_laid : Nat → Int32} {a_far : Nat → Int32} {f_sight : Int32} {a_runs : Nat → Int32} {f_choir : Int32} {f_voices : Int32} {a_rest : Nat → Int64} {a_wins : Nat → Int32} {f_seed : Int32} {a_other : Nat → Int32} {a_kept : Nat → Int32} {P58 : Int32 → Int32 → (Nat → Int32) → Prop} {post : Int32 → (Int32) → (Int32) → (Int32) → (Int32) → (Nat → Int32) → Prop} {x2 : Int32} {x3 : Int32} {x4 : Int32} {x5 : Int32} {x6 : Int32} {y0 : Int32} {ls : Array Slot} {H : Heap} {locs : List Loc}
    (zc : zC p s m args meth c cX11_flood 8 RX11 (some .int))
    (hK : zK E s)
    (hM : mW E q f_code a_tape a_size a_fault a_faultPlace a_many a_lands a_evenings a_sights a_choirs f_reached f_length f_begins f_sort f_value f_word f_wrongAt f_laterFault f_laterPlace a_told a_read f_farHut f_farSinger f_good f_land f_huts f_singers f_evening a_at a_knows a_climbed a_snow a_level f_begun f_minute f_avalanches a_run a_covers a_routes a_longest a_steep a_laid a_far f_sight a_runs f_choir f_voices a_rest a_wins f_seed a_other a_kept H)
    (hS : va_S (mA q) s.heap H locs)
    (hP58 : ∀ (x5 : Int32) (x6 : Int32) (a_run : Nat → Int32) (H : Heap) (locs : List Loc) (ls : Array Slot), P58 x5 x6 a_run → lv_has ls 8 [(0, .ref q), (2, .int x2), (3, .int x3), (4, .int x4), (5, .int x5), (6, .int x6)] → mW E q f_code a_tape a_size a_fault a_faultPlace a_many a_lands a_evenings a_sights a_choirs f_reached f_length f_begins f_sort f_value f_word f_wrongAt f_laterFault f_laterPlace a_told a_read f_farHut f_farSinger f_good f_land f_huts f_singers f_evening a_at a_knows a_climbed a_snow a_level f_begun f_minute f_avalanches a_run a_covers a_routes a_longest a_steep a_laid a_far f_sight a_runs f_choir f_voices a_rest a_wins f_seed a_other a_kept H → va_S (mA q) s.heap H locs → W p l e rm_m_flood s m args below meth c H locs 0 0 (MQ below (zQi (S := (Int32) × (Int32) × (Int32) × (Int32) × (Nat → Int32)) (fun r u => post r u.1 u.2.1 u.2.2.1 u.2.2.2.1 u.2.2.2.2) (fun u H => mW E q u.1 a_tape a_size a_fault a_faultPlace a_many a_lands a_evenings a_sights a_choirs f_reached f_length f_begins f_sort f_value f_word f_wrongAt f_laterFault f_laterPlace a_told a_read f_farHut f_farSinger f_good u.2.1 u.2.2.1 u.2.2.2.1 f_evening a_at a_knows a_climbed a_snow a_level f_begun f_minute f_avalanches u.2.2.2.2 a_covers a_routes a_longest a_steep a_laid a_far f_sight a_runs f_choir f_voices a_rest a_wins f_seed a_other a_kept H) (mA q)) args s 0 0 (mA q)) (F0 m 58 ls []))
    (hl : lv_has ls 8 [(0, .ref q), (2, .int x2), (3, .int x3), (4, .int x4), (5, .int x5), (6, .int x6)])
    (hw : q_m_flood_111 P58 f_code a_many a_lands f_land f_huts f_singers a_run x2 x3 x4 x5 x6 y0 post) :
    W p l e rm_m_flood s m args below meth c H locs 0 0 (MQ below (zQi (S := (Int32) × (Int32) × (Int32) × (Int32) × (Nat → Int32)) (fun r u => post r u.1 u.2.1 u.2.2.1 u.2.2.2.1 u.2.2.2.2) (fun u H => mW E q u.1 a_tape a_size a_fault a_faultPlace a_many a_lands a_evenings a_sights a_choirs f_reached f_length f_begins f_sort f_value f_word f_wrongAt f_laterFault f_laterPlace a_told a_read f_farHut f_farSinger f_good u.2.1 u.2.2.1 u.2.2.2.1 f_evening a_at a_knows a_climbed a_snow a_level f_begun f_minute f_avalanches u.2.2.2.2 a_covers a_routes a_longest a_steep a_laid a_far f_sight a_runs f_choir f_voices a_rest a_wins f_seed a_other a_kept H) (mA q)) args s 0 0 (mA q)) (F0 m 111 ls [.int y0]) := by
  have hx := zc.1
  have hb := zc.2.1
  refine lv_istore (lv' := [(7, .int y0), (0, .ref q), (2, .int x2), (3, .int x3), (4, .int x4), (5, .int x5), (6, .int x6)]) hx hb dX11_flood_111 hl (by decide) rfl (fun ls hl => ?_)
  refine lv_iload hx hb dX11_flood_113 (lv_at hl 0 rfl) ?_
  refine lv_if_eq (tgt := 142) hx hb dX11_flood_115 (by decide) (fun hc => ?_) (fun hc => ?_)
  · have hw := hw.1 hc
    exact t_m_flood_142 zc hK hM hS hP58 (lv_sub hl [1, 2, 3, 4, 5, 6] rfl) hw
  · have hw := hw.2 hc
    refine lv_iload hx hb dX11_flood_118 (lv_at hl 5 rfl) ?_
    refine lv_iconst (v := (-1 : Int32)) hx hb dX11_flood_120 (by decide) ?_
    refine lv_icmp_eq (tgt := 137) hx hb dX11_flood_121 (by decide) (fun hc => ?_) (fun hc => ?_)
    · have hw := hw.1 hc
      exact t_m_flood_137 zc hK hM hS hP58 (lv_sub hl [1, 2, 3, 4, 6] rfl) hw
    · have hw := hw.2 hc
      refine lv_iload hx hb dX11_flood_124 (lv_at hl 6 rfl) ?_
      refine zS_i [.int x6] [] zc ky_X11_ones kz_X11_ones km_11_429 (c_m_ones l hw) (zPre0 _) rfl rfl hl.1 (Nat.le_of_ble_eq_true rfl) ⟨rfl, rfl⟩ ⟨Nat.le_of_ble_eq_true rfl, Nat.le_of_ble_eq_true rfl⟩ ⟨(Nat.zero_le _), (Nat.zero_le _)⟩ dX11_flood_126 (fun r_1 hw => ?_)
      refine lv_iload hx hb dX11_flood_129 (lv_at hl 5 rfl) ?_
      refine zS_i [.int x5] [.int r_1] zc ky_X11_ones kz_X11_ones km_11_429 (c_m_ones l hw) (zPre0 _) rfl rfl hl.1 (Nat.le_of_ble_eq_true rfl) ⟨rfl, rfl⟩ ⟨Nat.le_of_ble_eq_true rfl, Nat.le_of_ble_eq_true rfl⟩ ⟨(Nat.zero_le _), (Nat.zero_le _)⟩ dX11_flood_131 (fun r_2 hw => ?_)
      refine lv_icmp_ge (tgt := 142) hx hb dX11_flood_134 (by decide) (fun hc => ?_) (fun hc => ?_)
      · have hw := hw.1 hc
        exact t_m_flood_142 zc hK hM hS hP58 (lv_sub hl [1, 2, 3, 4, 5, 6] rfl) hw
      · have hw := hw.2 hc
        exact t_m_flood_137 zc hK hM hS hP58 (lv_sub hl [1, 2, 3, 4, 6] rfl) hw
set_option maxRecDepth 20000 in
theorem t_m_flood_110 {p : Program} {l : Launch} {e : Env} {s : State} {m : MethodId} {args : Array Value} {below : List Frame} {meth : Method} {c : Code} {E : zE} {q : Nat} {f_code : Int32} {a_tape : Nat → Int32} {a_size : Nat → Int32} {a_fault : Nat → Int32} {a_faultPlace : Nat → Int32} {a_many : Nat → Int32} {a_lands : Nat → Int32} {a_evenings : Nat → Int32} {a_sights : Nat → Int32} {a_choirs : Nat → Int32} {f_reached : Int32} {f_length : Int32} {f_begins : Int32} {f_sort : Int32} {f_value : Int32} {f_word : Int64} {f_wrongAt : Int32} {f_laterFault : Int32} {f_laterPlace : Int32} {a_told : Nat → Int32} {a_read : Nat → Int32} {f_farHut : Int32} {f_farSinger : Int32} {f_good : Int32} {f_land : Int32} {f_huts : Int32} {f_singers : Int32} {f_evening : Int32} {a_at : Nat → Int32} {a_knows : Nat → Int32} {a_climbed : Nat → Int32} {a_snow : Nat → Int32} {a_level : Nat → Int32} {f_begun : Int32} {f_minute : Int32} {f_avalanches : Int32} {a_run : Nat → Int32} {a_covers : Nat → Int32} {a_routes : Nat → Int32} {a_longest : Nat → Int32} {a_steep : Nat → Int32} {a_laid : Nat → Int32} {a_far : Nat → Int32} {f_sight : Int32} {a_runs : Nat → Int32} {f_choir : Int32} {f_voices : Int32} {a_rest : Nat → Int64} {a_wins : Nat → Int32} {f_seed : Int32} {a_other : Nat → Int32} {a_kept : Nat → Int32} {P58 : Int32 → Int32 → (Nat → Int32) → Prop} {post : Int32 → (Int32) → (Int32) → (Int32) → (Int32) → (Nat → Int32) → Prop} {x2 : Int32} {x3 : Int32} {x4 : Int32} {x5 : Int32} {x6 : Int32} {ls : Array Slot} {H : Heap} {locs : List Loc}
    (zc : zC p s m args meth c cX11_flood 8 RX11 (some .int))
    (hK : zK E s)
    (hM : mW E q f_code a_tape a_size a_fault a_faultPlace a_many a_lands a_evenings a_sights a_choirs f_reached f_length f_begins f_sort f_value f_word f_wrongAt f_laterFault f_laterPlace a_told a_read f_farHut f_farSinger f_good f_land f_huts f_singers f_evening a_at a_knows a_climbed a_snow a_level f_begun f_minute f_avalanches a_run a_covers a_routes a_longest a_steep a_laid a_far f_sight a_runs f_choir f_voices a_rest a_wins f_seed a_other a_kept H)
    (hS : va_S (mA q) s.heap H locs)
    (hP58 : ∀ (x5 : Int32) (x6 : Int32) (a_run : Nat → Int32) (H : Heap) (locs : List Loc) (ls : Array Slot), P58 x5 x6 a_run → lv_has ls 8 [(0, .ref q), (2, .int x2), (3, .int x3), (4, .int x4), (5, .int x5), (6, .int x6)] → mW E q f_code a_tape a_size a_fault a_faultPlace a_many a_lands a_evenings a_sights a_choirs f_reached f_length f_begins f_sort f_value f_word f_wrongAt f_laterFault f_laterPlace a_told a_read f_farHut f_farSinger f_good f_land f_huts f_singers f_evening a_at a_knows a_climbed a_snow a_level f_begun f_minute f_avalanches a_run a_covers a_routes a_longest a_steep a_laid a_far f_sight a_runs f_choir f_voices a_rest a_wins f_seed a_other a_kept H → va_S (mA q) s.heap H locs → W p l e rm_m_flood s m args below meth c H locs 0 0 (MQ below (zQi (S := (Int32) × (Int32) × (Int32) × (Int32) × (Nat → Int32)) (fun r u => post r u.1 u.2.1 u.2.2.1 u.2.2.2.1 u.2.2.2.2) (fun u H => mW E q u.1 a_tape a_size a_fault a_faultPlace a_many a_lands a_evenings a_sights a_choirs f_reached f_length f_begins f_sort f_value f_word f_wrongAt f_laterFault f_laterPlace a_told a_read f_farHut f_farSinger f_good u.2.1 u.2.2.1 u.2.2.2.1 f_evening a_at a_knows a_climbed a_snow a_level f_begun f_minute f_avalanches u.2.2.2.2 a_covers a_routes a_longest a_steep a_laid a_far f_sight a_runs f_choir f_voices a_rest a_wins f_seed a_other a_kept H) (mA q)) args s 0 0 (mA q)) (F0 m 58 ls []))
    (hl : lv_has ls 8 [(0, .ref q), (2, .int x2), (3, .int x3), (4, .int x4), (5, .int x5), (6, .int x6)])
    (hw : q_m_flood_110 P58 f_code a_many a_lands f_land f_huts f_singers a_run x2 x3 x4 x5 x6 post) :
    W p l e rm_m_flood s m args below meth c H locs 0 0 (MQ below (zQi (S := (Int32) × (Int32) × (Int32) × (Int32) × (Nat → Int32)) (fun r u => post r u.1 u.2.1 u.2.2.1 u.2.2.2.1 u.2.2.2.2) (fun u H => mW E q u.1 a_tape a_size a_fault a_faultPlace a_many a_lands a_evenings a_sights a_choirs f_reached f_length f_begins f_sort f_value f_word f_wrongAt f_laterFault f_laterPlace a_told a_read f_farHut f_farSinger f_good u.2.1 u.2.2.1 u.2.2.2.1 f_evening a_at a_knows a_climbed a_snow a_level f_begun f_minute f_avalanches u.2.2.2.2 a_covers a_routes a_longest a_steep a_laid a_far f_sight a_runs f_choir f_voices a_rest a_wins f_seed a_other a_kept H) (mA q)) args s 0 0 (mA q)) (F0 m 110 ls []) := by
  have hx := zc.1
  have hb := zc.2.1
  refine lv_iconst (v := (0 : Int32)) hx hb dX11_flood_110 (by decide) ?_
  exact t_m_flood_111 zc hK hM hS hP58 (lv_sub hl [0, 1, 2, 3, 4, 5] rfl) hw
set_option maxRecDepth 20000 in
theorem t_m_flood_163 {p : Program} {l : Launch} {e : Env} {s : State} {m : MethodId} {args : Array Value} {below : List Frame} {meth : Method} {c : Code} {E : zE} {q : Nat} {f_code : Int32} {a_tape : Nat → Int32} {a_size : Nat → Int32} {a_fault : Nat → Int32} {a_faultPlace : Nat → Int32} {a_many : Nat → Int32} {a_lands : Nat → Int32} {a_evenings : Nat → Int32} {a_sights : Nat → Int32} {a_choirs : Nat → Int32} {f_reached : Int32} {f_length : Int32} {f_begins : Int32} {f_sort : Int32} {f_value : Int32} {f_word : Int64} {f_wrongAt : Int32} {f_laterFault : Int32} {f_laterPlace : Int32} {a_told : Nat → Int32} {a_read : Nat → Int32} {f_farHut : Int32} {f_farSinger : Int32} {f_good : Int32} {f_land : Int32} {f_huts : Int32} {f_singers : Int32} {f_evening : Int32} {a_at : Nat → Int32} {a_knows : Nat → Int32} {a_climbed : Nat → Int32} {a_snow : Nat → Int32} {a_level : Nat → Int32} {f_begun : Int32} {f_minute : Int32} {f_avalanches : Int32} {a_run : Nat → Int32} {a_covers : Nat → Int32} {a_routes : Nat → Int32} {a_longest : Nat → Int32} {a_steep : Nat → Int32} {a_laid : Nat → Int32} {a_far : Nat → Int32} {f_sight : Int32} {a_runs : Nat → Int32} {f_choir : Int32} {f_voices : Int32} {a_rest : Nat → Int64} {a_wins : Nat → Int32} {f_seed : Int32} {a_other : Nat → Int32} {a_kept : Nat → Int32} {post : Int32 → (Int32) → (Int32) → (Int32) → (Int32) → (Nat → Int32) → Prop} {x5 : Int32} {ls : Array Slot} {H : Heap} {locs : List Loc}
    (zc : zC p s m args meth c cX11_flood 8 RX11 (some .int))
    (hK : zK E s)
    (hM : mW E q f_code a_tape a_size a_fault a_faultPlace a_many a_lands a_evenings a_sights a_choirs f_reached f_length f_begins f_sort f_value f_word f_wrongAt f_laterFault f_laterPlace a_told a_read f_farHut f_farSinger f_good f_land f_huts f_singers f_evening a_at a_knows a_climbed a_snow a_level f_begun f_minute f_avalanches a_run a_covers a_routes a_longest a_steep a_laid a_far f_sight a_runs f_choir f_voices a_rest a_wins f_seed a_other a_kept H)
    (hS : va_S (mA q) s.heap H locs)
    (hl : lv_has ls 8 [(5, .int x5)])
    (hw : q_m_flood_163 f_code a_many a_lands f_land f_huts f_singers a_run x5 post) :
    W p l e rm_m_flood s m args below meth c H locs 0 0 (MQ below (zQi (S := (Int32) × (Int32) × (Int32) × (Int32) × (Nat → Int32)) (fun r u => post r u.1 u.2.1 u.2.2.1 u.2.2.2.1 u.2.2.2.2) (fun u H => mW E q u.1 a_tape a_size a_fault a_faultPlace a_many a_lands a_evenings a_sights a_choirs f_reached f_length f_begins f_sort f_value f_word f_wrongAt f_laterFault f_laterPlace a_told a_read f_farHut f_farSinger f_good u.2.1 u.2.2.1 u.2.2.2.1 f_evening a_at a_knows a_climbed a_snow a_level f_begun f_minute f_avalanches u.2.2.2.2 a_covers a_routes a_longest a_steep a_laid a_far f_sight a_runs f_choir f_voices a_rest a_wins f_seed a_other a_kept H) (mA q)) args s 0 0 (mA q)) (F0 m 163 ls []) := by
  have hx := zc.1
  have hb := zc.2.1
  refine lv_iload hx hb dX11_flood_163 (lv_at hl 0 rfl) ?_
  refine lv_goto (tgt := 173) hx hb dX11_flood_165 (by decide) ?_
  exact zret_iw ⟨f_code, f_land, f_huts, f_singers, a_run⟩ zc hS hw hM dX11_flood_173
set_option maxRecDepth 20000 in
theorem t_m_flood_58 {p : Program} {l : Launch} {e : Env} {s : State} {m : MethodId} {args : Array Value} {below : List Frame} {meth : Method} {c : Code} {E : zE} {q : Nat} {f_code : Int32} {a_tape : Nat → Int32} {a_size : Nat → Int32} {a_fault : Nat → Int32} {a_faultPlace : Nat → Int32} {a_many : Nat → Int32} {a_lands : Nat → Int32} {a_evenings : Nat → Int32} {a_sights : Nat → Int32} {a_choirs : Nat → Int32} {f_reached : Int32} {f_length : Int32} {f_begins : Int32} {f_sort : Int32} {f_value : Int32} {f_word : Int64} {f_wrongAt : Int32} {f_laterFault : Int32} {f_laterPlace : Int32} {a_told : Nat → Int32} {a_read : Nat → Int32} {f_farHut : Int32} {f_farSinger : Int32} {f_good : Int32} {f_land : Int32} {f_huts : Int32} {f_singers : Int32} {f_evening : Int32} {a_at : Nat → Int32} {a_knows : Nat → Int32} {a_climbed : Nat → Int32} {a_snow : Nat → Int32} {a_level : Nat → Int32} {f_begun : Int32} {f_minute : Int32} {f_avalanches : Int32} {a_run : Nat → Int32} {a_covers : Nat → Int32} {a_routes : Nat → Int32} {a_longest : Nat → Int32} {a_steep : Nat → Int32} {a_laid : Nat → Int32} {a_far : Nat → Int32} {f_sight : Int32} {a_runs : Nat → Int32} {f_choir : Int32} {f_voices : Int32} {a_rest : Nat → Int64} {a_wins : Nat → Int32} {f_seed : Int32} {a_other : Nat → Int32} {a_kept : Nat → Int32} {post : Int32 → (Int32) → (Int32) → (Int32) → (Int32) → (Nat → Int32) → Prop} {x2 : Int32} {x3 : Int32} {x4 : Int32} {x5 : Int32} {x6 : Int32} {ls : Array Slot} {H : Heap} {locs : List Loc}
    (zc : zC p s m args meth c cX11_flood 8 RX11 (some .int))
    (hK : zK E s)
    (hM : mW E q f_code a_tape a_size a_fault a_faultPlace a_many a_lands a_evenings a_sights a_choirs f_reached f_length f_begins f_sort f_value f_word f_wrongAt f_laterFault f_laterPlace a_told a_read f_farHut f_farSinger f_good f_land f_huts f_singers f_evening a_at a_knows a_climbed a_snow a_level f_begun f_minute f_avalanches a_run a_covers a_routes a_longest a_steep a_laid a_far f_sight a_runs f_choir f_voices a_rest a_wins f_seed a_other a_kept H)
    (hS : va_S (mA q) s.heap H locs)
    (hl : lv_has ls 8 [(0, .ref q), (2, .int x2), (3, .int x3), (4, .int x4), (5, .int x5), (6, .int x6)])
    (hw : q_m_flood_58 f_code a_many a_lands f_land f_huts f_singers a_run x2 x3 x4 x5 x6 post) :
    W p l e rm_m_flood s m args below meth c H locs 0 0 (MQ below (zQi (S := (Int32) × (Int32) × (Int32) × (Int32) × (Nat → Int32)) (fun r u => post r u.1 u.2.1 u.2.2.1 u.2.2.2.1 u.2.2.2.2) (fun u H => mW E q u.1 a_tape a_size a_fault a_faultPlace a_many a_lands a_evenings a_sights a_choirs f_reached f_length f_begins f_sort f_value f_word f_wrongAt f_laterFault f_laterPlace a_told a_read f_farHut f_farSinger f_good u.2.1 u.2.2.1 u.2.2.2.1 f_evening a_at a_knows a_climbed a_snow a_level f_begun f_minute f_avalanches u.2.2.2.2 a_covers a_routes a_longest a_steep a_laid a_far f_sight a_runs f_choir f_voices a_rest a_wins f_seed a_other a_kept H) (mA q)) args s 0 0 (mA q)) (F0 m 58 ls []) := by
  have hx := zc.1
  have hb := zc.2.1
  refine hw (fun x5 x6 a_run => ∀ (H : Heap) (locs : List Loc) (ls : Array Slot), lv_has ls 8 [(0, .ref q), (2, .int x2), (3, .int x3), (4, .int x4), (5, .int x5), (6, .int x6)] → mW E q f_code a_tape a_size a_fault a_faultPlace a_many a_lands a_evenings a_sights a_choirs f_reached f_length f_begins f_sort f_value f_word f_wrongAt f_laterFault f_laterPlace a_told a_read f_farHut f_farSinger f_good f_land f_huts f_singers f_evening a_at a_knows a_climbed a_snow a_level f_begun f_minute f_avalanches a_run a_covers a_routes a_longest a_steep a_laid a_far f_sight a_runs f_choir f_voices a_rest a_wins f_seed a_other a_kept H → va_S (mA q) s.heap H locs → W p l e rm_m_flood s m args below meth c H locs 0 0 (MQ below (zQi (S := (Int32) × (Int32) × (Int32) × (Int32) × (Nat → Int32)) (fun r u => post r u.1 u.2.1 u.2.2.1 u.2.2.2.1 u.2.2.2.2) (fun u H => mW E q u.1 a_tape a_size a_fault a_faultPlace a_many a_lands a_evenings a_sights a_choirs f_reached f_length f_begins f_sort f_value f_word f_wrongAt f_laterFault f_laterPlace a_told a_read f_farHut f_farSinger f_good u.2.1 u.2.2.1 u.2.2.2.1 f_evening a_at a_knows a_climbed a_snow a_level f_begun f_minute f_avalanches u.2.2.2.2 a_covers a_routes a_longest a_steep a_laid a_far f_sight a_runs f_choir f_voices a_rest a_wins f_seed a_other a_kept H) (mA q)) args s 0 0 (mA q)) (F0 m 58 ls [])) ?_ _ _ _ hl hM hS
  intro x5 x6 a_run hw H locs ls hl hM hS
  refine lv_iload hx hb dX11_flood_58 (lv_at hl 5 rfl) ?_
  refine lv_iconst (v := (1 : Int32)) hx hb dX11_flood_60 (by decide) ?_
  refine lv_aload_n hx hb dX11_flood_61 rfl (lv_at hl 0 rfl) ?_
  refine mg_11_307_0 zc hK hM dX11_flood_62 ?_
  refine lv_ishl hx hb dX11_flood_65 ?_
  refine lv_icmp_ge (tgt := 152) hx hb dX11_flood_66 (by decide) (fun hc => ?_) (fun hc => ?_)
  · have hw := hw.1 hc
    refine lv_iload hx hb dX11_flood_152 (lv_at hl 4 rfl) ?_
    refine lv_iconst (v := (-1 : Int32)) hx hb dX11_flood_154 (by decide) ?_
    refine lv_icmp_eq (tgt := 163) hx hb dX11_flood_155 (by decide) (fun hc => ?_) (fun hc => ?_)
    · have hw := hw.1 hc
      exact t_m_flood_163 zc hK hM hS  (lv_sub hl [4] rfl) hw
    · have hw := hw.2 hc
      refine lv_iload hx hb dX11_flood_158 (lv_at hl 3 rfl) ?_
      refine lv_if_eq (tgt := 168) hx hb dX11_flood_160 (by decide) (fun hc => ?_) (fun hc => ?_)
      · have hw := hw.1 hc
        refine lv_iload hx hb dX11_flood_168 (lv_at hl 4 rfl) ?_
        refine zS_i [.int x5] [] zc ky_X11_ones kz_X11_ones km_11_429 (c_m_ones l hw) (zPre0 _) rfl rfl hl.1 (Nat.le_of_ble_eq_true rfl) ⟨rfl, rfl⟩ ⟨Nat.le_of_ble_eq_true rfl, Nat.le_of_ble_eq_true rfl⟩ ⟨(Nat.zero_le _), (Nat.zero_le _)⟩ dX11_flood_170 (fun r_1 hw => ?_)
        exact zret_iw ⟨f_code, f_land, f_huts, f_singers, a_run⟩ zc hS hw hM dX11_flood_173
      · have hw := hw.2 hc
        exact t_m_flood_163 zc hK hM hS  (lv_sub hl [4] rfl) hw
  · have hw := hw.2 hc
    refine lv_aload_n hx hb dX11_flood_69 rfl (lv_at hl 0 rfl) ?_
    refine lv_iload_n hx hb dX11_flood_70 rfl (lv_at hl 1 rfl) ?_
    refine lv_iload hx hb dX11_flood_71 (lv_at hl 5 rfl) ?_
    refine zVw_v [.int x2, .int x6] [] zc ky_X11_findRun kz_X11_findRun km_11_414 (c_m_findRun l hw) (mPreV0 hK hM) hS rfl rfl hl.1 (Nat.le_of_ble_eq_true rfl) ⟨rfl, rfl⟩ ⟨Nat.le_of_ble_eq_true rfl, Nat.le_of_ble_eq_true rfl⟩ ⟨(Nat.zero_le _), (Nat.zero_le _)⟩ dX11_flood_73 (fun a_run_1 H locs hw hM hS => ?_)
    refine lv_iload hx hb dX11_flood_76 (lv_at hl 5 rfl) ?_
    refine lv_iload_n hx hb dX11_flood_78 rfl (lv_at hl 1 rfl) ?_
    refine zS_i [.int x6, .int x2] [] zc ky_X11_has kz_X11_has km_11_101 (c_m_has l hw) (zPre0 _) rfl rfl hl.1 (Nat.le_of_ble_eq_true rfl) ⟨rfl, rfl⟩ ⟨Nat.le_of_ble_eq_true rfl, Nat.le_of_ble_eq_true rfl⟩ ⟨(Nat.zero_le _), (Nat.zero_le _)⟩ dX11_flood_79 (fun r_2 hw => ?_)
    refine lv_if_ne (tgt := 110) hx hb dX11_flood_82 (by decide) (fun hc => ?_) (fun hc => ?_)
    · have hw := hw.1 hc
      exact t_m_flood_110 zc hK hM hS (fun _ _ _ H locs ls h hl hM hS => h H locs ls hl hM hS) (lv_sub hl [0, 1, 2, 3, 4, 5] rfl) hw
    · have hw := hw.2 hc
      refine lv_iload hx hb dX11_flood_85 (lv_at hl 5 rfl) ?_
      refine lv_iload_n hx hb dX11_flood_87 rfl (lv_at hl 2 rfl) ?_
      refine zS_i [.int x6, .int x3] [] zc ky_X11_has kz_X11_has km_11_101 (c_m_has l hw) (zPre0 _) rfl rfl hl.1 (Nat.le_of_ble_eq_true rfl) ⟨rfl, rfl⟩ ⟨Nat.le_of_ble_eq_true rfl, Nat.le_of_ble_eq_true rfl⟩ ⟨(Nat.zero_le _), (Nat.zero_le _)⟩ dX11_flood_88 (fun r_3 hw => ?_)
      refine lv_if_ne (tgt := 110) hx hb dX11_flood_91 (by decide) (fun hc => ?_) (fun hc => ?_)
      · have hw := hw.1 hc
        exact t_m_flood_110 zc hK hM hS (fun _ _ _ H locs ls h hl hM hS => h H locs ls hl hM hS) (lv_sub hl [0, 1, 2, 3, 4, 5] rfl) hw
      · have hw := hw.2 hc
        refine lv_aload_n hx hb dX11_flood_94 rfl (lv_at hl 0 rfl) ?_
        refine mg_11_59_0 zc hK hM dX11_flood_95 ?_
        refine lv_iload_n hx hb dX11_flood_98 rfl (lv_at hl 2 rfl) ?_
        refine mld_17 zc hK hM hw.1 dX11_flood_99 ?_
        have hw := hw.2
        refine lv_ldcw (v := (1000000 : Int32)) hx hb zc.2.2.2.1 (zc.2.2.2.2.1 _ kc_11_410) dX11_flood_100 ?_
        refine lv_icmp_lt (tgt := 110) hx hb dX11_flood_103 (by decide) (fun hc => ?_) (fun hc => ?_)
        · have hw := hw.1 hc
          exact t_m_flood_110 zc hK hM hS (fun _ _ _ H locs ls h hl hM hS => h H locs ls hl hM hS) (lv_sub hl [0, 1, 2, 3, 4, 5] rfl) hw
        · have hw := hw.2 hc
          refine lv_iconst (v := (1 : Int32)) hx hb dX11_flood_106 (by decide) ?_
          refine lv_goto (tgt := 111) hx hb dX11_flood_107 (by decide) ?_
          exact t_m_flood_111 zc hK hM hS (fun _ _ _ H locs ls h hl hM hS => h H locs ls hl hM hS) (lv_sub hl [0, 1, 2, 3, 4, 5] rfl) hw
set_option maxRecDepth 20000 in
theorem t_m_flood_0 {p : Program} {l : Launch} {e : Env} {s : State} {m : MethodId} {args : Array Value} {below : List Frame} {meth : Method} {c : Code} {E : zE} {q : Nat} {f_code : Int32} {a_tape : Nat → Int32} {a_size : Nat → Int32} {a_fault : Nat → Int32} {a_faultPlace : Nat → Int32} {a_many : Nat → Int32} {a_lands : Nat → Int32} {a_evenings : Nat → Int32} {a_sights : Nat → Int32} {a_choirs : Nat → Int32} {f_reached : Int32} {f_length : Int32} {f_begins : Int32} {f_sort : Int32} {f_value : Int32} {f_word : Int64} {f_wrongAt : Int32} {f_laterFault : Int32} {f_laterPlace : Int32} {a_told : Nat → Int32} {a_read : Nat → Int32} {f_farHut : Int32} {f_farSinger : Int32} {f_good : Int32} {f_land : Int32} {f_huts : Int32} {f_singers : Int32} {f_evening : Int32} {a_at : Nat → Int32} {a_knows : Nat → Int32} {a_climbed : Nat → Int32} {a_snow : Nat → Int32} {a_level : Nat → Int32} {f_begun : Int32} {f_minute : Int32} {f_avalanches : Int32} {a_run : Nat → Int32} {a_covers : Nat → Int32} {a_routes : Nat → Int32} {a_longest : Nat → Int32} {a_steep : Nat → Int32} {a_laid : Nat → Int32} {a_far : Nat → Int32} {f_sight : Int32} {a_runs : Nat → Int32} {f_choir : Int32} {f_voices : Int32} {a_rest : Nat → Int64} {a_wins : Nat → Int32} {f_seed : Int32} {a_other : Nat → Int32} {a_kept : Nat → Int32} {post : Int32 → (Int32) → (Int32) → (Int32) → (Int32) → (Nat → Int32) → Prop} {x1 : Int32} {x2 : Int32} {x3 : Int32} {x4 : Int32} {ls : Array Slot} {H : Heap} {locs : List Loc}
    (zc : zC p s m args meth c cX11_flood 8 RX11 (some .int))
    (hK : zK E s)
    (hM : mW E q f_code a_tape a_size a_fault a_faultPlace a_many a_lands a_evenings a_sights a_choirs f_reached f_length f_begins f_sort f_value f_word f_wrongAt f_laterFault f_laterPlace a_told a_read f_farHut f_farSinger f_good f_land f_huts f_singers f_evening a_at a_knows a_climbed a_snow a_level f_begun f_minute f_avalanches a_run a_covers a_routes a_longest a_steep a_laid a_far f_sight a_runs f_choir f_voices a_rest a_wins f_seed a_other a_kept H)
    (hS : va_S (mA q) s.heap H locs)
    (hl : lv_has ls 8 [(0, .ref q), (1, .int x1), (2, .int x2), (3, .int x3), (4, .int x4)])
    (hw : q_m_flood_0 f_code a_many a_lands f_land f_huts f_singers a_run x1 x2 x3 x4 post) :
    W p l e rm_m_flood s m args below meth c H locs 0 0 (MQ below (zQi (S := (Int32) × (Int32) × (Int32) × (Int32) × (Nat → Int32)) (fun r u => post r u.1 u.2.1 u.2.2.1 u.2.2.2.1 u.2.2.2.2) (fun u H => mW E q u.1 a_tape a_size a_fault a_faultPlace a_many a_lands a_evenings a_sights a_choirs f_reached f_length f_begins f_sort f_value f_word f_wrongAt f_laterFault f_laterPlace a_told a_read f_farHut f_farSinger f_good u.2.1 u.2.2.1 u.2.2.2.1 f_evening a_at a_knows a_climbed a_snow a_level f_begun f_minute f_avalanches u.2.2.2.2 a_covers a_routes a_longest a_steep a_laid a_far f_sight a_runs f_choir f_voices a_rest a_wins f_seed a_other a_kept H) (mA q)) args s 0 0 (mA q)) (F0 m 0 ls []) := by
  have hx := zc.1
  have hb := zc.2.1
  refine lv_aload_n hx hb dX11_flood_0 rfl (lv_at hl 0 rfl) ?_
  refine lv_iconst (v := (0 : Int32)) hx hb dX11_flood_1 (by decide) ?_
  refine mp_11_97_0 zc hK hM hS dX11_flood_2 (fun H locs hM hS => ?_)
  refine lv_aload_n hx hb dX11_flood_5 rfl (lv_at hl 0 rfl) ?_
  refine lv_iload_n hx hb dX11_flood_6 rfl (lv_at hl 1 rfl) ?_
  refine zVw_i [.int x1] [] zc ky_X11_hand kz_X11_hand km_11_313 (c_m_hand l hw) (mPreV0 hK hM) hS rfl rfl hl.1 (Nat.le_of_ble_eq_true rfl) ⟨rfl, rfl⟩ ⟨Nat.le_of_ble_eq_true rfl, Nat.le_of_ble_eq_true rfl⟩ ⟨(Nat.zero_le _), (Nat.zero_le _)⟩ dX11_flood_7 (fun r_1 u H locs hw hM hS => ?_)
  obtain ⟨f_land_1, f_huts_1, f_singers_1⟩ := u
  refine lv_if_eq (tgt := 50) hx hb dX11_flood_10 (by decide) (fun hc => ?_) (fun hc => ?_)
  · have hw := hw.1 hc
    refine lv_iconst (v := (-1 : Int32)) hx hb dX11_flood_50 (by decide) ?_
    exact zret_iw ⟨(0 : Int32), f_land_1, f_huts_1, f_singers_1, a_run⟩ zc hS hw hM dX11_flood_51
  · have hw := hw.2 hc
    refine lv_aload_n hx hb dX11_flood_13 rfl (lv_at hl 0 rfl) ?_
    refine lv_iload_n hx hb dX11_flood_14 rfl (lv_at hl 2 rfl) ?_
    refine zV_i [.int x2] [] zc ky_X11_isHut kz_X11_isHut km_11_316 (c_m_isHut l hw) (mPreV0 hK hM) rfl rfl hl.1 (Nat.le_of_ble_eq_true rfl) ⟨rfl, rfl⟩ ⟨Nat.le_of_ble_eq_true rfl, Nat.le_of_ble_eq_true rfl⟩ ⟨(Nat.zero_le _), (Nat.zero_le _)⟩ dX11_flood_15 (fun r_2 hw => ?_)
    refine lv_if_eq (tgt := 50) hx hb dX11_flood_18 (by decide) (fun hc => ?_) (fun hc => ?_)
    · have hw := hw.1 hc
      refine lv_iconst (v := (-1 : Int32)) hx hb dX11_flood_50 (by decide) ?_
      exact zret_iw ⟨(0 : Int32), f_land_1, f_huts_1, f_singers_1, a_run⟩ zc hS hw hM dX11_flood_51
    · have hw := hw.2 hc
      refine lv_aload_n hx hb dX11_flood_21 rfl (lv_at hl 0 rfl) ?_
      refine lv_iload_n hx hb dX11_flood_22 rfl (lv_at hl 3 rfl) ?_
      refine zV_i [.int x3] [] zc ky_X11_isHut kz_X11_isHut km_11_316 (c_m_isHut l hw) (mPreV0 hK hM) rfl rfl hl.1 (Nat.le_of_ble_eq_true rfl) ⟨rfl, rfl⟩ ⟨Nat.le_of_ble_eq_true rfl, Nat.le_of_ble_eq_true rfl⟩ ⟨(Nat.zero_le _), (Nat.zero_le _)⟩ dX11_flood_23 (fun r_3 hw => ?_)
      refine lv_if_eq (tgt := 50) hx hb dX11_flood_26 (by decide) (fun hc => ?_) (fun hc => ?_)
      · have hw := hw.1 hc
        refine lv_iconst (v := (-1 : Int32)) hx hb dX11_flood_50 (by decide) ?_
        exact zret_iw ⟨(0 : Int32), f_land_1, f_huts_1, f_singers_1, a_run⟩ zc hS hw hM dX11_flood_51
      · have hw := hw.2 hc
        refine lv_iload_n hx hb dX11_flood_29 rfl (lv_at hl 2 rfl) ?_
        refine lv_iload_n hx hb dX11_flood_30 rfl (lv_at hl 3 rfl) ?_
        refine lv_icmp_eq (tgt := 50) hx hb dX11_flood_31 (by decide) (fun hc => ?_) (fun hc => ?_)
        · have hw := hw.1 hc
          refine lv_iconst (v := (-1 : Int32)) hx hb dX11_flood_50 (by decide) ?_
          exact zret_iw ⟨(0 : Int32), f_land_1, f_huts_1, f_singers_1, a_run⟩ zc hS hw hM dX11_flood_51
        · have hw := hw.2 hc
          refine lv_aload_n hx hb dX11_flood_34 rfl (lv_at hl 0 rfl) ?_
          refine lv_iload_n hx hb dX11_flood_35 rfl (lv_at hl 2 rfl) ?_
          refine zV_i [.int x2] [] zc ky_X11_isDam kz_X11_isDam km_11_355 (c_m_isDam l hw) (mPreV0 hK hM) rfl rfl hl.1 (Nat.le_of_ble_eq_true rfl) ⟨rfl, rfl⟩ ⟨Nat.le_of_ble_eq_true rfl, Nat.le_of_ble_eq_true rfl⟩ ⟨(Nat.zero_le _), (Nat.zero_le _)⟩ dX11_flood_36 (fun r_4 hw => ?_)
          refine lv_if_ne (tgt := 50) hx hb dX11_flood_39 (by decide) (fun hc => ?_) (fun hc => ?_)
          · have hw := hw.1 hc
            refine lv_iconst (v := (-1 : Int32)) hx hb dX11_flood_50 (by decide) ?_
            exact zret_iw ⟨(0 : Int32), f_land_1, f_huts_1, f_singers_1, a_run⟩ zc hS hw hM dX11_flood_51
          · have hw := hw.2 hc
            refine lv_aload_n hx hb dX11_flood_42 rfl (lv_at hl 0 rfl) ?_
            refine lv_iload_n hx hb dX11_flood_43 rfl (lv_at hl 3 rfl) ?_
            refine zV_i [.int x3] [] zc ky_X11_isDam kz_X11_isDam km_11_355 (c_m_isDam l hw) (mPreV0 hK hM) rfl rfl hl.1 (Nat.le_of_ble_eq_true rfl) ⟨rfl, rfl⟩ ⟨Nat.le_of_ble_eq_true rfl, Nat.le_of_ble_eq_true rfl⟩ ⟨(Nat.zero_le _), (Nat.zero_le _)⟩ dX11_flood_44 (fun r_5 hw => ?_)
            refine lv_if_eq (tgt := 52) hx hb dX11_flood_47 (by decide) (fun hc => ?_) (fun hc => ?_)
            · have hw := hw.1 hc
              refine lv_iconst (v := (-1 : Int32)) hx hb dX11_flood_52 (by decide) ?_
              refine lv_istore (lv' := [(5, .int (-1 : Int32)), (0, .ref q), (1, .int x1), (2, .int x2), (3, .int x3), (4, .int x4)]) hx hb dX11_flood_53 hl (by decide) rfl (fun ls hl => ?_)
              refine lv_iconst (v := (0 : Int32)) hx hb dX11_flood_55 (by decide) ?_
              refine lv_istore (lv' := [(6, .int (0 : Int32)), (5, .int (-1 : Int32)), (0, .ref q), (1, .int x1), (2, .int x2), (3, .int x3), (4, .int x4)]) hx hb dX11_flood_56 hl (by decide) rfl (fun ls hl => ?_)
              exact t_m_flood_58 zc hK hM hS  (lv_sub hl [2, 4, 5, 6, 1, 0] rfl) hw
            · have hw := hw.2 hc
              refine lv_iconst (v := (-1 : Int32)) hx hb dX11_flood_50 (by decide) ?_
              exact zret_iw ⟨(0 : Int32), f_land_1, f_huts_1, f_singers_1, a_run⟩ zc hS hw hM dX11_flood_51
set_option maxRecDepth 20000 in
theorem c_m_flood (l : Launch) {E : zE} {q : Nat} {f_code : Int32} {a_tape : Nat → Int32} {a_size : Nat → Int32} {a_fault : Nat → Int32} {a_faultPlace : Nat → Int32} {a_many : Nat → Int32} {a_lands : Nat → Int32} {a_evenings : Nat → Int32} {a_sights : Nat → Int32} {a_choirs : Nat → Int32} {f_reached : Int32} {f_length : Int32} {f_begins : Int32} {f_sort : Int32} {f_value : Int32} {f_word : Int64} {f_wrongAt : Int32} {f_laterFault : Int32} {f_laterPlace : Int32} {a_told : Nat → Int32} {a_read : Nat → Int32} {f_farHut : Int32} {f_farSinger : Int32} {f_good : Int32} {f_land : Int32} {f_huts : Int32} {f_singers : Int32} {f_evening : Int32} {a_at : Nat → Int32} {a_knows : Nat → Int32} {a_climbed : Nat → Int32} {a_snow : Nat → Int32} {a_level : Nat → Int32} {f_begun : Int32} {f_minute : Int32} {f_avalanches : Int32} {a_run : Nat → Int32} {a_covers : Nat → Int32} {a_routes : Nat → Int32} {a_longest : Nat → Int32} {a_steep : Nat → Int32} {a_laid : Nat → Int32} {a_far : Nat → Int32} {f_sight : Int32} {a_runs : Nat → Int32} {f_choir : Int32} {f_voices : Int32} {a_rest : Nat → Int64} {a_wins : Nat → Int32} {f_seed : Int32} {a_other : Nat → Int32} {a_kept : Nat → Int32} {x1 : Int32} {x2 : Int32} {x3 : Int32} {x4 : Int32} {post : Int32 → (Int32) → (Int32) → (Int32) → (Int32) → (Nat → Int32) → Prop} (hw : q_m_flood_0 f_code a_many a_lands f_land f_huts f_singers a_run x1 x2 x3 x4 post) : Met l yX11_flood (Cond.code yX11_flood cX11_flood 8 (some .int) :: zb) rm_m_flood (va_Pc [.ref q, .int x1, .int x2, .int x3, .int x4] (fun U => mW E q f_code a_tape a_size a_fault a_faultPlace a_many a_lands a_evenings a_sights a_choirs f_reached f_length f_begins f_sort f_value f_word f_wrongAt f_laterFault f_laterPlace a_told a_read f_farHut f_farSinger f_good f_land f_huts f_singers f_evening a_at a_knows a_climbed a_snow a_level f_begun f_minute f_avalanches a_run a_covers a_routes a_longest a_steep a_laid a_far f_sight a_runs f_choir f_voices a_rest a_wins f_seed a_other a_kept U.heap ∧ zK E U)) (zQi (S := (Int32) × (Int32) × (Int32) × (Int32) × (Nat → Int32)) (fun r u => post r u.1 u.2.1 u.2.2.1 u.2.2.2.1 u.2.2.2.2) (fun u H => mW E q u.1 a_tape a_size a_fault a_faultPlace a_many a_lands a_evenings a_sights a_choirs f_reached f_length f_begins f_sort f_value f_word f_wrongAt f_laterFault f_laterPlace a_told a_read f_farHut f_farSinger f_good u.2.1 u.2.2.1 u.2.2.2.1 f_evening a_at a_knows a_climbed a_snow a_level f_begun f_minute f_avalanches u.2.2.2.2 a_covers a_routes a_longest a_steep a_laid a_far f_sight a_runs f_choir f_voices a_rest a_wins f_seed a_other a_kept H) (mA q)) 0 0 (mA q) := by
  refine Met.ofW (cc := cX11_flood) (maxL := 8) (ret := (some .int)) (by decide) rfl ?_
  intro p e s m args below meth c s₁ B hml hv
  obtain ⟨rfl, hM, hK⟩ := hv
  have zc := zc_of B hml
  have hl := lv_entry ([.ref q, .int x1, .int x2, .int x3, .int x4]) (n := 8) (Nat.le_of_ble_eq_true rfl)
  rw [lg_entry_eq]
  generalize (lg_sl ([.ref q, .int x1, .int x2, .int x3, .int x4]) ++ List.replicate (8 - (lg_sl ([.ref q, .int x1, .int x2, .int x3, .int x4])).length) Slot.unset).toArray = ls at hl ⊢
  have hl : lv_has ls 8 [(0, .ref q), (1, .int x1), (2, .int x2), (3, .int x3), (4, .int x4)] := hl
  exact t_m_flood_0 zc hK hM va_S.rf (lv_sub hl [0, 1, 2, 3, 4] rfl) hw
-- m_taught
abbrev rm_m_taught : Room := { frames := 3, cells := 0, slots := 0, locals := 63 }
def q_m_taught_65 (P33 : Int32 → Int32 → Prop) (a_lands : Nat → Int32) (f_land : Int32) (f_singers : Int32) (a_at : Nat → Int32) (a_knows : Nat → Int32) (a_climbed : Nat → Int32) (a_level : Nat → Int32) (f_begun : Int32) (x2 : Int32) (x4 : Int32) (x5 : Int32) (x6 : Int32) (y0 : Int32) (y1 : Int32) (post : Int32 → Prop) : Prop :=
  ∀ v_1 : Int32, v_1 = (y0 ||| y1) → (∀ v_2 : Int32, v_2 = x6 + (1 : Int32) → (P33 v_1 v_2))
def q_m_taught_131 (P73 : Int32 → Int32 → Int32 → Prop) (P84 : Int32 → Int32 → Prop) (a_lands : Nat → Int32) (f_land : Int32) (f_singers : Int32) (a_at : Nat → Int32) (a_knows : Nat → Int32) (a_climbed : Nat → Int32) (a_level : Nat → Int32) (f_begun : Int32) (x3 : Int32) (x4 : Int32) (x5 : Int32) (x7 : Int32) (y0 : Int32) (post : Int32 → Prop) : Prop :=
  ∀ v_1 : Int32, v_1 = x7 + (1 : Int32) → (P84 y0 v_1)
def q_m_taught_124 (P73 : Int32 → Int32 → Int32 → Prop) (P84 : Int32 → Int32 → Prop) (a_lands : Nat → Int32) (f_land : Int32) (f_singers : Int32) (a_at : Nat → Int32) (a_knows : Nat → Int32) (a_climbed : Nat → Int32) (a_level : Nat → Int32) (f_begun : Int32) (x3 : Int32) (x4 : Int32) (x5 : Int32) (x7 : Int32) (post : Int32 → Prop) : Prop :=
  q_m_taught_131 P73 P84 a_lands f_land f_singers a_at a_knows a_climbed a_level f_begun x3 x4 x5 x7 x7 post
def q_m_taught_129 (P73 : Int32 → Int32 → Int32 → Prop) (P84 : Int32 → Int32 → Prop) (a_lands : Nat → Int32) (f_land : Int32) (f_singers : Int32) (a_at : Nat → Int32) (a_knows : Nat → Int32) (a_climbed : Nat → Int32) (a_level : Nat → Int32) (f_begun : Int32) (x3 : Int32) (x4 : Int32) (x5 : Int32) (x6 : Int32) (x7 : Int32) (post : Int32 → Prop) : Prop :=
  q_m_taught_131 P73 P84 a_lands f_land f_singers a_at a_knows a_climbed a_level f_begun x3 x4 x5 x7 x6 post
def q_m_taught_243 (P73 : Int32 → Int32 → Int32 → Prop) (P210 : Int32 → Int32 → Prop) (a_lands : Nat → Int32) (f_land : Int32) (f_singers : Int32) (a_at : Nat → Int32) (a_knows : Nat → Int32) (a_climbed : Nat → Int32) (a_level : Nat → Int32) (f_begun : Int32) (x4 : Int32) (x5 : Int32) (x7 : Int32) (x8 : Int32) (y0 : Int32) (y1 : Int32) (post : Int32 → Prop) : Prop :=
  ∀ v_1 : Int32, v_1 = (y0 ||| y1) → (∀ v_2 : Int32, v_2 = x8 + (1 : Int32) → (P210 v_1 v_2))
def q_m_taught_210 (P73 : Int32 → Int32 → Int32 → Prop) (a_lands : Nat → Int32) (f_land : Int32) (f_singers : Int32) (a_at : Nat → Int32) (a_knows : Nat → Int32) (a_climbed : Nat → Int32) (a_level : Nat → Int32) (f_begun : Int32) (x3 : Int32) (x4 : Int32) (x5 : Int32) (x7 : Int32) (x8 : Int32) (post : Int32 → Prop) : Prop :=
  ∀ P210 : Int32 → Int32 → Prop, (∀ (x3 : Int32) (x8 : Int32), ((f_singers ≤ x8 → (P73 x3 x4 x5)) ∧ (¬ f_singers ≤ x8 → (vp_in x8 6 ∧ (q_m_has_0 x7 (a_at (Int32.toNatClampNeg x8)) (fun r_1 => (r_1 = 0 → (q_m_taught_243 P73 P210 a_lands f_land f_singers a_at a_knows a_climbed a_level f_begun x4 x5 x7 x8 x3 (0 : Int32) post)) ∧ (¬ r_1 = 0 → (q_m_taught_243 P73 P210 a_lands f_land f_singers a_at a_knows a_climbed a_level f_begun x4 x5 x7 x8 x3 ((1 : Int32) <<< (x8 &&& 31)) post))))))) → P210 x3 x8) → P210 x3 x8
def q_m_taught_84 (P73 : Int32 → Int32 → Int32 → Prop) (a_lands : Nat → Int32) (f_land : Int32) (f_singers : Int32) (a_at : Nat → Int32) (a_knows : Nat → Int32) (a_climbed : Nat → Int32) (a_level : Nat → Int32) (f_begun : Int32) (x3 : Int32) (x4 : Int32) (x5 : Int32) (x6 : Int32) (x7 : Int32) (post : Int32 → Prop) : Prop :=
  ∀ P84 : Int32 → Int32 → Prop, (∀ (x6 : Int32) (x7 : Int32), ((f_singers ≤ x7 → (q_m_has_0 x3 x6 (fun r_1 => (r_1 = 0 → (post (-1 : Int32))) ∧ (¬ r_1 = 0 → (q_m_high_0 a_lands f_land a_at a_climbed x6 (fun r_2 => (x4 ≤ r_2 → (post (-1 : Int32))) ∧ (¬ x4 ≤ r_2 → (vp_in x6 6 ∧ (q_m_isDam_0 a_lands f_land (a_at (Int32.toNatClampNeg x6)) (fun r_3 => (r_3 = 0 → (q_m_high_0 a_lands f_land a_at a_climbed x6 (fun r_4 => ∀ v_1 : Int32, v_1 = (x5 &&& (((1 : Int32) <<< (x6 &&& 31)) ^^^ (-1 : Int32))) → (vp_in x6 6 ∧ (q_m_hearing_0 a_lands f_land (a_at (Int32.toNatClampNeg x6)) (fun r_5 => q_m_taught_210 P73 a_lands f_land f_singers a_at a_knows a_climbed a_level f_begun x3 r_4 v_1 r_5 (0 : Int32) post)))))) ∧ (¬ r_3 = 0 → (post (-1 : Int32))))))))))))) ∧ (¬ f_singers ≤ x7 → (q_m_has_0 x5 x7 (fun r_6 => (r_6 = 0 → (q_m_taught_129 P73 P84 a_lands f_land f_singers a_at a_knows a_climbed a_level f_begun x3 x4 x5 x6 x7 post)) ∧ (¬ r_6 = 0 → ((x6 = (-1 : Int32) → (q_m_taught_124 P73 P84 a_lands f_land f_singers a_at a_knows a_climbed a_level f_begun x3 x4 x5 x7 post)) ∧ (¬ x6 = (-1 : Int32) → (q_m_high_0 a_lands f_land a_at a_climbed x7 (fun r_7 => q_m_high_0 a_lands f_land a_at a_climbed x6 (fun r_8 => (r_7 ≤ r_8 → (q_m_taught_129 P73 P84 a_lands f_land f_singers a_at a_knows a_climbed a_level f_begun x3 x4 x5 x6 x7 post)) ∧ (¬ r_7 ≤ r_8 → (q_m_taught_124 P73 P84 a_lands f_land f_singers a_at a_knows a_climbed a_level f_begun x3 x4 x5 x7 post)))))))))))) → P84 x6 x7) → P84 x6 x7
def q_m_taught_73 (a_lands : Nat → Int32) (f_land : Int32) (f_singers : Int32) (a_at : Nat → Int32) (a_knows : Nat → Int32) (a_climbed : Nat → Int32) (a_level : Nat → Int32) (f_begun : Int32) (x3 : Int32) (x4 : Int32) (x5 : Int32) (post : Int32 → Prop) : Prop :=
  ∀ P73 : Int32 → Int32 → Int32 → Prop, (∀ (x3 : Int32) (x4 : Int32) (x5 : Int32), ((x5 = 0 → (post x3)) ∧ (¬ x5 = 0 → (q_m_taught_84 P73 a_lands f_land f_singers a_at a_knows a_climbed a_level f_begun x3 x4 x5 (-1 : Int32) (0 : Int32) post))) → P73 x3 x4 x5) → P73 x3 x4 x5
def q_m_taught_33 (a_lands : Nat → Int32) (f_land : Int32) (f_singers : Int32) (a_at : Nat → Int32) (a_knows : Nat → Int32) (a_climbed : Nat → Int32) (a_level : Nat → Int32) (f_begun : Int32) (x2 : Int32) (x3 : Int32) (x4 : Int32) (x5 : Int32) (x6 : Int32) (post : Int32 → Prop) : Prop :=
  ∀ P33 : Int32 → Int32 → Prop, (∀ (x3 : Int32) (x6 : Int32), ((f_singers ≤ x6 → (q_m_taught_73 a_lands f_land f_singers a_at a_knows a_climbed a_level f_begun x3 x4 x5 post)) ∧ (¬ f_singers ≤ x6 → (vp_in x6 6 ∧ (q_m_has_0 (a_knows (Int32.toNatClampNeg x6)) x2 (fun r_1 => (r_1 = 0 → (q_m_taught_65 P33 a_lands f_land f_singers a_at a_knows a_climbed a_level f_begun x2 x4 x5 x6 x3 (0 : Int32) post)) ∧ (¬ r_1 = 0 → (q_m_taught_65 P33 a_lands f_land f_singers a_at a_knows a_climbed a_level f_begun x2 x4 x5 x6 x3 ((1 : Int32) <<< (x6 &&& 31)) post))))))) → P33 x3 x6) → P33 x3 x6
def q_m_taught_25 (a_lands : Nat → Int32) (f_land : Int32) (f_singers : Int32) (a_at : Nat → Int32) (a_knows : Nat → Int32) (a_climbed : Nat → Int32) (a_level : Nat → Int32) (f_begun : Int32) (x1 : Int32) (x2 : Int32) (x3 : Int32) (y0 : Int32) (post : Int32 → Prop) : Prop :=
  q_m_taught_33 a_lands f_land f_singers a_at a_knows a_climbed a_level f_begun x2 x3 y0 x1 (0 : Int32) post
def q_m_taught_0 (a_lands : Nat → Int32) (f_land : Int32) (f_singers : Int32) (a_at : Nat → Int32) (a_knows : Nat → Int32) (a_climbed : Nat → Int32) (a_level : Nat → Int32) (f_begun : Int32) (x1 : Int32) (x2 : Int32) (post : Int32 → Prop) : Prop :=
  q_m_has_0 f_begun x2 (fun r_1 => (r_1 = 0 → (q_m_taught_25 a_lands f_land f_singers a_at a_knows a_climbed a_level f_begun x1 x2 (0 : Int32) (1000000 : Int32) post)) ∧ (¬ r_1 = 0 → (vp_in x2 5 ∧ (q_m_taught_25 a_lands f_land f_singers a_at a_knows a_climbed a_level f_begun x1 x2 (0 : Int32) (a_level (Int32.toNatClampNeg x2)) post))))
set_option maxRecDepth 20000 in
theorem t_m_taught_65 {p : Program} {l : Launch} {e : Env} {s : State} {m : MethodId} {args : Array Value} {below : List Frame} {meth : Method} {c : Code} {E : zE} {q : Nat} {f_code : Int32} {a_tape : Nat → Int32} {a_size : Nat → Int32} {a_fault : Nat → Int32} {a_faultPlace : Nat → Int32} {a_many : Nat → Int32} {a_lands : Nat → Int32} {a_evenings : Nat → Int32} {a_sights : Nat → Int32} {a_choirs : Nat → Int32} {f_reached : Int32} {f_length : Int32} {f_begins : Int32} {f_sort : Int32} {f_value : Int32} {f_word : Int64} {f_wrongAt : Int32} {f_laterFault : Int32} {f_laterPlace : Int32} {a_told : Nat → Int32} {a_read : Nat → Int32} {f_farHut : Int32} {f_farSinger : Int32} {f_good : Int32} {f_land : Int32} {f_huts : Int32} {f_singers : Int32} {f_evening : Int32} {a_at : Nat → Int32} {a_knows : Nat → Int32} {a_climbed : Nat → Int32} {a_snow : Nat → Int32} {a_level : Nat → Int32} {f_begun : Int32} {f_minute : Int32} {f_avalanches : Int32} {a_run : Nat → Int32} {a_covers : Nat → Int32} {a_routes : Nat → Int32} {a_longest : Nat → Int32} {a_steep : Nat → Int32} {a_laid : Nat → Int32} {a_far : Nat → Int32} {f_sight : Int32} {a_runs : Nat → Int32} {f_choir : Int32} {f_voices : Int32} {a_rest : Nat → Int64} {a_wins : Nat → Int32} {f_seed : Int32} {a_other : Nat → Int32} {a_kept : Nat → Int32} {P33 : Int32 → Int32 → Prop} {post : Int32 → Prop} {x2 : Int32} {x4 : Int32} {x5 : Int32} {x6 : Int32} {y0 : Int32} {y1 : Int32} {ls : Array Slot}
    (zc : zC p s m args meth c cX11_taught 9 RX11 (some .int))
    (hK : zK E s)
    (hM : mW E q f_code a_tape a_size a_fault a_faultPlace a_many a_lands a_evenings a_sights a_choirs f_reached f_length f_begins f_sort f_value f_word f_wrongAt f_laterFault f_laterPlace a_told a_read f_farHut f_farSinger f_good f_land f_huts f_singers f_evening a_at a_knows a_climbed a_snow a_level f_begun f_minute f_avalanches a_run a_covers a_routes a_longest a_steep a_laid a_far f_sight a_runs f_choir f_voices a_rest a_wins f_seed a_other a_kept s.heap)
    (hP33 : ∀ (x3 : Int32) (x6 : Int32) (ls : Array Slot), P33 x3 x6 → lv_has ls 9 [(0, .ref q), (2, .int x2), (3, .int x3), (4, .int x4), (5, .int x5), (6, .int x6)] → W p l e rm_m_taught s m args below meth c s.heap [] 0 0 (MQ below (vp_Si post) args s 0 0 (fun _ => False)) (F0 m 33 ls []))
    (hl : lv_has ls 9 [(0, .ref q), (2, .int x2), (4, .int x4), (5, .int x5), (6, .int x6)])
    (hw : q_m_taught_65 P33 a_lands f_land f_singers a_at a_knows a_climbed a_level f_begun x2 x4 x5 x6 y0 y1 post) :
    W p l e rm_m_taught s m args below meth c s.heap [] 0 0 (MQ below (vp_Si post) args s 0 0 (fun _ => False)) (F0 m 65 ls [.int y1, .int y0]) := by
  have hx := zc.1
  have hb := zc.2.1
  refine lv_ior hx hb dX11_taught_65 ?_
  refine lv_topi (fun v_1 ev_1 => ?_)
  have hw := hw v_1 ev_1
  refine lv_istore_n (lv' := [(3, .int v_1), (0, .ref q), (2, .int x2), (4, .int x4), (5, .int x5), (6, .int x6)]) hx hb dX11_taught_66 rfl hl (by decide) rfl (fun ls hl => ?_)
  obtain ⟨v_2, ev_2⟩ : ∃ y : Int32, y = x6 + (1 : Int32) := ⟨_, rfl⟩
  have hw := hw v_2 ev_2
  refine lv_iinc (v := v_2) (k := 5) (lv' := [(6, .int v_2), (3, .int v_1), (0, .ref q), (2, .int x2), (4, .int x4), (5, .int x5)]) hx hb dX11_taught_67 hl rfl (by rw [ev_2]; rfl) (by decide) rfl (fun ls hl => ?_)
  refine lv_goto (tgt := 33) hx hb dX11_taught_70 (by decide) ?_
  exact hP33 _ _ _ hw (lv_sub hl [2, 3, 1, 4, 5, 0] rfl)
set_option maxRecDepth 20000 in
theorem t_m_taught_131 {p : Program} {l : Launch} {e : Env} {s : State} {m : MethodId} {args : Array Value} {below : List Frame} {meth : Method} {c : Code} {E : zE} {q : Nat} {f_code : Int32} {a_tape : Nat → Int32} {a_size : Nat → Int32} {a_fault : Nat → Int32} {a_faultPlace : Nat → Int32} {a_many : Nat → Int32} {a_lands : Nat → Int32} {a_evenings : Nat → Int32} {a_sights : Nat → Int32} {a_choirs : Nat → Int32} {f_reached : Int32} {f_length : Int32} {f_begins : Int32} {f_sort : Int32} {f_value : Int32} {f_word : Int64} {f_wrongAt : Int32} {f_laterFault : Int32} {f_laterPlace : Int32} {a_told : Nat → Int32} {a_read : Nat → Int32} {f_farHut : Int32} {f_farSinger : Int32} {f_good : Int32} {f_land : Int32} {f_huts : Int32} {f_singers : Int32} {f_evening : Int32} {a_at : Nat → Int32} {a_knows : Nat → Int32} {a_climbed : Nat → Int32} {a_snow : Nat → Int32} {a_level : Nat → Int32} {f_begun : Int32} {f_minute : Int32} {f_avalanches : Int32} {a_run : Nat → Int32} {a_covers : Nat → Int32} {a_routes : Nat → Int32} {a_longest : Nat → Int32} {a_steep : Nat → Int32} {a_laid : Nat → Int32} {a_far : Nat → Int32} {f_sight : Int32} {a_runs : Nat → Int32} {f_choir : Int32} {f_voices : Int32} {a_rest : Nat → Int64} {a_wins : Nat → Int32} {f_seed : Int32} {a_other : Nat → Int32} {a_kept : Nat → Int32} {P73 : Int32 → Int32 → Int32 → Prop} {P84 : Int32 → Int32 → Prop} {post : Int32 → Prop} {x3 : Int32} {x4 : Int32} {x5 : Int32} {x7 : Int32} {y0 : Int32} {ls : Array Slot}
    (zc : zC p s m args meth c cX11_taught 9 RX11 (some .int))
    (hK : zK E s)
    (hM : mW E q f_code a_tape a_size a_fault a_faultPlace a_many a_lands a_evenings a_sights a_choirs f_reached f_length f_begins f_sort f_value f_word f_wrongAt f_laterFault f_laterPlace a_told a_read f_farHut f_farSinger f_good f_land f_huts f_singers f_evening a_at a_knows a_climbed a_snow a_level f_begun f_minute f_avalanches a_run a_covers a_routes a_longest a_steep a_laid a_far f_sight a_runs f_choir f_voices a_rest a_wins f_seed a_other a_kept s.heap)
    (hP73 : ∀ (x3 : Int32) (x4 : Int32) (x5 : Int32) (ls : Array Slot), P73 x3 x4 x5 → lv_has ls 9 [(0, .ref q), (3, .int x3), (4, .int x4), (5, .int x5)] → W p l e rm_m_taught s m args below meth c s.heap [] 0 0 (MQ below (vp_Si post) args s 0 0 (fun _ => False)) (F0 m 73 ls []))
    (hP84 : ∀ (x6 : Int32) (x7 : Int32) (ls : Array Slot), P84 x6 x7 → lv_has ls 9 [(0, .ref q), (3, .int x3), (4, .int x4), (5, .int x5), (6, .int x6), (7, .int x7)] → W p l e rm_m_taught s m args below meth c s.heap [] 0 0 (MQ below (vp_Si post) args s 0 0 (fun _ => False)) (F0 m 84 ls []))
    (hl : lv_has ls 9 [(0, .ref q), (3, .int x3), (4, .int x4), (5, .int x5), (7, .int x7)])
    (hw : q_m_taught_131 P73 P84 a_lands f_land f_singers a_at a_knows a_climbed a_level f_begun x3 x4 x5 x7 y0 post) :
    W p l e rm_m_taught s m args below meth c s.heap [] 0 0 (MQ below (vp_Si post) args s 0 0 (fun _ => False)) (F0 m 131 ls [.int y0]) := by
  have hx := zc.1
  have hb := zc.2.1
  refine lv_istore (lv' := [(6, .int y0), (0, .ref q), (3, .int x3), (4, .int x4), (5, .int x5), (7, .int x7)]) hx hb dX11_taught_131 hl (by decide) rfl (fun ls hl => ?_)
  obtain ⟨v_1, ev_1⟩ : ∃ y : Int32, y = x7 + (1 : Int32) := ⟨_, rfl⟩
  have hw := hw v_1 ev_1
  refine lv_iinc (v := v_1) (k := 5) (lv' := [(7, .int v_1), (6, .int y0), (0, .ref q), (3, .int x3), (4, .int x4), (5, .int x5)]) hx hb dX11_taught_133 hl rfl (by rw [ev_1]; rfl) (by decide) rfl (fun ls hl => ?_)
  refine lv_goto (tgt := 84) hx hb dX11_taught_136 (by decide) ?_
  exact hP84 _ _ _ hw (lv_sub hl [2, 3, 4, 5, 1, 0] rfl)
set_option maxRecDepth 20000 in
theorem t_m_taught_124 {p : Program} {l : Launch} {e : Env} {s : State} {m : MethodId} {args : Array Value} {below : List Frame} {meth : Method} {c : Code} {E : zE} {q : Nat} {f_code : Int32} {a_tape : Nat → Int32} {a_size : Nat → Int32} {a_fault : Nat → Int32} {a_faultPlace : Nat → Int32} {a_many : Nat → Int32} {a_lands : Nat → Int32} {a_evenings : Nat → Int32} {a_sights : Nat → Int32} {a_choirs : Nat → Int32} {f_reached : Int32} {f_length : Int32} {f_begins : Int32} {f_sort : Int32} {f_value : Int32} {f_word : Int64} {f_wrongAt : Int32} {f_laterFault : Int32} {f_laterPlace : Int32} {a_told : Nat → Int32} {a_read : Nat → Int32} {f_farHut : Int32} {f_farSinger : Int32} {f_good : Int32} {f_land : Int32} {f_huts : Int32} {f_singers : Int32} {f_evening : Int32} {a_at : Nat → Int32} {a_knows : Nat → Int32} {a_climbed : Nat → Int32} {a_snow : Nat → Int32} {a_level : Nat → Int32} {f_begun : Int32} {f_minute : Int32} {f_avalanches : Int32} {a_run : Nat → Int32} {a_covers : Nat → Int32} {a_routes : Nat → Int32} {a_longest : Nat → Int32} {a_steep : Nat → Int32} {a_laid : Nat → Int32} {a_far : Nat → Int32} {f_sight : Int32} {a_runs : Nat → Int32} {f_choir : Int32} {f_voices : Int32} {a_rest : Nat → Int64} {a_wins : Nat → Int32} {f_seed : Int32} {a_other : Nat → Int32} {a_kept : Nat → Int32} {P73 : Int32 → Int32 → Int32 → Prop} {P84 : Int32 → Int32 → Prop} {post : Int32 → Prop} {x3 : Int32} {x4 : Int32} {x5 : Int32} {x7 : Int32} {ls : Array Slot}
    (zc : zC p s m args meth c cX11_taught 9 RX11 (some .int))
    (hK : zK E s)
    (hM : mW E q f_code a_tape a_size a_fault a_faultPlace a_many a_lands a_evenings a_sights a_choirs f_reached f_length f_begins f_sort f_value f_word f_wrongAt f_laterFault f_laterPlace a_told a_read f_farHut f_farSinger f_good f_land f_huts f_singers f_evening a_at a_knows a_climbed a_snow a_level f_begun f_minute f_avalanches a_run a_covers a_routes a_longest a_steep a_laid a_far f_sight a_runs f_choir f_voices a_rest a_wins f_seed a_other a_kept s.heap)
    (hP73 : ∀ (x3 : Int32) (x4 : Int32) (x5 : Int32) (ls : Array Slot), P73 x3 x4 x5 → lv_has ls 9 [(0, .ref q), (3, .int x3), (4, .int x4), (5, .int x5)] → W p l e rm_m_taught s m args below meth c s.heap [] 0 0 (MQ below (vp_Si post) args s 0 0 (fun _ => False)) (F0 m 73 ls []))
    (hP84 : ∀ (x6 : Int32) (x7 : Int32) (ls : Array Slot), P84 x6 x7 → lv_has ls 9 [(0, .ref q), (3, .int x3), (4, .int x4), (5, .int x5), (6, .int x6), (7, .int x7)] → W p l e rm_m_taught s m args below meth c s.heap [] 0 0 (MQ below (vp_Si post) args s 0 0 (fun _ => False)) (F0 m 84 ls []))
    (hl : lv_has ls 9 [(0, .ref q), (3, .int x3), (4, .int x4), (5, .int x5), (7, .int x7)])
    (hw : q_m_taught_124 P73 P84 a_lands f_land f_singers a_at a_knows a_climbed a_level f_begun x3 x4 x5 x7 post) :
    W p l e rm_m_taught s m args below meth c s.heap [] 0 0 (MQ below (vp_Si post) args s 0 0 (fun _ => False)) (F0 m 124 ls []) := by
  have hx := zc.1
  have hb := zc.2.1
  refine lv_iload hx hb dX11_taught_124 (lv_at hl 4 rfl) ?_
  refine lv_goto (tgt := 131) hx hb dX11_taught_126 (by decide) ?_
  exact t_m_taught_131 zc hK hM hP73 hP84 (lv_sub hl [0, 1, 2, 3, 4] rfl) hw
set_option maxRecDepth 20000 in
theorem t_m_taught_129 {p : Program} {l : Launch} {e : Env} {s : State} {m : MethodId} {args : Array Value} {below : List Frame} {meth : Method} {c : Code} {E : zE} {q : Nat} {f_code : Int32} {a_tape : Nat → Int32} {a_size : Nat → Int32} {a_fault : Nat → Int32} {a_faultPlace : Nat → Int32} {a_many : Nat → Int32} {a_lands : Nat → Int32} {a_evenings : Nat → Int32} {a_sights : Nat → Int32} {a_choirs : Nat → Int32} {f_reached : Int32} {f_length : Int32} {f_begins : Int32} {f_sort : Int32} {f_value : Int32} {f_word : Int64} {f_wrongAt : Int32} {f_laterFault : Int32} {f_laterPlace : Int32} {a_told : Nat → Int32} {a_read : Nat → Int32} {f_farHut : Int32} {f_farSinger : Int32} {f_good : Int32} {f_land : Int32} {f_huts : Int32} {f_singers : Int32} {f_evening : Int32} {a_at : Nat → Int32} {a_knows : Nat → Int32} {a_climbed : Nat → Int32} {a_snow : Nat → Int32} {a_level : Nat → Int32} {f_begun : Int32} {f_minute : Int32} {f_avalanches : Int32} {a_run : Nat → Int32} {a_covers : Nat → Int32} {a_routes : Nat → Int32} {a_longest : Nat → Int32} {a_steep : Nat → Int32} {a_laid : Nat → Int32} {a_far : Nat → Int32} {f_sight : Int32} {a_runs : Nat → Int32} {f_choir : Int32} {f_voices : Int32} {a_rest : Nat → Int64} {a_wins : Nat → Int32} {f_seed : Int32} {a_other : Nat → Int32} {a_kept : Nat → Int32} {P73 : Int32 → Int32 → Int32 → Prop} {P84 : Int32 → Int32 → Prop} {post : Int32 → Prop} {x3 : Int32} {x4 : Int32} {x5 : Int32} {x6 : Int32} {x7 : Int32} {ls : Array Slot}
    (zc : zC p s m args meth c cX11_taught 9 RX11 (some .int))
    (hK : zK E s)
    (hM : mW E q f_code a_tape a_size a_fault a_faultPlace a_many a_lands a_evenings a_sights a_choirs f_reached f_length f_begins f_sort f_value f_word f_wrongAt f_laterFault f_laterPlace a_told a_read f_farHut f_farSinger f_good f_land f_huts f_singers f_evening a_at a_knows a_climbed a_snow a_level f_begun f_minute f_avalanches a_run a_covers a_routes a_longest a_steep a_laid a_far f_sight a_runs f_choir f_voices a_rest a_wins f_seed a_other a_kept s.heap)
    (hP73 : ∀ (x3 : Int32) (x4 : Int32) (x5 : Int32) (ls : Array Slot), P73 x3 x4 x5 → lv_has ls 9 [(0, .ref q), (3, .int x3), (4, .int x4), (5, .int x5)] → W p l e rm_m_taught s m args below meth c s.heap [] 0 0 (MQ below (vp_Si post) args s 0 0 (fun _ => False)) (F0 m 73 ls []))
    (hP84 : ∀ (x6 : Int32) (x7 : Int32) (ls : Array Slot), P84 x6 x7 → lv_has ls 9 [(0, .ref q), (3, .int x3), (4, .int x4), (5, .int x5), (6, .int x6), (7, .int x7)] → W p l e rm_m_taught s m args below meth c s.heap [] 0 0 (MQ below (vp_Si post) args s 0 0 (fun _ => False)) (F0 m 84 ls []))
    (hl : lv_has ls 9 [(0, .ref q), (3, .int x3), (4, .int x4), (5, .int x5), (6, .int x6), (7, .int x7)])
    (hw : q_m_taught_129 P73 P84 a_lands f_land f_singers a_at a_knows a_climbed a_level f_begun x3 x4 x5 x6 x7 post) :
    W p l e rm_m_taught s m args below meth c s.heap [] 0 0 (MQ below (vp_Si post) args s 0 0 (fun _ => False)) (F0 m 129 ls []) := by
  have hx := zc.1
  have hb := zc.2.1
  refine lv_iload hx hb dX11_taught_129 (lv_at hl 4 rfl) ?_
  exact t_m_taught_131 zc hK hM hP73 hP84 (lv_sub hl [0, 1, 2, 3, 5] rfl) hw
set_option maxRecDepth 20000 in
theorem t_m_taught_243 {p : Program} {l : Launch} {e : Env} {s : State} {m : MethodId} {args : Array Value} {below : List Frame} {meth : Method} {c : Code} {E : zE} {q : Nat} {f_code : Int32} {a_tape : Nat → Int32} {a_size : Nat → Int32} {a_fault : Nat → Int32} {a_faultPlace : Nat → Int32} {a_many : Nat → Int32} {a_lands : Nat → Int32} {a_evenings : Nat → Int32} {a_sights : Nat → Int32} {a_choirs : Nat → Int32} {f_reached : Int32} {f_length : Int32} {f_begins : Int32} {f_sort : Int32} {f_value : Int32} {f_word : Int64} {f_wrongAt : Int32} {f_laterFault : Int32} {f_laterPlace : Int32} {a_told : Nat → Int32} {a_read : Nat → Int32} {f_farHut : Int32} {f_farSinger : Int32} {f_good : Int32} {f_land : Int32} {f_huts : Int32} {f_singers : Int32} {f_evening : Int32} {a_at : Nat → Int32} {a_knows : Nat → Int32} {a_climbed : Nat → Int32} {a_snow : Nat → Int32} {a_level : Nat → Int32} {f_begun : Int32} {f_minute : Int32} {f_avalanches : Int32} {a_run : Nat → Int32} {a_covers : Nat → Int32} {a_routes : Nat → Int32} {a_longest : Nat → Int32} {a_steep : Nat → Int32} {a_laid : Nat → Int32} {a_far : Nat → Int32} {f_sight : Int32} {a_runs : Nat → Int32} {f_choir : Int32} {f_voices : Int32} {a_rest : Nat → Int64} {a_wins : Nat → Int32} {f_seed : Int32} {a_other : Nat → Int32} {a_kept : Nat → Int32} {P73 : Int32 → Int32 → Int32 → Prop} {P210 : Int32 → Int32 → Prop} {post : Int32 → Prop} {x4 : Int32} {x5 : Int32} {x7 : Int32} {x8 : Int32} {y0 : Int32} {y1 : Int32} {ls : Array Slot}
    (zc : zC p s m args meth c cX11_taught 9 RX11 (some .int))
    (hK : zK E s)
    (hM : mW E q f_code a_tape a_size a_fault a_faultPlace a_many a_lands a_evenings a_sights a_choirs f_reached f_length f_begins f_sort f_value f_word f_wrongAt f_laterFault f_laterPlace a_told a_read f_farHut f_farSinger f_good f_land f_huts f_singers f_evening a_at a_knows a_climbed a_snow a_level f_begun f_minute f_avalanches a_run a_covers a_routes a_longest a_steep a_laid a_far f_sight a_runs f_choir f_voices a_rest a_wins f_seed a_other a_kept s.heap)
    (hP73 : ∀ (x3 : Int32) (x4 : Int32) (x5 : Int32) (ls : Array Slot), P73 x3 x4 x5 → lv_has ls 9 [(0, .ref q), (3, .int x3), (4, .int x4), (5, .int x5)] → W p l e rm_m_taught s m args below meth c s.heap [] 0 0 (MQ below (vp_Si post) args s 0 0 (fun _ => False)) (F0 m 73 ls []))
    (hP210 : ∀ (x3 : Int32) (x8 : Int32) (ls : Array Slot), P210 x3 x8 → lv_has ls 9 [(0, .ref q), (3, .int x3), (4, .int x4), (5, .int x5), (7, .int x7), (8, .int x8)] → W p l e rm_m_taught s m args below meth c s.heap [] 0 0 (MQ below (vp_Si post) args s 0 0 (fun _ => False)) (F0 m 210 ls []))
    (hl : lv_has ls 9 [(0, .ref q), (4, .int x4), (5, .int x5), (7, .int x7), (8, .int x8)])
    (hw : q_m_taught_243 P73 P210 a_lands f_land f_singers a_at a_knows a_climbed a_level f_begun x4 x5 x7 x8 y0 y1 post) :
    W p l e rm_m_taught s m args below meth c s.heap [] 0 0 (MQ below (vp_Si post) args s 0 0 (fun _ => False)) (F0 m 243 ls [.int y1, .int y0]) := by
  have hx := zc.1
  have hb := zc.2.1
  refine lv_ior hx hb dX11_taught_243 ?_
  refine lv_topi (fun v_1 ev_1 => ?_)
  have hw := hw v_1 ev_1
  refine lv_istore_n (lv' := [(3, .int v_1), (0, .ref q), (4, .int x4), (5, .int x5), (7, .int x7), (8, .int x8)]) hx hb dX11_taught_244 rfl hl (by decide) rfl (fun ls hl => ?_)
  obtain ⟨v_2, ev_2⟩ : ∃ y : Int32, y = x8 + (1 : Int32) := ⟨_, rfl⟩
  have hw := hw v_2 ev_2
  refine lv_iinc (v := v_2) (k := 5) (lv' := [(8, .int v_2), (3, .int v_1), (0, .ref q), (4, .int x4), (5, .int x5), (7, .int x7)]) hx hb dX11_taught_245 hl rfl (by rw [ev_2]; rfl) (by decide) rfl (fun ls hl => ?_)
  refine lv_goto (tgt := 210) hx hb dX11_taught_248 (by decide) ?_
  exact hP210 _ _ _ hw (lv_sub hl [2, 1, 3, 4, 5, 0] rfl)
set_option maxRecDepth 20000 in
theorem t_m_taught_210 {p : Program} {l : Launch} {e : Env} {s : State} {m : MethodId} {args : Array Value} {below : List Frame} {meth : Method} {c : Code} {E : zE} {q : Nat} {f_code : Int32} {a_tape : Nat → Int32} {a_size : Nat → Int32} {a_fault : Nat → Int32} {a_faultPlace : Nat → Int32} {a_many : Nat → Int32} {a_lands : Nat → Int32} {a_evenings : Nat → Int32} {a_sights : Nat → Int32} {a_choirs : Nat → Int32} {f_reached : Int32} {f_length : Int32} {f_begins : Int32} {f_sort : Int32} {f_value : Int32} {f_word : Int64} {f_wrongAt : Int32} {f_laterFault : Int32} {f_laterPlace : Int32} {a_told : Nat → Int32} {a_read : Nat → Int32} {f_farHut : Int32} {f_farSinger : Int32} {f_good : Int32} {f_land : Int32} {f_huts : Int32} {f_singers : Int32} {f_evening : Int32} {a_at : Nat → Int32} {a_knows : Nat → Int32} {a_climbed : Nat → Int32} {a_snow : Nat → Int32} {a_level : Nat → Int32} {f_begun : Int32} {f_minute : Int32} {f_avalanches : Int32} {a_run : Nat → Int32} {a_covers : Nat → Int32} {a_routes : Nat → Int32} {a_longest : Nat → Int32} {a_steep : Nat → Int32} {a_laid : Nat → Int32} {a_far : Nat → Int32} {f_sight : Int32} {a_runs : Nat → Int32} {f_choir : Int32} {f_voices : Int32} {a_rest : Nat → Int64} {a_wins : Nat → Int32} {f_seed : Int32} {a_other : Nat → Int32} {a_kept : Nat → Int32} {P73 : Int32 → Int32 → Int32 → Prop} {post : Int32 → Prop} {x3 : Int32} {x4 : Int32} {x5 : Int32} {x7 : Int32} {x8 : Int32} {ls : Array Slot}
    (zc : zC p s m args meth c cX11_taught 9 RX11 (some .int))
    (hK : zK E s)
    (hM : mW E q f_code a_tape a_size a_fault a_faultPlace a_many a_lands a_evenings a_sights a_choirs f_reached f_length f_begins f_sort f_value f_word f_wrongAt f_laterFault f_laterPlace a_told a_read f_farHut f_farSinger f_good f_land f_huts f_singers f_evening a_at a_knows a_climbed a_snow a_level f_begun f_minute f_avalanches a_run a_covers a_routes a_longest a_steep a_laid a_far f_sight a_runs f_choir f_voices a_rest a_wins f_seed a_other a_kept s.heap)
    (hP73 : ∀ (x3 : Int32) (x4 : Int32) (x5 : Int32) (ls : Array Slot), P73 x3 x4 x5 → lv_has ls 9 [(0, .ref q), (3, .int x3), (4, .int x4), (5, .int x5)] → W p l e rm_m_taught s m args below meth c s.heap [] 0 0 (MQ below (vp_Si post) args s 0 0 (fun _ => False)) (F0 m 73 ls []))
    (hl : lv_has ls 9 [(0, .ref q), (3, .int x3), (4, .int x4), (5, .int x5), (7, .int x7), (8, .int x8)])
    (hw : q_m_taught_210 P73 a_lands f_land f_singers a_at a_knows a_climbed a_level f_begun x3 x4 x5 x7 x8 post) :
    W p l e rm_m_taught s m args below meth c s.heap [] 0 0 (MQ below (vp_Si post) args s 0 0 (fun _ => False)) (F0 m 210 ls []) := by
  have hx := zc.1
  have hb := zc.2.1
  refine hw (fun x3 x8 => ∀ (ls : Array Slot), lv_has ls 9 [(0, .ref q), (3, .int x3), (4, .int x4), (5, .int x5), (7, .int x7), (8, .int x8)] → W p l e rm_m_taught s m args below meth c s.heap [] 0 0 (MQ below (vp_Si post) args s 0 0 (fun _ => False)) (F0 m 210 ls [])) ?_ _ hl
  intro x3 x8 hw ls hl
  refine lv_iload hx hb dX11_taught_210 (lv_at hl 5 rfl) ?_
  refine lv_aload_n hx hb dX11_taught_212 rfl (lv_at hl 0 rfl) ?_
  refine mg_11_310_0 zc hK hM dX11_taught_213 ?_
  refine lv_icmp_ge (tgt := 251) hx hb dX11_taught_216 (by decide) (fun hc => ?_) (fun hc => ?_)
  · have hw := hw.1 hc
    refine lv_goto (tgt := 73) hx hb dX11_taught_251 (by decide) ?_
    exact hP73 _ _ _ _ hw (lv_sub hl [0, 1, 2, 3] rfl)
  · have hw := hw.2 hc
    refine lv_iload_n hx hb dX11_taught_219 rfl (lv_at hl 1 rfl) ?_
    refine lv_iload hx hb dX11_taught_220 (lv_at hl 4 rfl) ?_
    refine lv_aload_n hx hb dX11_taught_222 rfl (lv_at hl 0 rfl) ?_
    refine mg_11_44_0 zc hK hM dX11_taught_223 ?_
    refine lv_iload hx hb dX11_taught_226 (lv_at hl 5 rfl) ?_
    refine mld_12 zc hK hM hw.1 dX11_taught_228 ?_
    have hw := hw.2
    refine zS_i [.int x7, .int (a_at (Int32.toNatClampNeg x8))] [.int x3] zc ky_X11_has kz_X11_has km_11_101 (c_m_has l hw) (zPre0 _) rfl rfl hl.1 (Nat.le_of_ble_eq_true rfl) ⟨rfl, rfl⟩ ⟨Nat.le_of_ble_eq_true rfl, Nat.le_of_ble_eq_true rfl⟩ ⟨(Nat.zero_le _), (Nat.zero_le _)⟩ dX11_taught_229 (fun r_1 hw => ?_)
    refine lv_if_eq (tgt := 242) hx hb dX11_taught_232 (by decide) (fun hc => ?_) (fun hc => ?_)
    · have hw := hw.1 hc
      refine lv_iconst (v := (0 : Int32)) hx hb dX11_taught_242 (by decide) ?_
      exact t_m_taught_243 zc hK hM hP73 (fun _ _ ls h hl => h ls hl) (lv_sub hl [0, 2, 3, 4, 5] rfl) hw
    · have hw := hw.2 hc
      refine lv_iconst (v := (1 : Int32)) hx hb dX11_taught_235 (by decide) ?_
      refine lv_iload hx hb dX11_taught_236 (lv_at hl 5 rfl) ?_
      refine lv_ishl hx hb dX11_taught_238 ?_
      refine lv_goto (tgt := 243) hx hb dX11_taught_239 (by decide) ?_
      exact t_m_taught_243 zc hK hM hP73 (fun _ _ ls h hl => h ls hl) (lv_sub hl [0, 2, 3, 4, 5] rfl) hw
set_option maxRecDepth 20000 in
theorem t_m_taught_84 {p : Program} {l : Launch} {e : Env} {s : State} {m : MethodId} {args : Array Value} {below : List Frame} {meth : Method} {c : Code} {E : zE} {q : Nat} {f_code : Int32} {a_tape : Nat → Int32} {a_size : Nat → Int32} {a_fault : Nat → Int32} {a_faultPlace : Nat → Int32} {a_many : Nat → Int32} {a_lands : Nat → Int32} {a_evenings : Nat → Int32} {a_sights : Nat → Int32} {a_choirs : Nat → Int32} {f_reached : Int32} {f_length : Int32} {f_begins : Int32} {f_sort : Int32} {f_value : Int32} {f_word : Int64} {f_wrongAt : Int32} {f_laterFault : Int32} {f_laterPlace : Int32} {a_told : Nat → Int32} {a_read : Nat → Int32} {f_farHut : Int32} {f_farSinger : Int32} {f_good : Int32} {f_land : Int32} {f_huts : Int32} {f_singers : Int32} {f_evening : Int32} {a_at : Nat → Int32} {a_knows : Nat → Int32} {a_climbed : Nat → Int32} {a_snow : Nat → Int32} {a_level : Nat → Int32} {f_begun : Int32} {f_minute : Int32} {f_avalanches : Int32} {a_run : Nat → Int32} {a_covers : Nat → Int32} {a_routes : Nat → Int32} {a_longest : Nat → Int32} {a_steep : Nat → Int32} {a_laid : Nat → Int32} {a_far : Nat → Int32} {f_sight : Int32} {a_runs : Nat → Int32} {f_choir : Int32} {f_voices : Int32} {a_rest : Nat → Int64} {a_wins : Nat → Int32} {f_seed : Int32} {a_other : Nat → Int32} {a_kept : Nat → Int32} {P73 : Int32 → Int32 → Int32 → Prop} {post : Int32 → Prop} {x3 : Int32} {x4 : Int32} {x5 : Int32} {x6 : Int32} {x7 : Int32} {ls : Array Slot}
    (zc : zC p s m args meth c cX11_taught 9 RX11 (some .int))
    (hK : zK E s)
    (hM : mW E q f_code a_tape a_size a_fault a_faultPlace a_many a_lands a_evenings a_sights a_choirs f_reached f_length f_begins f_sort f_value f_word f_wrongAt f_laterFault f_laterPlace a_told a_read f_farHut f_farSinger f_good f_land f_huts f_singers f_evening a_at a_knows a_climbed a_snow a_level f_begun f_minute f_avalanches a_run a_covers a_routes a_longest a_steep a_laid a_far f_sight a_runs f_choir f_voices a_rest a_wins f_seed a_other a_kept s.heap)
    (hP73 : ∀ (x3 : Int32) (x4 : Int32) (x5 : Int32) (ls : Array Slot), P73 x3 x4 x5 → lv_has ls 9 [(0, .ref q), (3, .int x3), (4, .int x4), (5, .int x5)] → W p l e rm_m_taught s m args below meth c s.heap [] 0 0 (MQ below (vp_Si post) args s 0 0 (fun _ => False)) (F0 m 73 ls []))
    (hl : lv_has ls 9 [(0, .ref q), (3, .int x3), (4, .int x4), (5, .int x5), (6, .int x6), (7, .int x7)])
    (hw : q_m_taught_84 P73 a_lands f_land f_singers a_at a_knows a_climbed a_level f_begun x3 x4 x5 x6 x7 post) :
    W p l e rm_m_taught s m args below meth c s.heap [] 0 0 (MQ below (vp_Si post) args s 0 0 (fun _ => False)) (F0 m 84 ls []) := by
  have hx := zc.1
  have hb := zc.2.1
  refine hw (fun x6 x7 => ∀ (ls : Array Slot), lv_has ls 9 [(0, .ref q), (3, .int x3), (4, .int x4), (5, .int x5), (6, .int x6), (7, .int x7)] → W p l e rm_m_taught s m args below meth c s.heap [] 0 0 (MQ below (vp_Si post) args s 0 0 (fun _ => False)) (F0 m 84 ls [])) ?_ _ hl
  intro x6 x7 hw ls hl
  refine lv_iload hx hb dX11_taught_84 (lv_at hl 5 rfl) ?_
  refine lv_aload_n hx hb dX11_taught_86 rfl (lv_at hl 0 rfl) ?_
  refine mg_11_310_0 zc hK hM dX11_taught_87 ?_
  refine lv_icmp_ge (tgt := 139) hx hb dX11_taught_90 (by decide) (fun hc => ?_) (fun hc => ?_)
  · have hw := hw.1 hc
    refine lv_iload_n hx hb dX11_taught_139 rfl (lv_at hl 1 rfl) ?_
    refine lv_iload hx hb dX11_taught_140 (lv_at hl 4 rfl) ?_
    refine zS_i [.int x3, .int x6] [] zc ky_X11_has kz_X11_has km_11_101 (c_m_has l hw) (zPre0 _) rfl rfl hl.1 (Nat.le_of_ble_eq_true rfl) ⟨rfl, rfl⟩ ⟨Nat.le_of_ble_eq_true rfl, Nat.le_of_ble_eq_true rfl⟩ ⟨(Nat.zero_le _), (Nat.zero_le _)⟩ dX11_taught_142 (fun r_1 hw => ?_)
    refine lv_if_eq (tgt := 173) hx hb dX11_taught_145 (by decide) (fun hc => ?_) (fun hc => ?_)
    · have hw := hw.1 hc
      refine lv_iconst (v := (-1 : Int32)) hx hb dX11_taught_173 (by decide) ?_
      exact zret_i zc hw dX11_taught_174
    · have hw := hw.2 hc
      refine lv_aload_n hx hb dX11_taught_148 rfl (lv_at hl 0 rfl) ?_
      refine lv_iload hx hb dX11_taught_149 (lv_at hl 4 rfl) ?_
      refine zV_i [.int x6] [] zc ky_X11_high kz_X11_high km_11_352 (c_m_high l hw) (mPreV0 hK hM) rfl rfl hl.1 (Nat.le_of_ble_eq_true rfl) ⟨rfl, rfl⟩ ⟨Nat.le_of_ble_eq_true rfl, Nat.le_of_ble_eq_true rfl⟩ ⟨(Nat.zero_le _), (Nat.zero_le _)⟩ dX11_taught_151 (fun r_2 hw => ?_)
      refine lv_iload hx hb dX11_taught_154 (lv_at hl 2 rfl) ?_
      refine lv_icmp_ge (tgt := 173) hx hb dX11_taught_156 (by decide) (fun hc => ?_) (fun hc => ?_)
      · have hw := hw.1 hc
        refine lv_iconst (v := (-1 : Int32)) hx hb dX11_taught_173 (by decide) ?_
        exact zret_i zc hw dX11_taught_174
      · have hw := hw.2 hc
        refine lv_aload_n hx hb dX11_taught_159 rfl (lv_at hl 0 rfl) ?_
        refine lv_aload_n hx hb dX11_taught_160 rfl (lv_at hl 0 rfl) ?_
        refine mg_11_44_0 zc hK hM dX11_taught_161 ?_
        refine lv_iload hx hb dX11_taught_164 (lv_at hl 4 rfl) ?_
        refine mld_12 zc hK hM hw.1 dX11_taught_166 ?_
        have hw := hw.2
        refine zV_i [.int (a_at (Int32.toNatClampNeg x6))] [] zc ky_X11_isDam kz_X11_isDam km_11_355 (c_m_isDam l hw) (mPreV0 hK hM) rfl rfl hl.1 (Nat.le_of_ble_eq_true rfl) ⟨rfl, rfl⟩ ⟨Nat.le_of_ble_eq_true rfl, Nat.le_of_ble_eq_true rfl⟩ ⟨(Nat.zero_le _), (Nat.zero_le _)⟩ dX11_taught_167 (fun r_3 hw => ?_)
        refine lv_if_eq (tgt := 175) hx hb dX11_taught_170 (by decide) (fun hc => ?_) (fun hc => ?_)
        · have hw := hw.1 hc
          refine lv_aload_n hx hb dX11_taught_175 rfl (lv_at hl 0 rfl) ?_
          refine lv_iload hx hb dX11_taught_176 (lv_at hl 4 rfl) ?_
          refine zV_i [.int x6] [] zc ky_X11_high kz_X11_high km_11_352 (c_m_high l hw) (mPreV0 hK hM) rfl rfl hl.1 (Nat.le_of_ble_eq_true rfl) ⟨rfl, rfl⟩ ⟨Nat.le_of_ble_eq_true rfl, Nat.le_of_ble_eq_true rfl⟩ ⟨(Nat.zero_le _), (Nat.zero_le _)⟩ dX11_taught_178 (fun r_4 hw => ?_)
          refine lv_istore (lv' := [(4, .int r_4), (0, .ref q), (3, .int x3), (5, .int x5), (6, .int x6), (7, .int x7)]) hx hb dX11_taught_181 hl (by decide) rfl (fun ls hl => ?_)
          refine lv_iload hx hb dX11_taught_183 (lv_at hl 3 rfl) ?_
          refine lv_iconst (v := (1 : Int32)) hx hb dX11_taught_185 (by decide) ?_
          refine lv_iload hx hb dX11_taught_186 (lv_at hl 4 rfl) ?_
          refine lv_ishl hx hb dX11_taught_188 ?_
          refine lv_iconst (v := (-1 : Int32)) hx hb dX11_taught_189 (by decide) ?_
          refine lv_ixor hx hb dX11_taught_190 ?_
          refine lv_iand hx hb dX11_taught_191 ?_
          refine lv_topi (fun v_1 ev_1 => ?_)
          have hw := hw v_1 ev_1
          refine lv_istore (lv' := [(5, .int v_1), (4, .int r_4), (0, .ref q), (3, .int x3), (6, .int x6), (7, .int x7)]) hx hb dX11_taught_192 hl (by decide) rfl (fun ls hl => ?_)
          refine lv_aload_n hx hb dX11_taught_194 rfl (lv_at hl 2 rfl) ?_
          refine lv_aload_n hx hb dX11_taught_195 rfl (lv_at hl 2 rfl) ?_
          refine mg_11_44_0 zc hK hM dX11_taught_196 ?_
          refine lv_iload hx hb dX11_taught_199 (lv_at hl 4 rfl) ?_
          refine mld_12 zc hK hM hw.1 dX11_taught_201 ?_
          have hw := hw.2
          refine zV_i [.int (a_at (Int32.toNatClampNeg x6))] [] zc ky_X11_hearing kz_X11_hearing km_11_349 (c_m_hearing l hw) (mPreV0 hK hM) rfl rfl hl.1 (Nat.le_of_ble_eq_true rfl) ⟨rfl, rfl⟩ ⟨Nat.le_of_ble_eq_true rfl, Nat.le_of_ble_eq_true rfl⟩ ⟨(Nat.zero_le _), (Nat.zero_le _)⟩ dX11_taught_202 (fun r_5 hw => ?_)
          refine lv_istore (lv' := [(7, .int r_5), (5, .int v_1), (4, .int r_4), (0, .ref q), (3, .int x3), (6, .int x6)]) hx hb dX11_taught_205 hl (by decide) rfl (fun ls hl => ?_)
          refine lv_iconst (v := (0 : Int32)) hx hb dX11_taught_207 (by decide) ?_
          refine lv_istore (lv' := [(8, .int (0 : Int32)), (7, .int r_5), (5, .int v_1), (4, .int r_4), (0, .ref q), (3, .int x3), (6, .int x6)]) hx hb dX11_taught_208 hl (by decide) rfl (fun ls hl => ?_)
          exact t_m_taught_210 zc hK hM hP73 (lv_sub hl [4, 5, 3, 2, 1, 0] rfl) hw
        · have hw := hw.2 hc
          refine lv_iconst (v := (-1 : Int32)) hx hb dX11_taught_173 (by decide) ?_
          exact zret_i zc hw dX11_taught_174
  · have hw := hw.2 hc
    refine lv_iload hx hb dX11_taught_93 (lv_at hl 3 rfl) ?_
    refine lv_iload hx hb dX11_taught_95 (lv_at hl 5 rfl) ?_
    refine zS_i [.int x5, .int x7] [] zc ky_X11_has kz_X11_has km_11_101 (c_m_has l hw) (zPre0 _) rfl rfl hl.1 (Nat.le_of_ble_eq_true rfl) ⟨rfl, rfl⟩ ⟨Nat.le_of_ble_eq_true rfl, Nat.le_of_ble_eq_true rfl⟩ ⟨(Nat.zero_le _), (Nat.zero_le _)⟩ dX11_taught_97 (fun r_6 hw => ?_)
    refine lv_if_eq (tgt := 129) hx hb dX11_taught_100 (by decide) (fun hc => ?_) (fun hc => ?_)
    · have hw := hw.1 hc
      exact t_m_taught_129 zc hK hM hP73 (fun _ _ ls h hl => h ls hl) (lv_sub hl [0, 1, 2, 3, 4, 5] rfl) hw
    · have hw := hw.2 hc
      refine lv_iload hx hb dX11_taught_103 (lv_at hl 4 rfl) ?_
      refine lv_iconst (v := (-1 : Int32)) hx hb dX11_taught_105 (by decide) ?_
      refine lv_icmp_eq (tgt := 124) hx hb dX11_taught_106 (by decide) (fun hc => ?_) (fun hc => ?_)
      · have hw := hw.1 hc
        exact t_m_taught_124 zc hK hM hP73 (fun _ _ ls h hl => h ls hl) (lv_sub hl [0, 1, 2, 3, 5] rfl) hw
      · have hw := hw.2 hc
        refine lv_aload_n hx hb dX11_taught_109 rfl (lv_at hl 0 rfl) ?_
        refine lv_iload hx hb dX11_taught_110 (lv_at hl 5 rfl) ?_
        refine zV_i [.int x7] [] zc ky_X11_high kz_X11_high km_11_352 (c_m_high l hw) (mPreV0 hK hM) rfl rfl hl.1 (Nat.le_of_ble_eq_true rfl) ⟨rfl, rfl⟩ ⟨Nat.le_of_ble_eq_true rfl, Nat.le_of_ble_eq_true rfl⟩ ⟨(Nat.zero_le _), (Nat.zero_le _)⟩ dX11_taught_112 (fun r_7 hw => ?_)
        refine lv_aload_n hx hb dX11_taught_115 rfl (lv_at hl 0 rfl) ?_
        refine lv_iload hx hb dX11_taught_116 (lv_at hl 4 rfl) ?_
        refine zV_i [.int x6] [.int r_7] zc ky_X11_high kz_X11_high km_11_352 (c_m_high l hw) (mPreV0 hK hM) rfl rfl hl.1 (Nat.le_of_ble_eq_true rfl) ⟨rfl, rfl⟩ ⟨Nat.le_of_ble_eq_true rfl, Nat.le_of_ble_eq_true rfl⟩ ⟨(Nat.zero_le _), (Nat.zero_le _)⟩ dX11_taught_118 (fun r_8 hw => ?_)
        refine lv_icmp_le (tgt := 129) hx hb dX11_taught_121 (by decide) (fun hc => ?_) (fun hc => ?_)
        · have hw := hw.1 hc
          exact t_m_taught_129 zc hK hM hP73 (fun _ _ ls h hl => h ls hl) (lv_sub hl [0, 1, 2, 3, 4, 5] rfl) hw
        · have hw := hw.2 hc
          exact t_m_taught_124 zc hK hM hP73 (fun _ _ ls h hl => h ls hl) (lv_sub hl [0, 1, 2, 3, 5] rfl) hw
set_option maxRecDepth 20000 in
theorem t_m_taught_73 {p : Program} {l : Launch} {e : Env} {s : State} {m : MethodId} {args : Array Value} {below : List Frame} {meth : Method} {c : Code} {E : zE} {q : Nat} {f_code : Int32} {a_tape : Nat → Int32} {a_size : Nat → Int32} {a_fault : Nat → Int32} {a_faultPlace : Nat → Int32} {a_many : Nat → Int32} {a_lands : Nat → Int32} {a_evenings : Nat → Int32} {a_sights : Nat → Int32} {a_choirs : Nat → Int32} {f_reached : Int32} {f_length : Int32} {f_begins : Int32} {f_sort : Int32} {f_value : Int32} {f_word : Int64} {f_wrongAt : Int32} {f_laterFault : Int32} {f_laterPlace : Int32} {a_told : Nat → Int32} {a_read : Nat → Int32} {f_farHut : Int32} {f_farSinger : Int32} {f_good : Int32} {f_land : Int32} {f_huts : Int32} {f_singers : Int32} {f_evening : Int32} {a_at : Nat → Int32} {a_knows : Nat → Int32} {a_climbed : Nat → Int32} {a_snow : Nat → Int32} {a_level : Nat → Int32} {f_begun : Int32} {f_minute : Int32} {f_avalanches : Int32} {a_run : Nat → Int32} {a_covers : Nat → Int32} {a_routes : Nat → Int32} {a_longest : Nat → Int32} {a_steep : Nat → Int32} {a_laid : Nat → Int32} {a_far : Nat → Int32} {f_sight : Int32} {a_runs : Nat → Int32} {f_choir : Int32} {f_voices : Int32} {a_rest : Nat → Int64} {a_wins : Nat → Int32} {f_seed : Int32} {a_other : Nat → Int32} {a_kept : Nat → Int32} {post : Int32 → Prop} {x3 : Int32} {x4 : Int32} {x5 : Int32} {ls : Array Slot}
    (zc : zC p s m args meth c cX11_taught 9 RX11 (some .int))
    (hK : zK E s)
    (hM : mW E q f_code a_tape a_size a_fault a_faultPlace a_many a_lands a_evenings a_sights a_choirs f_reached f_length f_begins f_sort f_value f_word f_wrongAt f_laterFault f_laterPlace a_told a_read f_farHut f_farSinger f_good f_land f_huts f_singers f_evening a_at a_knows a_climbed a_snow a_level f_begun f_minute f_avalanches a_run a_covers a_routes a_longest a_steep a_laid a_far f_sight a_runs f_choir f_voices a_rest a_wins f_seed a_other a_kept s.heap)
    (hl : lv_has ls 9 [(0, .ref q), (3, .int x3), (4, .int x4), (5, .int x5)])
    (hw : q_m_taught_73 a_lands f_land f_singers a_at a_knows a_climbed a_level f_begun x3 x4 x5 post) :
    W p l e rm_m_taught s m args below meth c s.heap [] 0 0 (MQ below (vp_Si post) args s 0 0 (fun _ => False)) (F0 m 73 ls []) := by
  have hx := zc.1
  have hb := zc.2.1
  refine hw (fun x3 x4 x5 => ∀ (ls : Array Slot), lv_has ls 9 [(0, .ref q), (3, .int x3), (4, .int x4), (5, .int x5)] → W p l e rm_m_taught s m args below meth c s.heap [] 0 0 (MQ below (vp_Si post) args s 0 0 (fun _ => False)) (F0 m 73 ls [])) ?_ _ hl
  intro x3 x4 x5 hw ls hl
  refine lv_iload hx hb dX11_taught_73 (lv_at hl 3 rfl) ?_
  refine lv_if_eq (tgt := 254) hx hb dX11_taught_75 (by decide) (fun hc => ?_) (fun hc => ?_)
  · have hw := hw.1 hc
    refine lv_iload_n hx hb dX11_taught_254 rfl (lv_at hl 1 rfl) ?_
    exact zret_i zc hw dX11_taught_255
  · have hw := hw.2 hc
    refine lv_iconst (v := (-1 : Int32)) hx hb dX11_taught_78 (by decide) ?_
    refine lv_istore (lv' := [(6, .int (-1 : Int32)), (0, .ref q), (3, .int x3), (4, .int x4), (5, .int x5)]) hx hb dX11_taught_79 hl (by decide) rfl (fun ls hl => ?_)
    refine lv_iconst (v := (0 : Int32)) hx hb dX11_taught_81 (by decide) ?_
    refine lv_istore (lv' := [(7, .int (0 : Int32)), (6, .int (-1 : Int32)), (0, .ref q), (3, .int x3), (4, .int x4), (5, .int x5)]) hx hb dX11_taught_82 hl (by decide) rfl (fun ls hl => ?_)
    exact t_m_taught_84 zc hK hM (fun _ _ _ ls h hl => h ls hl) (lv_sub hl [2, 3, 4, 5, 1, 0] rfl) hw
set_option maxRecDepth 20000 in
theorem t_m_taught_33 {p : Program} {l : Launch} {e : Env} {s : State} {m : MethodId} {args : Array Value} {below : List Frame} {meth : Method} {c : Code} {E : zE} {q : Nat} {f_code : Int32} {a_tape : Nat → Int32} {a_size : Nat → Int32} {a_fault : Nat → Int32} {a_faultPlace : Nat → Int32} {a_many : Nat → Int32} {a_lands : Nat → Int32} {a_evenings : Nat → Int32} {a_sights : Nat → Int32} {a_choirs : Nat → Int32} {f_reached : Int32} {f_length : Int32} {f_begins : Int32} {f_sort : Int32} {f_value : Int32} {f_word : Int64} {f_wrongAt : Int32} {f_laterFault : Int32} {f_laterPlace : Int32} {a_told : Nat → Int32} {a_read : Nat → Int32} {f_farHut : Int32} {f_farSinger : Int32} {f_good : Int32} {f_land : Int32} {f_huts : Int32} {f_singers : Int32} {f_evening : Int32} {a_at : Nat → Int32} {a_knows : Nat → Int32} {a_climbed : Nat → Int32} {a_snow : Nat → Int32} {a_level : Nat → Int32} {f_begun : Int32} {f_minute : Int32} {f_avalanches : Int32} {a_run : Nat → Int32} {a_covers : Nat → Int32} {a_routes : Nat → Int32} {a_longest : Nat → Int32} {a_steep : Nat → Int32} {a_laid : Nat → Int32} {a_far : Nat → Int32} {f_sight : Int32} {a_runs : Nat → Int32} {f_choir : Int32} {f_voices : Int32} {a_rest : Nat → Int64} {a_wins : Nat → Int32} {f_seed : Int32} {a_other : Nat → Int32} {a_kept : Nat → Int32} {post : Int32 → Prop} {x2 : Int32} {x3 : Int32} {x4 : Int32} {x5 : Int32} {x6 : Int32} {ls : Array Slot}
    (zc : zC p s m args meth c cX11_taught 9 RX11 (some .int))
    (hK : zK E s)
    (hM : mW E q f_code a_tape a_size a_fault a_faultPlace a_many a_lands a_evenings a_sights a_choirs f_reached f_length f_begins f_sort f_value f_word f_wrongAt f_laterFault f_laterPlace a_told a_read f_farHut f_farSinger f_good f_land f_huts f_singers f_evening a_at a_knows a_climbed a_snow a_level f_begun f_minute f_avalanches a_run a_covers a_routes a_longest a_steep a_laid a_far f_sight a_runs f_choir f_voices a_rest a_wins f_seed a_other a_kept s.heap)
    (hl : lv_has ls 9 [(0, .ref q), (2, .int x2), (3, .int x3), (4, .int x4), (5, .int x5), (6, .int x6)])
    (hw : q_m_taught_33 a_lands f_land f_singers a_at a_knows a_climbed a_level f_begun x2 x3 x4 x5 x6 post) :
    W p l e rm_m_taught s m args below meth c s.heap [] 0 0 (MQ below (vp_Si post) args s 0 0 (fun _ => False)) (F0 m 33 ls []) := by
  have hx := zc.1
  have hb := zc.2.1
  refine hw (fun x3 x6 => ∀ (ls : Array Slot), lv_has ls 9 [(0, .ref q), (2, .int x2), (3, .int x3), (4, .int x4), (5, .int x5), (6, .int x6)] → W p l e rm_m_taught s m args below meth c s.heap [] 0 0 (MQ below (vp_Si post) args s 0 0 (fun _ => False)) (F0 m 33 ls [])) ?_ _ hl
  intro x3 x6 hw ls hl
  refine lv_iload hx hb dX11_taught_33 (lv_at hl 5 rfl) ?_
  refine lv_aload_n hx hb dX11_taught_35 rfl (lv_at hl 0 rfl) ?_
  refine mg_11_310_0 zc hK hM dX11_taught_36 ?_
  refine lv_icmp_ge (tgt := 73) hx hb dX11_taught_39 (by decide) (fun hc => ?_) (fun hc => ?_)
  · have hw := hw.1 hc
    exact t_m_taught_73 zc hK hM  (lv_sub hl [0, 2, 3, 4] rfl) hw
  · have hw := hw.2 hc
    refine lv_iload_n hx hb dX11_taught_42 rfl (lv_at hl 2 rfl) ?_
    refine lv_aload_n hx hb dX11_taught_43 rfl (lv_at hl 0 rfl) ?_
    refine mg_11_47_0 zc hK hM dX11_taught_44 ?_
    refine lv_iload hx hb dX11_taught_47 (lv_at hl 5 rfl) ?_
    refine mld_13 zc hK hM hw.1 dX11_taught_49 ?_
    have hw := hw.2
    refine lv_iload_n hx hb dX11_taught_50 rfl (lv_at hl 1 rfl) ?_
    refine zS_i [.int (a_knows (Int32.toNatClampNeg x6)), .int x2] [.int x3] zc ky_X11_has kz_X11_has km_11_101 (c_m_has l hw) (zPre0 _) rfl rfl hl.1 (Nat.le_of_ble_eq_true rfl) ⟨rfl, rfl⟩ ⟨Nat.le_of_ble_eq_true rfl, Nat.le_of_ble_eq_true rfl⟩ ⟨(Nat.zero_le _), (Nat.zero_le _)⟩ dX11_taught_51 (fun r_1 hw => ?_)
    refine lv_if_eq (tgt := 64) hx hb dX11_taught_54 (by decide) (fun hc => ?_) (fun hc => ?_)
    · have hw := hw.1 hc
      refine lv_iconst (v := (0 : Int32)) hx hb dX11_taught_64 (by decide) ?_
      exact t_m_taught_65 zc hK hM (fun _ _ ls h hl => h ls hl) (lv_sub hl [0, 1, 3, 4, 5] rfl) hw
    · have hw := hw.2 hc
      refine lv_iconst (v := (1 : Int32)) hx hb dX11_taught_57 (by decide) ?_
      refine lv_iload hx hb dX11_taught_58 (lv_at hl 5 rfl) ?_
      refine lv_ishl hx hb dX11_taught_60 ?_
      refine lv_goto (tgt := 65) hx hb dX11_taught_61 (by decide) ?_
      exact t_m_taught_65 zc hK hM (fun _ _ ls h hl => h ls hl) (lv_sub hl [0, 1, 3, 4, 5] rfl) hw
set_option maxRecDepth 20000 in
theorem t_m_taught_25 {p : Program} {l : Launch} {e : Env} {s : State} {m : MethodId} {args : Array Value} {below : List Frame} {meth : Method} {c : Code} {E : zE} {q : Nat} {f_code : Int32} {a_tape : Nat → Int32} {a_size : Nat → Int32} {a_fault : Nat → Int32} {a_faultPlace : Nat → Int32} {a_many : Nat → Int32} {a_lands : Nat → Int32} {a_evenings : Nat → Int32} {a_sights : Nat → Int32} {a_choirs : Nat → Int32} {f_reached : Int32} {f_length : Int32} {f_begins : Int32} {f_sort : Int32} {f_value : Int32} {f_word : Int64} {f_wrongAt : Int32} {f_laterFault : Int32} {f_laterPlace : Int32} {a_told : Nat → Int32} {a_read : Nat → Int32} {f_farHut : Int32} {f_farSinger : Int32} {f_good : Int32} {f_land : Int32} {f_huts : Int32} {f_singers : Int32} {f_evening : Int32} {a_at : Nat → Int32} {a_knows : Nat → Int32} {a_climbed : Nat → Int32} {a_snow : Nat → Int32} {a_level : Nat → Int32} {f_begun : Int32} {f_minute : Int32} {f_avalanches : Int32} {a_run : Nat → Int32} {a_covers : Nat → Int32} {a_routes : Nat → Int32} {a_longest : Nat → Int32} {a_steep : Nat → Int32} {a_laid : Nat → Int32} {a_far : Nat → Int32} {f_sight : Int32} {a_runs : Nat → Int32} {f_choir : Int32} {f_voices : Int32} {a_rest : Nat → Int64} {a_wins : Nat → Int32} {f_seed : Int32} {a_other : Nat → Int32} {a_kept : Nat → Int32} {post : Int32 → Prop} {x1 : Int32} {x2 : Int32} {x3 : Int32} {y0 : Int32} {ls : Array Slot}
    (zc : zC p s m args meth c cX11_taught 9 RX11 (some .int))
    (hK : zK E s)
    (hM : mW E q f_code a_tape a_size a_fault a_faultPlace a_many a_lands a_evenings a_sights a_choirs f_reached f_length f_begins f_sort f_value f_word f_wrongAt f_laterFault f_laterPlace a_told a_read f_farHut f_farSinger f_good f_land f_huts f_singers f_evening a_at a_knows a_climbed a_snow a_level f_begun f_minute f_avalanches a_run a_covers a_routes a_longest a_steep a_laid a_far f_sight a_runs f_choir f_voices a_rest a_wins f_seed a_other a_kept s.heap)
    (hl : lv_has ls 9 [(0, .ref q), (1, .int x1), (2, .int x2), (3, .int x3)])
    (hw : q_m_taught_25 a_lands f_land f_singers a_at a_knows a_climbed a_level f_begun x1 x2 x3 y0 post) :
    W p l e rm_m_taught s m args below meth c s.heap [] 0 0 (MQ below (vp_Si post) args s 0 0 (fun _ => False)) (F0 m 25 ls [.int y0]) := by
  have hx := zc.1
  have hb := zc.2.1
  refine lv_istore (lv' := [(4, .int y0), (0, .ref q), (1, .int x1), (2, .int x2), (3, .int x3)]) hx hb dX11_taught_25 hl (by decide) rfl (fun ls hl => ?_)
  refine lv_iload_n hx hb dX11_taught_27 rfl (lv_at hl 2 rfl) ?_
  refine lv_istore (lv' := [(5, .int x1), (4, .int y0), (0, .ref q), (1, .int x1), (2, .int x2), (3, .int x3)]) hx hb dX11_taught_28 hl (by decide) rfl (fun ls hl => ?_)
  refine lv_iconst (v := (0 : Int32)) hx hb dX11_taught_30 (by decide) ?_
  refine lv_istore (lv' := [(6, .int (0 : Int32)), (5, .int x1), (4, .int y0), (0, .ref q), (1, .int x1), (2, .int x2), (3, .int x3)]) hx hb dX11_taught_31 hl (by decide) rfl (fun ls hl => ?_)
  exact t_m_taught_33 zc hK hM  (lv_sub hl [3, 5, 6, 2, 1, 0] rfl) hw
set_option maxRecDepth 20000 in
theorem t_m_taught_0 {p : Program} {l : Launch} {e : Env} {s : State} {m : MethodId} {args : Array Value} {below : List Frame} {meth : Method} {c : Code} {E : zE} {q : Nat} {f_code : Int32} {a_tape : Nat → Int32} {a_size : Nat → Int32} {a_fault : Nat → Int32} {a_faultPlace : Nat → Int32} {a_many : Nat → Int32} {a_lands : Nat → Int32} {a_evenings : Nat → Int32} {a_sights : Nat → Int32} {a_choirs : Nat → Int32} {f_reached : Int32} {f_length : Int32} {f_begins : Int32} {f_sort : Int32} {f_value : Int32} {f_word : Int64} {f_wrongAt : Int32} {f_laterFault : Int32} {f_laterPlace : Int32} {a_told : Nat → Int32} {a_read : Nat → Int32} {f_farHut : Int32} {f_farSinger : Int32} {f_good : Int32} {f_land : Int32} {f_huts : Int32} {f_singers : Int32} {f_evening : Int32} {a_at : Nat → Int32} {a_knows : Nat → Int32} {a_climbed : Nat → Int32} {a_snow : Nat → Int32} {a_level : Nat → Int32} {f_begun : Int32} {f_minute : Int32} {f_avalanches : Int32} {a_run : Nat → Int32} {a_covers : Nat → Int32} {a_routes : Nat → Int32} {a_longest : Nat → Int32} {a_steep : Nat → Int32} {a_laid : Nat → Int32} {a_far : Nat → Int32} {f_sight : Int32} {a_runs : Nat → Int32} {f_choir : Int32} {f_voices : Int32} {a_rest : Nat → Int64} {a_wins : Nat → Int32} {f_seed : Int32} {a_other : Nat → Int32} {a_kept : Nat → Int32} {post : Int32 → Prop} {x1 : Int32} {x2 : Int32} {ls : Array Slot}
    (zc : zC p s m args meth c cX11_taught 9 RX11 (some .int))
    (hK : zK E s)
    (hM : mW E q f_code a_tape a_size a_fault a_faultPlace a_many a_lands a_evenings a_sights a_choirs f_reached f_length f_begins f_sort f_value f_word f_wrongAt f_laterFault f_laterPlace a_told a_read f_farHut f_farSinger f_good f_land f_huts f_singers f_evening a_at a_knows a_climbed a_snow a_level f_begun f_minute f_avalanches a_run a_covers a_routes a_longest a_steep a_laid a_far f_sight a_runs f_choir f_voices a_rest a_wins f_seed a_other a_kept s.heap)
    (hl : lv_has ls 9 [(0, .ref q), (1, .int x1), (2, .int x2)])
    (hw : q_m_taught_0 a_lands f_land f_singers a_at a_knows a_climbed a_level f_begun x1 x2 post) :
    W p l e rm_m_taught s m args below meth c s.heap [] 0 0 (MQ below (vp_Si post) args s 0 0 (fun _ => False)) (F0 m 0 ls []) := by
  have hx := zc.1
  have hb := zc.2.1
  refine lv_iconst (v := (0 : Int32)) hx hb dX11_taught_0 (by decide) ?_
  refine lv_istore_n (lv' := [(3, .int (0 : Int32)), (0, .ref q), (1, .int x1), (2, .int x2)]) hx hb dX11_taught_1 rfl hl (by decide) rfl (fun ls hl => ?_)
  refine lv_aload_n hx hb dX11_taught_2 rfl (lv_at hl 1 rfl) ?_
  refine mg_11_340_0 zc hK hM dX11_taught_3 ?_
  refine lv_iload_n hx hb dX11_taught_6 rfl (lv_at hl 3 rfl) ?_
  refine zS_i [.int f_begun, .int x2] [] zc ky_X11_has kz_X11_has km_11_101 (c_m_has l hw) (zPre0 _) rfl rfl hl.1 (Nat.le_of_ble_eq_true rfl) ⟨rfl, rfl⟩ ⟨Nat.le_of_ble_eq_true rfl, Nat.le_of_ble_eq_true rfl⟩ ⟨(Nat.zero_le _), (Nat.zero_le _)⟩ dX11_taught_7 (fun r_1 hw => ?_)
  refine lv_if_eq (tgt := 22) hx hb dX11_taught_10 (by decide) (fun hc => ?_) (fun hc => ?_)
  · have hw := hw.1 hc
    refine lv_ldcw (v := (1000000 : Int32)) hx hb zc.2.2.2.1 (zc.2.2.2.2.1 _ kc_11_410) dX11_taught_22 ?_
    exact t_m_taught_25 zc hK hM  (lv_sub hl [1, 2, 3, 0] rfl) hw
  · have hw := hw.2 hc
    refine lv_aload_n hx hb dX11_taught_13 rfl (lv_at hl 1 rfl) ?_
    refine mg_11_56_0 zc hK hM dX11_taught_14 ?_
    refine lv_iload_n hx hb dX11_taught_17 rfl (lv_at hl 3 rfl) ?_
    refine mld_16 zc hK hM hw.1 dX11_taught_18 ?_
    have hw := hw.2
    refine lv_goto (tgt := 25) hx hb dX11_taught_19 (by decide) ?_
    exact t_m_taught_25 zc hK hM  (lv_sub hl [1, 2, 3, 0] rfl) hw
set_option maxRecDepth 20000 in
theorem c_m_taught (l : Launch) {E : zE} {q : Nat} {f_code : Int32} {a_tape : Nat → Int32} {a_size : Nat → Int32} {a_fault : Nat → Int32} {a_faultPlace : Nat → Int32} {a_many : Nat → Int32} {a_lands : Nat → Int32} {a_evenings : Nat → Int32} {a_sights : Nat → Int32} {a_choirs : Nat → Int32} {f_reached : Int32} {f_length : Int32} {f_begins : Int32} {f_sort : Int32} {f_value : Int32} {f_word : Int64} {f_wrongAt : Int32} {f_laterFault : Int32} {f_laterPlace : Int32} {a_told : Nat → Int32} {a_read : Nat → Int32} {f_farHut : Int32} {f_farSinger : Int32} {f_good : Int32} {f_land : Int32} {f_huts : Int32} {f_singers : Int32} {f_evening : Int32} {a_at : Nat → Int32} {a_knows : Nat → Int32} {a_climbed : Nat → Int32} {a_snow : Nat → Int32} {a_level : Nat → Int32} {f_begun : Int32} {f_minute : Int32} {f_avalanches : Int32} {a_run : Nat → Int32} {a_covers : Nat → Int32} {a_routes : Nat → Int32} {a_longest : Nat → Int32} {a_steep : Nat → Int32} {a_laid : Nat → Int32} {a_far : Nat → Int32} {f_sight : Int32} {a_runs : Nat → Int32} {f_choir : Int32} {f_voices : Int32} {a_rest : Nat → Int64} {a_wins : Nat → Int32} {f_seed : Int32} {a_other : Nat → Int32} {a_kept : Nat → Int32} {x1 : Int32} {x2 : Int32} {post : Int32 → Prop} (hw : q_m_taught_0 a_lands f_land f_singers a_at a_knows a_climbed a_level f_begun x1 x2 post) : Met l yX11_taught (Cond.code yX11_taught cX11_taught 9 (some .int) :: zb) rm_m_taught (va_Pc [.ref q, .int x1, .int x2] (fun U => mW E q f_code a_tape a_size a_fault a_faultPlace a_many a_lands a_evenings a_sights a_choirs f_reached f_length f_begins f_sort f_value f_word f_wrongAt f_laterFault f_laterPlace a_told a_read f_farHut f_farSinger f_good f_land f_huts f_singers f_evening a_at a_knows a_climbed a_snow a_level f_begun f_minute f_avalanches a_run a_covers a_routes a_longest a_steep a_laid a_far f_sight a_runs f_choir f_voices a_rest a_wins f_seed a_other a_kept U.heap ∧ zK E U)) (vp_Si post) 0 0 (fun _ => False) := by
  refine Met.ofW (cc := cX11_taught) (maxL := 9) (ret := (some .int)) (by decide) rfl ?_
  intro p e s m args below meth c s₁ B hml hv
  obtain ⟨rfl, hM, hK⟩ := hv
  have zc := zc_of B hml
  have hl := lv_entry ([.ref q, .int x1, .int x2]) (n := 9) (Nat.le_of_ble_eq_true rfl)
  rw [lg_entry_eq]
  generalize (lg_sl ([.ref q, .int x1, .int x2]) ++ List.replicate (9 - (lg_sl ([.ref q, .int x1, .int x2])).length) Slot.unset).toArray = ls at hl ⊢
  have hl : lv_has ls 9 [(0, .ref q), (1, .int x1), (2, .int x2)] := hl
  exact t_m_taught_0 zc hK hM (lv_sub hl [0, 1, 2] rfl) hw
end
