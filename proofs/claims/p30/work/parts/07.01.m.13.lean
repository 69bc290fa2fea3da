section
-- m_carry
abbrev rm_m_carry : Room := { frames := 3, cells := 0, slots := 0, locals := 70 }
def q_m_carry_136 (f_code : Int32) (a_many : Nat → Int32) (a_lands : Nat → Int32) (f_land : Int32) (f_huts : Int32) (f_singers : Int32) (a_run : Nat → Int32) (a_far : Nat → Int32) (x4 : Int32) (post : Int32 → (Int32) → (Int32) → (Int32) → (Int32) → (Nat → Int32) → (Nat → Int32) → Prop) : Prop :=
  post x4 f_code f_land f_huts f_singers a_run a_far
def q_m_carry_109 (P38 : Int32 → Int32 → Int32 → (Nat → Int32) → Prop) (f_code : Int32) (a_many : Nat → Int32) (a_lands : Nat → Int32) (f_land : Int32) (f_huts : Int32) (f_singers : Int32) (a_run : Nat → Int32) (a_far : Nat → Int32) (x2 : Int32) (x3 : Int32) (x5 : Int32) (x6 : Int32) (x7 : Int32) (y0 : Int32) (post : Int32 → (Int32) → (Int32) → (Int32) → (Int32) → (Nat → Int32) → (Nat → Int32) → Prop) : Prop :=
  q_m_lesser_0 x5 x7 (fun r_1 => ∀ v_1 : Int32, v_1 = x6 + (1 : Int32) → (P38 y0 r_1 v_1 a_run))
def q_m_carry_93 (P38 : Int32 → Int32 → Int32 → (Nat → Int32) → Prop) (f_code : Int32) (a_many : Nat → Int32) (a_lands : Nat → Int32) (f_land : Int32) (f_huts : Int32) (f_singers : Int32) (a_run : Nat → Int32) (a_far : Nat → Int32) (x2 : Int32) (x3 : Int32) (x4 : Int32) (x5 : Int32) (x6 : Int32) (y0 : Int32) (post : Int32 → (Int32) → (Int32) → (Int32) → (Int32) → (Nat → Int32) → (Nat → Int32) → Prop) : Prop :=
  (x5 ≤ y0 → (q_m_carry_109 P38 f_code a_many a_lands f_land f_huts f_singers a_run a_far x2 x3 x5 x6 y0 x4 post)) ∧ (¬ x5 ≤ y0 → (q_m_carry_109 P38 f_code a_many a_lands f_land f_huts f_singers a_run a_far x2 x3 x5 x6 y0 x6 post))
def q_m_carry_38 (f_code : Int32) (a_many : Nat → Int32) (a_lands : Nat → Int32) (f_land : Int32) (f_huts : Int32) (f_singers : Int32) (a_run : Nat → Int32) (a_far : Nat → Int32) (x2 : Int32) (x3 : Int32) (x4 : Int32) (x5 : Int32) (x6 : Int32) (post : Int32 → (Int32) → (Int32) → (Int32) → (Int32) → (Nat → Int32) → (Nat → Int32) → Prop) : Prop :=
  ∀ P38 : Int32 → Int32 → Int32 → (Nat → Int32) → Prop, (∀ (x4 : Int32) (x5 : Int32) (x6 : Int32) (a_run : Nat → Int32), ((f_huts ≤ x6 → ((x4 = (-1 : Int32) → (q_m_carry_136 f_code a_many a_lands f_land f_huts f_singers a_run a_far x4 post)) ∧ (¬ x4 = (-1 : Int32) → ((¬ x3 = 0 → (post x5 f_code f_land f_huts f_singers a_run a_far)) ∧ (x3 = 0 → (q_m_carry_136 f_code a_many a_lands f_land f_huts f_singers a_run a_far x4 post)))))) ∧ (¬ f_huts ≤ x6 → (q_m_findRun_0 a_lands f_land f_huts a_run x6 (0 : Int32) (fun a_run_1 => q_m_isDam_0 a_lands f_land x6 (fun r_1 => (r_1 = 0 → (q_m_of_0 a_lands f_land ((25 : Int32) + x2) (fun r_2 => vp_in (((9 : Int32) * r_2) + x6) 81 ∧ (q_m_lastVillage_0 a_lands f_land f_huts a_run_1 (fun r_3 => q_m_carry_93 P38 f_code a_many a_lands f_land f_huts f_singers a_run_1 a_far x2 x3 x4 x5 x6 ((a_far (Int32.toNatClampNeg (((9 : Int32) * r_2) + x6))) + r_3) post))))) ∧ (¬ r_1 = 0 → (q_m_carry_93 P38 f_code a_many a_lands f_land f_huts f_singers a_run_1 a_far x2 x3 x4 x5 x6 (1000000 : Int32) post))))))) → P38 x4 x5 x6 a_run) → P38 x4 x5 x6 a_run
def q_m_carry_0 (f_code : Int32) (a_many : Nat → Int32) (a_lands : Nat → Int32) (f_land : Int32) (f_huts : Int32) (f_singers : Int32) (a_run : Nat → Int32) (a_far : Nat → Int32) (x1 : Int32) (x2 : Int32) (x3 : Int32) (post : Int32 → (Int32) → (Int32) → (Int32) → (Int32) → (Nat → Int32) → (Nat → Int32) → Prop) : Prop :=
  q_m_hand_0 a_many a_lands f_land f_huts f_singers x1 (fun r_1 f_land_1 f_huts_1 f_singers_1 => (r_1 = 0 → (post (-1 : Int32) (0 : Int32) f_land_1 f_huts_1 f_singers_1 a_run a_far)) ∧ (¬ r_1 = 0 → (q_m_isSinger_0 f_singers_1 x2 (fun r_2 => (¬ r_2 = 0 → (q_m_findFar_0 a_lands f_land_1 f_huts_1 a_far (fun a_far_1 => q_m_carry_38 (0 : Int32) a_many a_lands f_land_1 f_huts_1 f_singers_1 a_run a_far_1 x2 x3 (-1 : Int32) (1000000 : Int32) (0 : Int32) post))) ∧ (r_2 = 0 → (post (-1 : Int32) (0 : Int32) f_land_1 f_huts_1 f_singers_1 a_run a_far))))))
set_option maxRecDepth 20000 in
theorem t_m_carry_136 {p : Program} {l : Launch} {e : Env} {s : State} {m : MethodId} {args : Array Value} {below : List Frame} {meth : Method} {c : Code} {E : zE} {q : Nat} {f_code : Int32} {a_tape : Nat → Int32} {a_size : Nat → Int32} {a_fault : Nat → Int32} {a_faultPlace : Nat → Int32} {a_many : Nat → Int32} {a_lands : Nat → Int32} {a_evenings : Nat → Int32} {a_sights : Nat → Int32} {a_choirs : Nat → Int32} {f_reached : Int32} {f_length : Int32} {f_begins : Int32} {f_sort : Int32} {f_value : Int32} {f_word : Int64} {f_wrongAt : Int32} {f_laterFault : Int32} {f_laterPlace : Int32} {a_told : Nat → Int32} {a_read : Nat → Int32} {f_farHut : Int32} {f_farSinger : Int32} {f_good : Int32} {f_land : Int32} {f_huts : Int32} {f_singers : Int32} {f_evening : Int32} {a_at : Nat → Int32} {a_knows : Nat → Int32} {a_climbed : Nat → Int32} {a_snow : Nat → Int32} {a_level : Nat → Int32} {f_begun : Int32} {f_minute : Int32} {f_avalanches : Int32} {a_run : Nat → Int32} {a_covers : Nat → Int32} {a_routes : Nat → Int32} {a_longest : Nat → Int32} {a_steep : Nat → Int32} {a_laid : Nat → Int32} {a_far : Nat → Int32} {f_sight : Int32} {a_runs : Nat → Int32} {f_choir : Int32} {f_voices : Int32} {a_rest : Nat → Int64} {a_wins : Nat → Int32} {f_seed : Int32} {a_other : Nat → Int32} {a_kept : Nat → Int32} {post : Int32 → (Int32) → (Int32) → (Int32) → (Int32) → (Nat → Int32) → (Nat → Int32) → Prop} {x4 : Int32} {ls : Array Slot} {H : Heap} {locs : List Loc}
    (zc : zC p s m args meth c cX11_carry 8 RX11 (some .int))
    (hK : zK E s)
    (hM : mW E q f_code a_tape a_size a_fault a_faultPlace a_many a_lands a_evenings a_sights a_choirs f_reached f_length f_begins f_sort f_value f_word f_wrongAt f_laterFault f_laterPlace a_told a_read f_farHut f_farSinger f_good f_land f_huts f_singers f_evening a_at a_knows a_climbed a_snow a_level f_begun f_minute f_avalanches a_run a_covers a_routes a_longest a_steep a_laid a_far f_sight a_runs f_choir f_voices a_rest a_wins f_seed a_other a_kept H)
    (hS : va_S (mA q) s.heap H locs)
    (hl : lv_has ls 8 [(4, .int x4)])
    (hw : q_m_carry_136 f_code a_many a_lands f_land f_huts f_singers a_run a_far x4 post) :
    W p l e rm_m_carry s m args below meth c H locs 0 0 (MQ below (zQi (S := (Int32) × (Int32) × (Int32) × (Int32) × (Nat → Int32) × (Nat → Int32)) (fun r u => post r u.1 u.2.1 u.2.2.1 u.2.2.2.1 u.2.2.2.2.1 u.2.2.2.2.2) (fun u H => mW E q u.1 a_tape a_size a_fault a_faultPlace a_many a_lands a_evenings a_sights a_choirs f_reached f_length f_begins f_sort f_value f_word f_wrongAt f_laterFault f_laterPlace a_told a_read f_farHut f_farSinger f_good u.2.1 u.2.2.1 u.2.2.2.1 f_evening a_at a_knows a_climbed a_snow a_level f_begun f_minute f_avalanches u.2.2.2.2.1 a_covers a_routes a_longest a_steep a_laid u.2.2.2.2.2 f_sight a_runs f_choir f_voices a_rest a_wins f_seed a_other a_kept H) (mA q)) args s 0 0 (mA q)) (F0 m 136 ls []) := by
  have hx := zc.1
  have hb := zc.2.1
  refine lv_iload hx hb dX11_carry_136 (lv_at hl 0 rfl) ?_
  refine lv_goto (tgt := 143) hx hb dX11_carry_138 (by decide) ?_
  exact zret_iw ⟨f_code, f_land, f_huts, f_singers, a_run, a_far⟩ zc hS hw hM dX11_carry_143
set_option maxRecDepth 20000 in
theorem t_m_carry_109 {p : Program} {l : Launch} {e : Env} {s : State} {m : MethodId} {args : Array Value} {below : List Frame} {meth : Method} {c : Code} {E : zE} {q : Nat} {f_code : Int32} {a_tape : Nat → Int32} {a_size : Nat → Int32} {a_fault : Nat → Int32} {a_faultPlace : Nat → Int32} {a_many : Nat → Int32} {a_lands : Nat → Int32} {a_evenings : Nat → Int32} {a_sights : Nat → Int32} {a_choirs : Nat → Int32} {f_reached : Int32} {f_length : Int32} {f_begins : Int32} {f_sort : Int32} {f_value : Int32} {f_word : Int64} {f_wrongAt : Int32} {f_laterFault : Int32} {f_laterPlace : Int32} {a_told : Nat → Int32} {a_read : Nat → Int32} {f_farHut : Int32} {f_farSinger : Int32} {f_good : Int32} {f_land : Int32} {f_huts : Int32} {f_singers : Int32} {f_evening : Int32} {a_at : Nat → Int32} {a_knows : Nat → Int32} {a_climbed : Nat → Int32} {a_snow : Nat → Int32} {a_level : Nat → Int32} {f_begun : Int32} {f_minute : Int32} {f_avalanches : Int32} {a_run : Nat → Int32} {a_covers : Nat → Int32} {a_routes : Nat → Int32} {a_longest : Nat → Int32} {a_steep : Nat → Int32} {a_laid : Nat → Int32} {a_far : Nat → Int32} {f_sight : Int32} {a_runs : Nat → Int32} {f_choir : Int32} {f_voices : Int32} {a_rest : Nat → Int64} {a_wins : Nat → Int32} {f_seed : Int32} {a_other : Nat → Int32} {a_kept : Nat → Int32} {P38 : Int32 → Int32 → Int32 → (Nat → Int32) → Prop} {post : Int32 → (Int32) → (Int32) → (Int32) → (Int32) → (Nat → Int32) → (Nat → Int32) → Prop} {x2 : Int32} {x3 : Int32} {x5 : Int32} {x6 : Int32} {x7 : Int32} {y0 : Int32} {ls : Array Slot} {H : Heap} {locs : List Loc}
    (zc : zC p s m args meth c cX11_carry 8 RX11 (some .int))
    (hK : zK E s)
    (hM : mW E q f_code a_tape a_size a_fault a_faultPlace a_many a_lands a_evenings a_sights a_choirs f_reached f_length f_begins f_sort f_value f_word f_wrongAt f_laterFault f_laterPlace a_told a_read f_farHut f_farSinger f_good f_land f_huts f_singers f_evening a_at a_knows a_climbed a_snow a_level f_begun f_minute f_avalanches a_run a_covers a_routes a_longest a_steep a_laid a_far f_sight a_runs f_choir f_voices a_rest a_wins f_seed a_other a_kept H)
    (hS : va_S (mA q) s.heap H locs)
    (hP38 : ∀ (x4 : Int32) (x5 : Int32) (x6 : Int32) (a_run : Nat → Int32) (H : Heap) (locs : List Loc) (ls : Array Slot), P38 x4 x5 x6 a_run → lv_has ls 8 [(0, .ref q), (2, .int x2), (3, .int x3), (4, .int x4), (5, .int x5), (6, .int x6)] → mW E q f_code a_tape a_size a_fault a_faultPlace a_many a_lands a_evenings a_sights a_choirs f_reached f_length f_begins f_sort f_value f_word f_wrongAt f_laterFault f_laterPlace a_told a_read f_farHut f_farSinger f_good f_land f_huts f_singers f_evening a_at a_knows a_climbed a_snow a_level f_begun f_minute f_avalanches a_run a_covers a_routes a_longest a_steep a_laid a_far f_sight a_runs f_choir f_voices a_rest a_wins f_seed a_other a_kept H → va_S (mA q) s.heap H locs → W p l e rm_m_carry s m args below meth c H locs 0 0 (MQ below (zQi (S := (Int32) × (Int32) × (Int32) × (Int32) × (Nat → Int32) × (Nat → Int32)) (fun r u => post r u.1 u.2.1 u.2.2.1 u.2.2.2.1 u.2.2.2.2.1 u.2.2.2.2.2) (fun u H => mW E q u.1 a_tape a_size a_fault a_faultPlace a_many a_lands a_evenings a_sights a_choirs f_reached f_length f_begins f_sort f_value f_word f_wrongAt f_laterFault f_laterPlace a_told a_read f_farHut f_farSinger f_good u.2.1 u.2.2.1 u.2.2.2.1 f_evening a_at a_knows a_climbed a_snow a_level f_begun f_minute f_avalanches u.2.2.2.2.1 a_covers a_routes a_longest a_steep a_laid u.2.2.2.2.2 f_sight a_runs f_choir f_voices a_rest a_wins f_seed a_other a_kept H) (mA q)) args s 0 0 (mA q)) (F0 m 38 ls []))
    (hl : lv_has ls 8 [(0, .ref q), (2, .int x2), (3, .int x3), (5, .int x5), (6, .int x6), (7, .int x7)])
    (hw : q_m_carry_109 P38 f_code a_many a_lands f_land f_huts f_singers a_run a_far x2 x3 x5 x6 x7 y0 post) :
    W p l e rm_m_carry s m args below meth c H locs 0 0 (MQ below (zQi (S := (Int32) × (Int32) × (Int32) × (Int32) × (Nat → Int32) × (Nat → Int32)) (fun r u => post r u.1 u.2.1 u.2.2.1 u.2.2.2.1 u.2.2.2.2.1 u.2.2.2.2.2) (fun u H => mW E q u.1 a_tape a_size a_fault a_faultPlace a_many a_lands a_evenings a_sights a_choirs f_reached f_length f_begins f_sort f_value f_word f_wrongAt f_laterFault f_laterPlace a_told a_read f_farHut f_farSinger f_good u.2.1 u.2.2.1 u.2.2.2.1 f_evening a_at a_knows a_climbed a_snow a_level f_begun f_minute f_avalanches u.2.2.2.2.1 a_covers a_routes a_longest a_steep a_laid u.2.2.2.2.2 f_sight a_runs f_choir f_voices a_rest a_wins f_seed a_other a_kept H) (mA q)) args s 0 0 (mA q)) (F0 m 109 ls [.int y0]) := by
  have hx := zc.1
  have hb := zc.2.1
  refine lv_istore (lv' := [(4, .int y0), (0, .ref q), (2, .int x2), (3, .int x3), (5, .int x5), (6, .int x6), (7, .int x7)]) hx hb dX11_carry_109 hl (by decide) rfl (fun ls hl => ?_)
  refine lv_iload hx hb dX11_carry_111 (lv_at hl 4 rfl) ?_
  refine lv_iload hx hb dX11_carry_113 (lv_at hl 6 rfl) ?_
  refine zS_i [.int x5, .int x7] [] zc ky_X11_lesser kz_X11_lesser km_11_411 (c_m_lesser l hw) (zPre0 _) rfl rfl hl.1 (Nat.le_of_ble_eq_true rfl) ⟨rfl, rfl⟩ ⟨Nat.le_of_ble_eq_true rfl, Nat.le_of_ble_eq_true rfl⟩ ⟨(Nat.zero_le _), (Nat.zero_le _)⟩ dX11_carry_115 (fun r_1 hw => ?_)
  refine lv_istore (lv' := [(5, .int r_1), (4, .int y0), (0, .ref q), (2, .int x2), (3, .int x3), (6, .int x6), (7, .int x7)]) hx hb dX11_carry_118 hl (by decide) rfl (fun ls hl => ?_)
  obtain ⟨v_1, ev_1⟩ : ∃ y : Int32, y = x6 + (1 : Int32) := ⟨_, rfl⟩
  have hw := hw v_1 ev_1
  refine lv_iinc (v := v_1) (k := 5) (lv' := [(6, .int v_1), (5, .int r_1), (4, .int y0), (0, .ref q), (2, .int x2), (3, .int x3), (7, .int x7)]) hx hb dX11_carry_120 hl rfl (by rw [ev_1]; rfl) (by decide) rfl (fun ls hl => ?_)
  refine lv_goto (tgt := 38) hx hb dX11_carry_123 (by decide) ?_
  exact hP38 _ _ _ _ _ _ _ hw (lv_sub hl [3, 4, 5, 2, 1, 0] rfl) hM hS
set_option maxRecDepth 20000 in
theorem t_m_carry_93 {p : Program} {l : Launch} {e : Env} {s : State} {m : MethodId} {args : Array Value} {below : List Frame} {meth : Method} {c : Code} {E : zE} {q : Nat} {f_code : Int32} {a_tape : Nat → Int32} {a_size : Nat → Int32} {a_fault : Nat → Int32} {a_faultPlace : Nat → Int32} {a_many : Nat → Int32} {a_lands : Nat → Int32} {a_evenings : Nat → Int32} {a_sights : Nat → Int32} {a_choirs : Nat → Int32} {f_reached : Int32} {f_length : Int32} {f_begins : Int32} {f_sort : Int32} {f_value : Int32} {f_word : Int64} {f_wrongAt : Int32} {f_laterFault : Int32} {f_laterPlace : Int32} {a_told : Nat → Int32} {a_read : Nat → Int32} {f_farHut : Int32} {f_farSinger : Int32} {f_good : Int32} {f_land : Int32} {f_huts : Int32} {f_singers : Int32} {f_evening : Int32} {a_at : Nat → Int32} {a_knows : Nat → Int32} {a_climbed : Nat → Int32} {a_snow : Nat → Int32} {a_level : Nat → Int32} {f_begun : Int32} {f_minute : Int32} {f_avalanches : Int32} {a_run : Nat → Int32} {a_covers : Nat → Int32} {a_routes : Nat → Int32} {a_longest : Nat → Int32} {a_steep : Nat → Int32} {a_laid : Nat → Int32} {a_far : Nat → Int32} {f_sight : Int32} {a_runs : Nat → Int32} {f_choir : Int32} {f_voices : Int32} {a_rest : Nat → Int64} {a_wins : Nat → Int32} {f_seed : Int32} {a_other : Nat → Int32} {a_kept : Nat → Int32} {P38 : Int32 → Int32 → Int32 → (Nat → Int32) → Prop} {post : Int32 → (Int32) → (Int32) → (Int32) → (Int32) → (Nat → Int32) → (Nat → Int32) → Prop} {x2 : Int32} {x3 : Int32} {x4 : Int32} {x5 : Int32} {x6 : Int32} {y0 : Int32} {ls : Array Slot} {H : Heap} {locs : List Loc}
    (zc : zC p s m args meth c cX11_carry 8 RX11 (some .int))
    (hK : zK E s)
    (hM : mW E q f_code a_tape a_size a_fault a_faultPlace a_many a_lands a_evenings a_sights a_choirs f_reached f_length f_begins f_sort f_value f_word f_wrongAt f_laterFault f_laterPlace a_told a_read f_farHut f_farSinger f_good f_land f_huts f_singers f_evening a_at a_knows a_climbed a_snow a_level f_begun f_minute f_avalanches a_run a_covers a_routes a_longest a_steep a_laid a_far f_sight a_runs f_choir f_voices a_rest a_wins f_seed a_other a_kept H)
    (hS : va_S (mA q) s.heap H locs)
    (hP38 : ∀ (x4 : Int32) (x5 : Int32) (x6 : Int32) (a_run : Nat → Int32) (H : Heap) (locs : List Loc) (ls : Array Slot), P38 x4 x5 x6 a_run → lv_has ls 8 [(0, .ref q), (2, .int x2), (3, .int x3), (4, .int x4), (5, .int x5), (6, .int x6)] → mW E q f_code a_tape a_size a_fault a_faultPlace a_many a_lands a_evenings a_sights a_choirs f_reached f_length f_begins f_sort f_value f_word f_wrongAt f_laterFault f_laterPlace a_told a_read f_farHut f_farSinger f_good f_land f_huts f_singers f_evening a_at a_knows a_climbed a_snow a_level f_begun f_minute f_avalanches a_run a_covers a_routes a_longest a_steep a_laid a_far f_sight a_runs f_choir f_voices a_rest a_wins f_seed a_other a_kept H → va_S (mA q) s.heap H locs → W p l e rm_m_carry s m args below meth c H locs 0 0 (MQ below (zQi (S := (Int32) × (Int32) × (Int32) × (Int32) × (Nat → Int32) × (Nat → Int32)) (fun r u => post r u.1 u.2.1 u.2.2.1 u.2.2.2.1 u.2.2.2.2.1 u.2.2.2.2.2) (fun u H => mW E q u.1 a_tape a_size a_fault a_faultPlace a_many a_lands a_evenings a_sights a_choirs f_reached f_length f_begins f_sort f_value f_word f_wrongAt f_laterFault f_laterPlace a_told a_read f_farHut f_farSinger f_good u.2.1 u.2.2.1 u.2.2.2.1 f_evening a_at a_knows a_climbed a_snow a_level f_begun f_minute f_avalanches u.2.2.2.2.1 a_covers a_routes a_longest a_steep a_laid u.2.2.2.2.2 f_sight a_runs f_choir f_voices a_rest a_wins f_seed a_other a_kept H) (mA q)) args s 0 0 (mA q)) (F0 m 38 ls []))
    (hl : lv_has ls 8 [(0, .ref q), (2, .int x2), (3, .int x3), (4, .int x4), (5, .int x5), (6, .int x6)])
    (hw : q_m_carry_93 P38 f_code a_many a_lands f_land f_huts f_singers a_run a_far x2 x3 x4 x5 x6 y0 post) :
    W p l e rm_m_carry s m args below meth c H locs 0 0 (MQ below (zQi (S := (Int32) × (Int32) × (Int32) × (Int32) × (Nat → Int32) × (Nat → Int32)) (fun r u => post r u.1 u.2.1 u.2.2.1 u.2.2.2.1 u.2.2.2.2.1 u.2.2.2.2.2) (fun u H => mW E q u.1 a_tape a_size a_fault a_faultPlace a_many a_lands a_evenings a_sights a_choirs f_reached f_length f_begins f_sort f_value f_word f_wrongAt f_laterFault f_laterPlace a_told a_read f_farHut f_farSinger f_good u.2.1 u.2.2.1 u.2.2.2.1 f_evening a_at a_knows a_climbed a_snow a_level f_begun f_minute f_avalanches u.2.2.2.2.1 a_covers a_routes a_longest a_steep a_laid u.2.2.2.2.2 f_sight a_runs f_choir f_voices a_rest a_wins f_seed a_other a_kept H) (mA q)) args s 0 0 (mA q)) (F0 m 93 ls [.int y0]) := by
  have hx := zc.1
  have hb := zc.2.1
  refine lv_istore (lv' := [(7, .int y0), (0, .ref q), (2, .int x2), (3, .int x3), (4, .int x4), (5, .int x5), (6, .int x6)]) hx hb dX11_carry_93 hl (by decide) rfl (fun ls hl => ?_)
  refine lv_iload hx hb dX11_carry_95 (lv_at hl 0 rfl) ?_
  refine lv_iload hx hb dX11_carry_97 (lv_at hl 5 rfl) ?_
  refine lv_icmp_ge (tgt := 107) hx hb dX11_carry_99 (by decide) (fun hc => ?_) (fun hc => ?_)
  · have hw := hw.1 hc
    refine lv_iload hx hb dX11_carry_107 (lv_at hl 4 rfl) ?_
    exact t_m_carry_109 zc hK hM hS hP38 (lv_sub hl [1, 2, 3, 5, 6, 0] rfl) hw
  · have hw := hw.2 hc
    refine lv_iload hx hb dX11_carry_102 (lv_at hl 6 rfl) ?_
    refine lv_goto (tgt := 109) hx hb dX11_carry_104 (by decide) ?_
    exact t_m_carry_109 zc hK hM hS hP38 (lv_sub hl [1, 2, 3, 5, 6, 0] rfl) hw
set_option maxRecDepth 20000 in
theorem t_m_carry_38 {p : Program} {l : Launch} {e : Env} {s : State} {m : MethodId} {args : Array Value} {below : List Frame} {meth : Method} {c : Code} {E : zE} {q : Nat} {f_code : Int32} {a_tape : Nat → Int32} {a_size : Nat → Int32} {a_fault : Nat → Int32} {a_faultPlace : Nat → Int32} {a_many : Nat → Int32} {a_lands : Nat → Int32} {a_evenings : Nat → Int32} {a_sights : Nat → Int32} {a_choirs : Nat → Int32} {f_reached : Int32} {f_length : Int32} {f_begins : Int32} {f_sort : Int32} {f_value : Int32} {f_word : Int64} {f_wrongAt : Int32} {f_laterFault : Int32} {f_laterPlace : Int32} {a_told : Nat → Int32} {a_read : Nat → Int32} {f_farHut : Int32} {f_farSinger : Int32} {f_good : Int32} {f_land : Int32} {f_huts : Int32} {f_singers : Int32} {f_evening : Int32} {a_at : Nat → Int32} {a_knows : Nat → Int32} {a_climbed : Nat → Int32} {a_snow : Nat → Int32} {a_level : Nat → Int32} {f_begun : Int32} {f_minute : Int32} {f_avalanches : Int32} {a_run : Nat → Int32} {a_covers : Nat → Int32} {a_routes : Nat → Int32} {a_longest : Nat → Int32} {a_steep : Nat → Int32} {a_laid : Nat → Int32} {a_far : Nat → Int32} {f_sight : Int32} {a_runs : Nat → Int32} {f_choir : Int32} {f_voices : Int32} {a_rest : Nat → Int64} {a_wins : Nat → Int32} {f_seed : Int32} {a_other : Nat → Int32} {a_kept : Nat → Int32} {post : Int32 → (Int32) → (Int32) → (Int32) → (Int32) → (Nat → Int32) → (Nat → Int32) → Prop} {x2 : Int32} {x3 : Int32} {x4 : Int32} {x5 : Int32} {x6 : Int32} {ls : Array Slot} {H : Heap} {locs : List Loc}
    (zc : zC p s m args meth c cX11_carry 8 RX11 (some .int))
    (hK : zK E s)
    (hM : mW E q f_code a_tape a_size a_fault a_faultPlace a_many a_lands a_evenings a_sights a_choirs f_reached f_length f_begins f_sort f_value f_word f_wrongAt f_laterFault f_laterPlace a_told a_read f_farHut f_farSinger f_good f_land f_huts f_singers f_evening a_at a_knows a_climbed a_snow a_level f_begun f_minute f_avalanches a_run a_covers a_routes a_longest a_steep a_laid a_far f_sight a_runs f_choir f_voices a_rest a_wins f_seed a_other a_kept H)
    (hS : va_S (mA q) s.heap H locs)
    (hl : lv_has ls 8 [(0, .ref q), (2, .int x2), (3, .int x3), (4, .int x4), (5, .int x5), (6, .int x6)])
    (hw : q_m_carry_38 f_code a_many a_lands f_land f_huts f_singers a_run a_far x2 x3 x4 x5 x6 post) :
    W p l e rm_m_carry s m args below meth c H locs 0 0 (MQ below (zQi (S := (Int32) × (Int32) × (Int32) × (Int32) × (Nat → Int32) × (Nat → Int32)) (fun r u => post r u.1 u.2.1 u.2.2.1 u.2.2.2.1 u.2.2.2.2.1 u.2.2.2.2.2) (fun u H => mW E q u.1 a_tape a_size a_fault a_faultPlace a_many a_lands a_evenings a_sights a_choirs f_reached f_length f_begins f_sort f_value f_word f_wrongAt f_laterFault f_laterPlace a_told a_read f_farHut f_farSinger f_good u.2.1 u.2.2.1 u.2.2.2.1 f_evening a_at a_knows a_climbed a_snow a_level f_begun f_minute f_avalanches u.2.2.2.2.1 a_covers a_routes a_longest a_steep a_laid u.2.2.2.2.2 f_sight a_runs f_choir f_voices a_rest a_wins f_seed a_other a_kept H) (mA q)) args s 0 0 (mA q)) (F0 m 38 ls []) := by
  have hx := zc.1
  have hb := zc.2.1
  refine hw (fun x4 x5 x6 a_run => ∀ (H : Heap) (locs : List Loc) (ls : Array Slot), lv_has ls 8 [(0, .ref q), (2, .int x2), (3, .int x3), (4, .int x4), (5, .int x5), (6, .int x6)] → mW E q f_code a_tape a_size a_fault a_faultPlace a_many a_lands a_evenings a_sights a_choirs f_reached f_length f_begins f_sort f_value f_word f_wrongAt f_laterFault f_laterPlace a_told a_read f_farHut f_farSinger f_good f_land f_huts f_singers f_evening a_at a_knows a_climbed a_snow a_level f_begun f_minute f_avalanches a_run a_covers a_routes a_longest a_steep a_laid a_far f_sight a_runs f_choir f_voices a_rest a_wins f_seed a_other a_kept H → va_S (mA q) s.heap H locs → W p l e rm_m_carry s m args below meth c H locs 0 0 (MQ below (zQi (S := (Int32) × (Int32) × (Int32) × (Int32) × (Nat → Int32) × (Nat → Int32)) (fun r u => post r u.1 u.2.1 u.2.2.1 u.2.2.2.1 u.2.2.2.2.1 u.2.2.2.2.2) (fun u H => mW E q u.1 a_tape a_size a_fault a_faultPlace a_many a_lands a_evenings a_sights a_choirs f_reached f_length f_begins f_sort f_value f_word f_wrongAt f_laterFault f_laterPlace a_told a_read f_farHut f_farSinger f_good u.2.1 u.2.2.1 u.2.2.2.1 f_evening a_at a_knows a_climbed a_snow a_level f_begun f_minute f_avalanches u.2.2.2.2.1 a_covers a_routes a_longest a_steep a_laid u.2.2.2.2.2 f_sight a_runs f_choir f_voices a_rest a_wins f_seed a_other a_kept H) (mA q)) args s 0 0 (mA q)) (F0 m 38 ls [])) ?_ _ _ _ hl hM hS
  intro x4 x5 x6 a_run hw H locs ls hl hM hS
  refine lv_iload hx hb dX11_carry_38 (lv_at hl 5 rfl) ?_
  refine lv_aload_n hx hb dX11_carry_40 rfl (lv_at hl 0 rfl) ?_
  refine mg_11_307_0 zc hK hM dX11_carry_41 ?_
  refine lv_icmp_ge (tgt := 126) hx hb dX11_carry_44 (by decide) (fun hc => ?_) (fun hc => ?_)
  · have hw := hw.1 hc
    refine lv_iload hx hb dX11_carry_126 (lv_at hl 3 rfl) ?_
    refine lv_iconst (v := (-1 : Int32)) hx hb dX11_carry_128 (by decide) ?_
    refine lv_icmp_eq (tgt := 136) hx hb dX11_carry_129 (by decide) (fun hc => ?_) (fun hc => ?_)
    · have hw := hw.1 hc
      exact t_m_carry_136 zc hK hM hS  (lv_sub hl [3] rfl) hw
    · have hw := hw.2 hc
      refine lv_iload_n hx hb dX11_carry_132 rfl (lv_at hl 2 rfl) ?_
      refine lv_if_ne (tgt := 141) hx hb dX11_carry_133 (by decide) (fun hc => ?_) (fun hc => ?_)
      · have hw := hw.1 hc
        refine lv_iload hx hb dX11_carry_141 (lv_at hl 4 rfl) ?_
        exact zret_iw ⟨f_code, f_land, f_huts, f_singers, a_run, a_far⟩ zc hS hw hM dX11_carry_143
      · have hw := hw.2 hc
        exact t_m_carry_136 zc hK hM hS  (lv_sub hl [3] rfl) hw
  · have hw := hw.2 hc
    refine lv_aload_n hx hb dX11_carry_47 rfl (lv_at hl 0 rfl) ?_
    refine lv_iload hx hb dX11_carry_48 (lv_at hl 5 rfl) ?_
    refine lv_iconst (v := (0 : Int32)) hx hb dX11_carry_50 (by decide) ?_
    refine zVw_v [.int x6, .int (0 : Int32)] [] zc ky_X11_findRun kz_X11_findRun km_11_414 (c_m_findRun l hw) (mPreV0 hK hM) hS rfl rfl hl.1 (Nat.le_of_ble_eq_true rfl) ⟨rfl, rfl⟩ ⟨Nat.le_of_ble_eq_true rfl, Nat.le_of_ble_eq_true rfl⟩ ⟨(Nat.zero_le _), (Nat.zero_le _)⟩ dX11_carry_51 (fun a_run_1 H locs hw hM hS => ?_)
    refine lv_aload_n hx hb dX11_carry_54 rfl (lv_at hl 0 rfl) ?_
    refine lv_iload hx hb dX11_carry_55 (lv_at hl 5 rfl) ?_
    refine zV_i [.int x6] [] zc ky_X11_isDam kz_X11_isDam km_11_355 (c_m_isDam l hw) (mPreV0 hK hM) rfl rfl hl.1 (Nat.le_of_ble_eq_true rfl) ⟨rfl, rfl⟩ ⟨Nat.le_of_ble_eq_true rfl, Nat.le_of_ble_eq_true rfl⟩ ⟨(Nat.zero_le _), (Nat.zero_le _)⟩ dX11_carry_57 (fun r_1 hw => ?_)
    refine lv_if_eq (tgt := 69) hx hb dX11_carry_60 (by decide) (fun hc => ?_) (fun hc => ?_)
    · have hw := hw.1 hc
      refine lv_aload_n hx hb dX11_carry_69 rfl (lv_at hl 0 rfl) ?_
      refine mg_11_78_0 zc hK hM dX11_carry_70 ?_
      refine lv_bipush (v := (9 : Int32)) hx hb dX11_carry_73 (by decide) ?_
      refine lv_aload_n hx hb dX11_carry_75 rfl (lv_at hl 0 rfl) ?_
      refine lv_bipush (v := (25 : Int32)) hx hb dX11_carry_76 (by decide) ?_
      refine lv_iload_n hx hb dX11_carry_78 rfl (lv_at hl 1 rfl) ?_
      refine lv_iadd hx hb dX11_carry_79 ?_
      refine zV_i [.int ((25 : Int32) + x2)] [.int (9 : Int32), .ref (q + 23)] zc ky_X11_of kz_X11_of km_11_303 (c_m_of l hw) (mPreV0 hK hM) rfl rfl hl.1 (Nat.le_of_ble_eq_true rfl) ⟨rfl, rfl⟩ ⟨Nat.le_of_ble_eq_true rfl, Nat.le_of_ble_eq_true rfl⟩ ⟨(Nat.zero_le _), (Nat.zero_le _)⟩ dX11_carry_80 (fun r_2 hw => ?_)
      refine lv_imul hx hb dX11_carry_83 ?_
      refine lv_iload hx hb dX11_carry_84 (lv_at hl 5 rfl) ?_
      refine lv_iadd hx hb dX11_carry_86 ?_
      refine mld_23 zc hK hM hw.1 dX11_carry_87 ?_
      have hw := hw.2
      refine lv_aload_n hx hb dX11_carry_88 rfl (lv_at hl 0 rfl) ?_
      refine zV_i [] [.int (a_far (Int32.toNatClampNeg (((9 : Int32) * r_2) + x6)))] zc ky_X11_lastVillage kz_X11_lastVillage km_11_426 (c_m_lastVillage l hw) (mPreV0 hK hM) rfl rfl hl.1 (Nat.le_of_ble_eq_true rfl) ⟨rfl, rfl⟩ ⟨Nat.le_of_ble_eq_true rfl, Nat.le_of_ble_eq_true rfl⟩ ⟨(Nat.zero_le _), (Nat.zero_le _)⟩ dX11_carry_89 (fun r_3 hw => ?_)
      refine lv_iadd hx hb dX11_carry_92 ?_
      exact t_m_carry_93 zc hK hM hS (fun _ _ _ _ H locs ls h hl hM hS => h H locs ls hl hM hS) (lv_sub hl [0, 1, 2, 3, 4, 5] rfl) hw
    · have hw := hw.2 hc
      refine lv_ldcw (v := (1000000 : Int32)) hx hb zc.2.2.2.1 (zc.2.2.2.2.1 _ kc_11_410) dX11_carry_63 ?_
      refine lv_goto (tgt := 93) hx hb dX11_carry_66 (by decide) ?_
      exact t_m_carry_93 zc hK hM hS (fun _ _ _ _ H locs ls h hl hM hS => h H locs ls hl hM hS) (lv_sub hl [0, 1, 2, 3, 4, 5] rfl) hw
set_option maxRecDepth 20000 in
theorem t_m_carry_0 {p : Program} {l : Launch} {e : Env} {s : State} {m : MethodId} {args : Array Value} {below : List Frame} {meth : Method} {c : Code} {E : zE} {q : Nat} {f_code : Int32} {a_tape : Nat → Int32} {a_size : Nat → Int32} {a_fault : Nat → Int32} {a_faultPlace : Nat → Int32} {a_many : Nat → Int32} {a_lands : Nat → Int32} {a_evenings : Nat → Int32} {a_sights : Nat → Int32} {a_choirs : Nat → Int32} {f_reached : Int32} {f_length : Int32} {f_begins : Int32} {f_sort : Int32} {f_value : Int32} {f_word : Int64} {f_wrongAt : Int32} {f_laterFault : Int32} {f_laterPlace : Int32} {a_told : Nat → Int32} {a_read : Nat → Int32} {f_farHut : Int32} {f_farSinger : Int32} {f_good : Int32} {f_land : Int32} {f_huts : Int32} {f_singers : Int32} {f_evening : Int32} {a_at : Nat → Int32} {a_knows : Nat → Int32} {a_climbed : Nat → Int32} {a_snow : Nat → Int32} {a_level : Nat → Int32} {f_begun : Int32} {f_minute : Int32} {f_avalanches : Int32} {a_run : Nat → Int32} {a_covers : Nat → Int32} {a_routes : Nat → Int32} {a_longest : Nat → Int32} {a_steep : Nat → Int32} {a_laid : Nat → Int32} {a_far : Nat → Int32} {f_sight : Int32} {a_runs : Nat → Int32} {f_choir : Int32} {f_voices : Int32} {a_rest : Nat → Int64} {a_wins : Nat → Int32} {f_seed : Int32} {a_other : Nat → Int32} {a_kept : Nat → Int32} {post : Int32 → (Int32) → (Int32) → (Int32) → (Int32) → (Nat → Int32) → (Nat → Int32) → Prop} {x1 : Int32} {x2 : Int32} {x3 : Int32} {ls : Array Slot} {H : Heap} {locs : List Loc}
    (zc : zC p s m args meth c cX11_carry 8 RX11 (some .int))
    (hK : zK E s)
    (hM : mW E q f_code a_tape a_size a_fault a_faultPlace a_many a_lands a_evenings a_sights a_choirs f_reached f_length f_begins f_sort f_value f_word f_wrongAt f_laterFault f_laterPlace a_told a_read f_farHut f_farSinger f_good f_land f_huts f_singers f_evening a_at a_knows a_climbed a_snow a_level f_begun f_minute f_avalanches a_run a_covers a_routes a_longest a_steep a_laid a_far f_sight a_runs f_choir f_voices a_rest a_wins f_seed a_other a_kept H)
    (hS : va_S (mA q) s.heap H locs)
    (hl : lv_has ls 8 [(0, .ref q), (1, .int x1), (2, .int x2), (3, .int x3)])
    (hw : q_m_carry_0 f_code a_many a_lands f_land f_huts f_singers a_run a_far x1 x2 x3 post) :
    W p l e rm_m_carry s m args below meth c H locs 0 0 (MQ below (zQi (S := (Int32) × (Int32) × (Int32) × (Int32) × (Nat → Int32) × (Nat → Int32)) (fun r u => post r u.1 u.2.1 u.2.2.1 u.2.2.2.1 u.2.2.2.2.1 u.2.2.2.2.2) (fun u H => mW E q u.1 a_tape a_size a_fault a_faultPlace a_many a_lands a_evenings a_sights a_choirs f_reached f_length f_begins f_sort f_value f_word f_wrongAt f_laterFault f_laterPlace a_told a_read f_farHut f_farSinger f_good u.2.1 u.2.2.1 u.2.2.2.1 f_evening a_at a_knows a_climbed a_snow a_level f_begun f_minute f_avalanches u.2.2.2.2.1 a_covers a_routes a_longest a_steep a_laid u.2.2.2.2.2 f_sight a_runs f_choir f_voices a_rest a_wins f_seed a_other a_kept H) (mA q)) args s 0 0 (mA q)) (F0 m 0 ls []) := by
  have hx := zc.1
  have hb := zc.2.1
  refine lv_aload_n hx hb dX11_carry_0 rfl (lv_at hl 0 rfl) ?_
  refine lv_iconst (v := (0 : Int32)) hx hb dX11_carry_1 (by decide) ?_
  refine mp_11_97_0 zc hK hM hS dX11_carry_2 (fun H locs hM hS => ?_)
  refine lv_aload_n hx hb dX11_carry_5 rfl (lv_at hl 0 rfl) ?_
  refine lv_iload_n hx hb dX11_carry_6 rfl (lv_at hl 1 rfl) ?_
  refine zVw_i [.int x1] [] zc ky_X11_hand kz_X11_hand km_11_313 (c_m_hand l hw) (mPreV0 hK hM) hS rfl rfl hl.1 (Nat.le_of_ble_eq_true rfl) ⟨rfl, rfl⟩ ⟨Nat.le_of_ble_eq_true rfl, Nat.le_of_ble_eq_true rfl⟩ ⟨(Nat.zero_le _), (Nat.zero_le _)⟩ dX11_carry_7 (fun r_1 u H locs hw hM hS => ?_)
  obtain ⟨f_land_1, f_huts_1, f_singers_1⟩ := u
  refine lv_if_eq (tgt := 21) hx hb dX11_carry_10 (by decide) (fun hc => ?_) (fun hc => ?_)
  · have hw := hw.1 hc
    refine lv_iconst (v := (-1 : Int32)) hx hb dX11_carry_21 (by decide) ?_
    exact zret_iw ⟨(0 : Int32), f_land_1, f_huts_1, f_singers_1, a_run, a_far⟩ zc hS hw hM dX11_carry_22
  · have hw := hw.2 hc
    refine lv_aload_n hx hb dX11_carry_13 rfl (lv_at hl 0 rfl) ?_
    refine lv_iload_n hx hb dX11_carry_14 rfl (lv_at hl 2 rfl) ?_
    refine zV_i [.int x2] [] zc ky_X11_isSinger kz_X11_isSinger km_11_325 (c_m_isSinger l hw) (mPreV0 hK hM) rfl rfl hl.1 (Nat.le_of_ble_eq_true rfl) ⟨rfl, rfl⟩ ⟨Nat.le_of_ble_eq_true rfl, Nat.le_of_ble_eq_true rfl⟩ ⟨(Nat.zero_le _), (Nat.zero_le _)⟩ dX11_carry_15 (fun r_2 hw => ?_)
    refine lv_if_ne (tgt := 23) hx hb dX11_carry_18 (by decide) (fun hc => ?_) (fun hc => ?_)
    · have hw := hw.1 hc
      refine lv_aload_n hx hb dX11_carry_23 rfl (lv_at hl 0 rfl) ?_
      refine zVw_v [] [] zc ky_X11_findFar kz_X11_findFar km_11_454 (c_m_findFar l hw) (mPreV0 hK hM) hS rfl rfl hl.1 (Nat.le_of_ble_eq_true rfl) ⟨rfl, rfl⟩ ⟨Nat.le_of_ble_eq_true rfl, Nat.le_of_ble_eq_true rfl⟩ ⟨(Nat.zero_le _), (Nat.zero_le _)⟩ dX11_carry_24 (fun a_far_1 H locs hw hM hS => ?_)
      refine lv_iconst (v := (-1 : Int32)) hx hb dX11_carry_27 (by decide) ?_
      refine lv_istore (lv' := [(4, .int (-1 : Int32)), (0, .ref q), (1, .int x1), (2, .int x2), (3, .int x3)]) hx hb dX11_carry_28 hl (by decide) rfl (fun ls hl => ?_)
      refine lv_ldcw (v := (1000000 : Int32)) hx hb zc.2.2.2.1 (zc.2.2.2.2.1 _ kc_11_410) dX11_carry_30 ?_
      refine lv_istore (lv' := [(5, .int (1000000 : Int32)), (4, .int (-1 : Int32)), (0, .ref q), (1, .int x1), (2, .int x2), (3, .int x3)]) hx hb dX11_carry_33 hl (by decide) rfl (fun ls hl => ?_)
      refine lv_iconst (v := (0 : Int32)) hx hb dX11_carry_35 (by decide) ?_
      refine lv_istore (lv' := [(6, .int (0 : Int32)), (5, .int (1000000 : Int32)), (4, .int (-1 : Int32)), (0, .ref q), (1, .int x1), (2, .int x2), (3, .int x3)]) hx hb dX11_carry_36 hl (by decide) rfl (fun ls hl => ?_)
      exact t_m_carry_38 zc hK hM hS  (lv_sub hl [3, 5, 6, 2, 1, 0] rfl) hw
    · have hw := hw.2 hc
      refine lv_iconst (v := (-1 : Int32)) hx hb dX11_carry_21 (by decide) ?_
      exact zret_iw ⟨(0 : Int32), f_land_1, f_huts_1, f_singers_1, a_run, a_far⟩ zc hS hw hM dX11_carry_22
set_option maxRecDepth 20000 in
theorem c_m_carry (l : Launch) {E : zE} {q : Nat} {f_code : Int32} {a_tape : Nat → Int32} {a_size : Nat → Int32} {a_fault : Nat → Int32} {a_faultPlace : Nat → Int32} {a_many : Nat → Int32} {a_lands : Nat → Int32} {a_evenings : Nat → Int32} {a_sights : Nat → Int32} {a_choirs : Nat → Int32} {f_reached : Int32} {f_length : Int32} {f_begins : Int32} {f_sort : Int32} {f_value : Int32} {f_word : Int64} {f_wrongAt : Int32} {f_laterFault : Int32} {f_laterPlace : Int32} {a_told : Nat → Int32} {a_read : Nat → Int32} {f_farHut : Int32} {f_farSinger : Int32} {f_good : Int32} {f_land : Int32} {f_huts : Int32} {f_singers : Int32} {f_evening : Int32} {a_at : Nat → Int32} {a_knows : Nat → Int32} {a_climbed : Nat → Int32} {a_snow : Nat → Int32} {a_level : Nat → Int32} {f_begun : Int32} {f_minute : Int32} {f_avalanches : Int32} {a_run : Nat → Int32} {a_covers : Nat → Int32} {a_routes : Nat → Int32} {a_longest : Nat → Int32} {a_steep : Nat → Int32} {a_laid : Nat → Int32} {a_far : Nat → Int32} {f_sight : Int32} {a_runs : Nat → Int32} {f_choir : Int32} {f_voices : Int32} {a_rest : Nat → Int64} {a_wins : Nat → Int32} {f_seed : Int32} {a_other : Nat → Int32} {a_kept : Nat → Int32} {x1 : Int32} {x2 : Int32} {x3 : Int32} {post : Int32 → (Int32) → (Int32) → (Int32) → (Int32) → (Nat → Int32) → (Nat → Int32) → Prop} (hw : q_m_carry_0 f_code a_many a_lands f_land f_huts f_singers a_run a_far x1 x2 x3 post) : Met l yX11_carry (Cond.code yX11_carry cX11_carry 8 (some .int) :: zb) rm_m_carry (va_Pc [.ref q, .int x1, .int x2, .int x3] (fun U => mW E q f_code a_tape a_size a_fault a_faultPlace a_many a_lands a_evenings a_sights a_choirs f_reached f_length f_begins f_sort f_value f_word f_wrongAt f_laterFault f_laterPlace a_told a_read f_farHut f_farSinger f_good f_land f_huts f_singers f_evening a_at a_knows a_climbed a_snow a_level f_begun f_minute f_avalanches a_run a_covers a_routes a_longest a_steep a_laid a_far f_sight a_runs f_choir f_voices a_rest a_wins f_seed a_other a_kept U.heap ∧ zK E U)) (zQi (S := (Int32) × (Int32) × (Int32) × (Int32) × (Nat → Int32) × (Nat → Int32)) (fun r u => post r u.1 u.2.1 u.2.2.1 u.2.2.2.1 u.2.2.2.2.1 u.2.2.2.2.2) (fun u H => mW E q u.1 a_tape a_size a_fault a_faultPlace a_many a_lands a_evenings a_sights a_choirs f_reached f_length f_begins f_sort f_value f_word f_wrongAt f_laterFault f_laterPlace a_told a_read f_farHut f_farSinger f_good u.2.1 u.2.2.1 u.2.2.2.1 f_evening a_at a_knows a_climbed a_snow a_level f_begun f_minute f_avalanches u.2.2.2.2.1 a_covers a_routes a_longest a_steep a_laid u.2.2.2.2.2 f_sight a_runs f_choir f_voices a_rest a_wins f_seed a_other a_kept H) (mA q)) 0 0 (mA q) := by
  refine Met.ofW (cc := cX11_carry) (maxL := 8) (ret := (some .int)) (by decide) rfl ?_
  intro p e s m args below meth c s₁ B hml hv
  obtain ⟨rfl, hM, hK⟩ := hv
  have zc := zc_of B hml
  have hl := lv_entry ([.ref q, .int x1, .int x2, .int x3]) (n := 8) (Nat.le_of_ble_eq_true rfl)
  rw [lg_entry_eq]
  generalize (lg_sl ([.ref q, .int x1, .int x2, .int x3]) ++ List.replicate (8 - (lg_sl ([.ref q, .int x1, .int x2, .int x3])).length) Slot.unset).toArray = ls at hl ⊢
  have hl : lv_has ls 8 [(0, .ref q), (1, .int x1), (2, .int x2), (3, .int x3)] := hl
  exact t_m_carry_0 zc hK hM va_S.rf (lv_sub hl [0, 1, 2, 3] rfl) hw
-- m_join
abbrev rm_m_join : Room := { frames := 3, cells := 0, slots := 0, locals := 70 }
def q_m_join_128 (P86 : Int32 → Int32 → Int32 → Prop) (f_code : Int32) (a_many : Nat → Int32) (a_lands : Nat → Int32) (f_land : Int32) (f_huts : Int32) (f_singers : Int32) (a_run : Nat → Int32) (a_other : Nat → Int32) (x4 : Int32) (x6 : Int32) (x7 : Int32) (x8 : Int32) (y0 : Int32) (post : Int32 → (Int32) → (Int32) → (Int32) → (Int32) → (Nat → Int32) → (Nat → Int32) → Prop) : Prop :=
  q_m_lesser_0 x6 x8 (fun r_1 => ∀ v_1 : Int32, v_1 = x7 + (1 : Int32) → (P86 y0 r_1 v_1))
def q_m_join_156 (f_code : Int32) (a_many : Nat → Int32) (a_lands : Nat → Int32) (f_land : Int32) (f_huts : Int32) (f_singers : Int32) (a_run : Nat → Int32) (a_other : Nat → Int32) (x5 : Int32) (post : Int32 → (Int32) → (Int32) → (Int32) → (Int32) → (Nat → Int32) → (Nat → Int32) → Prop) : Prop :=
  post x5 f_code f_land f_huts f_singers a_run a_other
def q_m_join_86 (f_code : Int32) (a_many : Nat → Int32) (a_lands : Nat → Int32) (f_land : Int32) (f_huts : Int32) (f_singers : Int32) (a_run : Nat → Int32) (a_other : Nat → Int32) (x4 : Int32) (x5 : Int32) (x6 : Int32) (x7 : Int32) (post : Int32 → (Int32) → (Int32) → (Int32) → (Int32) → (Nat → Int32) → (Nat → Int32) → Prop) : Prop :=
  ∀ P86 : Int32 → Int32 → Int32 → Prop, (∀ (x5 : Int32) (x6 : Int32) (x7 : Int32), ((f_huts ≤ x7 → ((x5 = (-1 : Int32) → (q_m_join_156 f_code a_many a_lands f_land f_huts f_singers a_run a_other x5 post)) ∧ (¬ x5 = (-1 : Int32) → ((¬ x4 = 0 → (post x6 f_code f_land f_huts f_singers a_run a_other)) ∧ (x4 = 0 → (q_m_join_156 f_code a_many a_lands f_land f_huts f_singers a_run a_other x5 post)))))) ∧ (¬ f_huts ≤ x7 → (vp_in x7 9 ∧ (vp_in x7 9 ∧ (q_m_greater_0 (a_run (Int32.toNatClampNeg x7)) (a_other (Int32.toNatClampNeg x7)) (fun r_1 => (x6 ≤ r_1 → (q_m_join_128 P86 f_code a_many a_lands f_land f_huts f_singers a_run a_other x4 x6 x7 r_1 x5 post)) ∧ (¬ x6 ≤ r_1 → (q_m_join_128 P86 f_code a_many a_lands f_land f_huts f_singers a_run a_other x4 x6 x7 r_1 x7 post)))))))) → P86 x5 x6 x7) → P86 x5 x6 x7
def q_m_join_40 (f_code : Int32) (a_many : Nat → Int32) (a_lands : Nat → Int32) (f_land : Int32) (f_huts : Int32) (f_singers : Int32) (a_run : Nat → Int32) (a_other : Nat → Int32) (x3 : Int32) (x4 : Int32) (x5 : Int32) (post : Int32 → (Int32) → (Int32) → (Int32) → (Int32) → (Nat → Int32) → (Nat → Int32) → Prop) : Prop :=
  ∀ P40 : Int32 → (Nat → Int32) → Prop, (∀ (x5 : Int32) (a_other : Nat → Int32), ((f_huts ≤ x5 → (q_m_findRun_0 a_lands f_land f_huts a_run x3 (0 : Int32) (fun a_run_1 => q_m_join_86 f_code a_many a_lands f_land f_huts f_singers a_run_1 a_other x4 (-1 : Int32) (1000000 : Int32) (0 : Int32) post))) ∧ (¬ f_huts ≤ x5 → (vp_in x5 9 ∧ (∀ v_1 : Int32, v_1 = (a_run (Int32.toNatClampNeg x5)) → (vp_in x5 9 ∧ (∀ a_other_1 : Nat → Int32, a_other_1 = upd a_other (Int32.toNatClampNeg x5) v_1 → (∀ v_2 : Int32, v_2 = x5 + (1 : Int32) → (P40 v_2 a_other_1)))))))) → P40 x5 a_other) → P40 x5 a_other
def q_m_join_0 (f_code : Int32) (a_many : Nat → Int32) (a_lands : Nat → Int32) (f_land : Int32) (f_huts : Int32) (f_singers : Int32) (a_run : Nat → Int32) (a_other : Nat → Int32) (x1 : Int32) (x2 : Int32) (x3 : Int32) (x4 : Int32) (post : Int32 → (Int32) → (Int32) → (Int32) → (Int32) → (Nat → Int32) → (Nat → Int32) → Prop) : Prop :=
  q_m_hand_0 a_many a_lands f_land f_huts f_singers x1 (fun r_1 f_land_1 f_huts_1 f_singers_1 => (r_1 = 0 → (post (-1 : Int32) (0 : Int32) f_land_1 f_huts_1 f_singers_1 a_run a_other)) ∧ (¬ r_1 = 0 → (q_m_isHut_0 f_huts_1 x2 (fun r_2 => (r_2 = 0 → (post (-1 : Int32) (0 : Int32) f_land_1 f_huts_1 f_singers_1 a_run a_other)) ∧ (¬ r_2 = 0 → (q_m_isHut_0 f_huts_1 x3 (fun r_3 => (¬ r_3 = 0 → (q_m_findRun_0 a_lands f_land_1 f_huts_1 a_run x2 (0 : Int32) (fun a_run_1 => q_m_join_40 (0 : Int32) a_many a_lands f_land_1 f_huts_1 f_singers_1 a_run_1 a_other x3 x4 (0 : Int32) post))) ∧ (r_3 = 0 → (post (-1 : Int32) (0 : Int32) f_land_1 f_huts_1 f_singers_1 a_run a_other)))))))))
set_option maxRecDepth 20000 in
theorem t_m_join_128 {p : Program} {l : Launch} {e : Env} {s : State} {m : MethodId} {args : Array Value} {below : List Frame} {meth : Method} {c : Code} {E : zE} {q : Nat} {f_code : Int32} {a_tape : Nat → Int32} {a_size : Nat → Int32} {a_fault : Nat → Int32} {a_faultPlace : Nat → Int32} {a_many : Nat → Int32} {a_lands : Nat → Int32} {a_evenings : Nat → Int32} {a_sights : Nat → Int32} {a_choirs : Nat → Int32} {f_reached : Int32} {f_length : Int32} {f_begins : Int32} {f_sort : Int32} {f_value : Int32} {f_word : Int64} {f_wrongAt : Int32} {f_laterFault : Int32} {f_laterPlace : Int32} {a_told : Nat → Int32} {a_read : Nat → Int32} {f_farHut : Int32} {f_farSinger : Int32} {f_good : Int32} {f_land : Int32} {f_huts : Int32} {f_singers : Int32} {f_evening : Int32} {a_at : Nat → Int32} {a_knows : Nat → Int32} {a_climbed : Nat → Int32} {a_snow : Nat → Int32} {a_level : Nat → Int32} {f_begun : Int32} {f_minute : Int32} {f_avalanches : Int32} {a_run : Nat → Int32} {a_covers : Nat → Int32} {a_routes : Nat → Int32} {a_longest : Nat → Int32} {a_steep : Nat → Int32} {a_laid : Nat → Int32} {a_far : Nat → Int32} {f_sight : Int32} {a_runs : Nat → Int32} {f_choir : Int32} {f_voices : Int32} {a_rest : Nat → Int64} {a_wins : Nat → Int32} {f_seed : Int32} {a_other : Nat → Int32} {a_kept : Nat → Int32} {P86 : Int32 → Int32 → Int32 → Prop} {post : Int32 → (Int32) → (Int32) → (Int32) → (Int32) → (Nat → Int32) → (Nat → Int32) → Prop} {x4 : Int32} {x6 : Int32} {x7 : Int32} {x8 : Int32} {y0 : Int32} {ls : Array Slot} {H : Heap} {locs : List Loc}
    (zc : zC p s m args meth c cX11_join 9 RX11 (some .int))
    (hK : zK E s)
    (hM : mW E q f_code a_tape a_size a_fault a_faultPlace a_many a_lands a_evenings a_sights a_choirs f_reached f_length f_begins f_sort f_value f_word f_wrongAt f_laterFault f_laterPlace a_told a_read f_farHut f_farSinger f_good f_land f_huts f_singers f_evening a_at a_knows a_climbed a_snow a_level f_begun f_minute f_avalanches a_run a_covers a_routes a_longest a_steep a_laid a_far f_sight a_runs f_choir f_voices a_rest a_wins f_seed a_other a_kept H)
    (hS : va_S (mA q) s.heap H locs)
    (hP86 : ∀ (x5 : Int32) (x6 : Int32) (x7 : Int32) (H : Heap) (locs : List Loc) (ls : Array Slot), P86 x5 x6 x7 → lv_has ls 9 [(0, .ref q), (4, .int x4), (5, .int x5), (6, .int x6), (7, .int x7)] → mW E q f_code a_tape a_size a_fault a_faultPlace a_many a_lands a_evenings a_sights a_choirs f_reached f_length f_begins f_sort f_value f_word f_wrongAt f_laterFault f_laterPlace a_told a_read f_farHut f_farSinger f_good f_land f_huts f_singers f_evening a_at a_knows a_climbed a_snow a_level f_begun f_minute f_avalanches a_run a_covers a_routes a_longest a_steep a_laid a_far f_sight a_runs f_choir f_voices a_rest a_wins f_seed a_other a_kept H → va_S (mA q) s.heap H locs → W p l e rm_m_join s m args below meth c H locs 0 0 (MQ below (zQi (S := (Int32) × (Int32) × (Int32) × (Int32) × (Nat → Int32) × (Nat → Int32)) (fun r u => post r u.1 u.2.1 u.2.2.1 u.2.2.2.1 u.2.2.2.2.1 u.2.2.2.2.2) (fun u H => mW E q u.1 a_tape a_size a_fault a_faultPlace a_many a_lands a_evenings a_sights a_choirs f_reached f_length f_begins f_sort f_value f_word f_wrongAt f_laterFault f_laterPlace a_told a_read f_farHut f_farSinger f_good u.2.1 u.2.2.1 u.2.2.2.1 f_evening a_at a_knows a_climbed a_snow a_level f_begun f_minute f_avalanches u.2.2.2.2.1 a_covers a_routes a_longest a_steep a_laid a_far f_sight a_runs f_choir f_voices a_rest a_wins f_seed u.2.2.2.2.2 a_kept H) (mA q)) args s 0 0 (mA q)) (F0 m 86 ls []))
    (hl : lv_has ls 9 [(0, .ref q), (4, .int x4), (6, .int x6), (7, .int x7), (8, .int x8)])
    (hw : q_m_join_128 P86 f_code a_many a_lands f_land f_huts f_singers a_run a_other x4 x6 x7 x8 y0 post) :
    W p l e rm_m_join s m args below meth c H locs 0 0 (MQ below (zQi (S := (Int32) × (Int32) × (Int32) × (Int32) × (Nat → Int32) × (Nat → Int32)) (fun r u => post r u.1 u.2.1 u.2.2.1 u.2.2.2.1 u.2.2.2.2.1 u.2.2.2.2.2) (fun u H => mW E q u.1 a_tape a_size a_fault a_faultPlace a_many a_lands a_evenings a_sights a_choirs f_reached f_length f_begins f_sort f_value f_word f_wrongAt f_laterFault f_laterPlace a_told a_read f_farHut f_farSinger f_good u.2.1 u.2.2.1 u.2.2.2.1 f_evening a_at a_knows a_climbed a_snow a_level f_begun f_minute f_avalanches u.2.2.2.2.1 a_covers a_routes a_longest a_steep a_laid a_far f_sight a_runs f_choir f_voices a_rest a_wins f_seed u.2.2.2.2.2 a_kept H) (mA q)) args s 0 0 (mA q)) (F0 m 128 ls [.int y0]) := by
  have hx := zc.1
  have hb := zc.2.1
  refine lv_istore (lv' := [(5, .int y0), (0, .ref q), (4, .int x4), (6, .int x6), (7, .int x7), (8, .int x8)]) hx hb dX11_join_128 hl (by decide) rfl (fun ls hl => ?_)
  refine lv_iload hx hb dX11_join_130 (lv_at hl 3 rfl) ?_
  refine lv_iload hx hb dX11_join_132 (lv_at hl 5 rfl) ?_
  refine zS_i [.int x6, .int x8] [] zc ky_X11_lesser kz_X11_lesser km_11_411 (c_m_lesser l hw) (zPre0 _) rfl rfl hl.1 (Nat.le_of_ble_eq_true rfl) ⟨rfl, rfl⟩ ⟨Nat.le_of_ble_eq_true rfl, Nat.le_of_ble_eq_true rfl⟩ ⟨(Nat.zero_le _), (Nat.zero_le _)⟩ dX11_join_134 (fun r_1 hw => ?_)
  refine lv_istore (lv' := [(6, .int r_1), (5, .int y0), (0, .ref q), (4, .int x4), (7, .int x7), (8, .int x8)]) hx hb dX11_join_137 hl (by decide) rfl (fun ls hl => ?_)
  obtain ⟨v_1, ev_1⟩ : ∃ y : Int32, y = x7 + (1 : Int32) := ⟨_, rfl⟩
  have hw := hw v_1 ev_1
  refine lv_iinc (v := v_1) (k := 4) (lv' := [(7, .int v_1), (6, .int r_1), (5, .int y0), (0, .ref q), (4, .int x4), (8, .int x8)]) hx hb dX11_join_139 hl rfl (by rw [ev_1]; rfl) (by decide) rfl (fun ls hl => ?_)
  refine lv_goto (tgt := 86) hx hb dX11_join_142 (by decide) ?_
  exact hP86 _ _ _ _ _ _ hw (lv_sub hl [3, 4, 2, 1, 0] rfl) hM hS
set_option maxRecDepth 20000 in
theorem t_m_join_156 {p : Program} {l : Launch} {e : Env} {s : State} {m : MethodId} {args : Array Value} {below : List Frame} {meth : Method} {c : Code} {E : zE} {q : Nat} {f_code : Int32} {a_tape : Nat → Int32} {a_size : Nat → Int32} {a_fault : Nat → Int32} {a_faultPlace : Nat → Int32} {a_many : Nat → Int32} {a_lands : Nat → Int32} {a_evenings : Nat → Int32} {a_sights : Nat → Int32} {a_choirs : Nat → Int32} {f_reached : Int32} {f_length : Int32} {f_begins : Int32} {f_sort : Int32} {f_value : Int32} {f_word : Int64} {f_wrongAt : Int32} {f_laterFault : Int32} {f_laterPlace : Int32} {a_told : Nat → Int32} {a_read : Nat → Int32} {f_farHut : Int32} {f_farSinger : Int32} {f_good : Int32} {f_land : Int32} {f_huts : Int32} {f_singers : Int32} {f_evening : Int32} {a_at : Nat → Int32} {a_knows : Nat → Int32} {a_climbed : Nat → Int32} {a_snow : Nat → Int32} {a_level : Nat → Int32} {f_begun : Int32} {f_minute : Int32} {f_avalanches : Int32} {a_run : Nat → Int32} {a_covers : Nat → Int32} {a_routes : Nat → Int32} {a_longest : Nat → Int32} {a_steep : Nat → Int32} {a_laid : Nat → Int32} {a_far : Nat → Int32} {f_sight : Int32} {a_runs : Nat → Int32} {f_choir : Int32} {f_voices : Int32} {a_rest : Nat → Int64} {a_wins : Nat → Int32} {f_seed : Int32} {a_other : Nat → Int32} {a_kept : Nat → Int32} {post : Int32 → (Int32) → (Int32) → (Int32) → (Int32) → (Nat → Int32) → (Nat → Int32) → Prop} {x5 : Int32} {ls : Array Slot} {H : Heap} {locs : List Loc}
    (zc : zC p s m args meth c cX11_join 9 RX11 (some .int))
    (hK : zK E s)
    (hM : mW E q f_code a_tape a_size a_fault a_faultPlace a_many a_lands a_evenings a_sights a_choirs f_reached f_length f_begins f_sort f_value f_word f_wrongAt f_laterFault f_laterPlace a_told a_read f_farHut f_farSinger f_good f_land f_huts f_singers f_evening a_at a_knows a_climbed a_snow a_level f_begun f_minute f_avalanches a_run a_covers a_routes a_longest a_steep a_laid a_far f_sight a_runs f_choir f_voices a_rest a_wins f_seed a_other a_kept H)
    (hS : va_S (mA q) s.heap H locs)
    (hl : lv_has ls 9 [(5, .int x5)])
    (hw : q_m_join_156 f_code a_many a_lands f_land f_huts f_singers a_run a_other x5 post) :
    W p l e rm_m_join s m args below meth c H locs 0 0 (MQ below (zQi (S := (Int32) × (Int32) × (Int32) × (Int32) × (Nat → Int32) × (Nat → Int32)) (fun r u => post r u.1 u.2.1 u.2.2.1 u.2.2.2.1 u.2.2.2.2.1 u.2.2.2.2.2) (fun u H => mW E q u.1 a_tape a_size a_fault a_faultPlace a_many a_lands a_evenings a_sights a_choirs f_reached f_length f_begins f_sort f_value f_word f_wrongAt f_laterFault f_laterPlace a_told a_read f_farHut f_farSinger f_good u.2.1 u.2.2.1 u.2.2.2.1 f_evening a_at a_knows a_climbed a_snow a_level f_begun f_minute f_avalanches u.2.2.2.2.1 a_covers a_routes a_longest a_steep a_laid a_far f_sight a_runs f_choir f_voices a_rest a_wins f_seed u.2.2.2.2.2 a_kept H) (mA q)) args s 0 0 (mA q)) (F0 m 156 ls []) := by
  have hx := zc.1
  have hb := zc.2.1
  refine lv_iload hx hb dX11_join_156 (lv_at hl 0 rfl) ?_
  refine lv_goto (tgt := 163) hx hb dX11_join_158 (by decide) ?_
  exact zret_iw ⟨f_code, f_land, f_huts, f_singers, a_run, a_other⟩ zc hS hw hM dX11_join_163
set_option maxRecDepth 20000 in
theorem t_m_join_86 {p : Program} {l : Launch} {e : Env} {s : State} {m : MethodId} {args : Array Value} {below : List Frame} {meth : Method} {c : Code} {E : zE} {q : Nat} {f_code : Int32} {a_tape : Nat → Int32} {a_size : Nat → Int32} {a_fault : Nat → Int32} {a_faultPlace : Nat → Int32} {a_many : Nat → Int32} {a_lands : Nat → Int32} {a_evenings : Nat → Int32} {a_sights : Nat → Int32} {a_choirs : Nat → Int32} {f_reached : Int32} {f_length : Int32} {f_begins : Int32} {f_sort : Int32} {f_value : Int32} {f_word : Int64} {f_wrongAt : Int32} {f_laterFault : Int32} {f_laterPlace : Int32} {a_told : Nat → Int32} {a_read : Nat → Int32} {f_farHut : Int32} {f_farSinger : Int32} {f_good : Int32} {f_land : Int32} {f_huts : Int32} {f_singers : Int32} {f_evening : Int32} {a_at : Nat → Int32} {a_knows : Nat → Int32} {a_climbed : Nat → Int32} {a_snow : Nat → Int32} {a_level : Nat → Int32} {f_begun : Int32} {f_minute : Int32} {f_avalanches : Int32} {a_run : Nat → Int32} {a_covers : Nat → Int32} {a_routes : Nat → Int32} {a_longest : Nat → Int32} {a_steep : Nat → Int32} {a_laid : Nat → Int32} {a_far : Nat → Int32} {f_sight : Int32} {a_runs : Nat → Int32} {f_choir : Int32} {f_voices : Int32} {a_rest : Nat → Int64} {a_wins : Nat → Int32} {f_seed : Int32} {a_other : Nat → Int32} {a_kept : Nat → Int32} {post : Int32 → (Int32) → (Int32) → (Int32) → (Int32) → (Nat → Int32) → (Nat → Int32) → Prop} {x4 : Int32} {x5 : Int32} {x6 : Int32} {x7 : Int32} {ls : Array Slot} {H : Heap} {locs : List Loc}
    (zc : zC p s m args meth c cX11_join 9 RX11 (some .int))
    (hK : zK E s)
    (hM : mW E q f_code a_tape a_size a_fault a_faultPlace a_many a_lands a_evenings a_sights a_choirs f_reached f_length f_begins f_sort f_value f_word f_wrongAt f_laterFault f_laterPlace a_told a_read f_farHut f_farSinger f_good f_land f_huts f_singers f_evening a_at a_knows a_climbed a_snow a_level f_begun f_minute f_avalanches a_run a_covers a_routes a_longest a_steep a_laid a_far f_sight a_runs f_choir f_voices a_rest a_wins f_seed a_other a_kept H)
    (hS : va_S (mA q) s.heap H locs)
    (hl : lv_has ls 9 [(0, .ref q), (4, .int x4), (5, .int x5), (6, .int x6), (7, .int x7)])
    (hw : q_m_join_86 f_code a_many a_lands f_land f_huts f_singers a_run a_other x4 x5 x6 x7 post) :
    W p l e rm_m_join s m args below meth c H locs 0 0 (MQ below (zQi (S := (Int32) × (Int32) × (Int32) × (Int32) × (Nat → Int32) × (Nat → Int32)) (fun r u => post r u.1 u.2.1 u.2.2.1 u.2.2.2.1 u.2.2.2.2.1 u.2.2.2.2.2) (fun u H => mW E q u.1 a_tape a_size a_fault a_faultPlace a_many a_lands a_evenings a_sights a_choirs f_reached f_length f_begins f_sort f_value f_word f_wrongAt f_laterFault f_laterPlace a_told a_read f_farHut f_farSinger f_good u.2.1 u.2.2.1 u.2.2.2.1 f_evening a_at a_knows a_climbed a_snow a_level f_begun f_minute f_avalanches u.2.2.2.2.1 a_covers a_routes a_longest a_steep a_laid a_far f_sight a_runs f_choir f_voices a_rest a_wins f_seed u.2.2.2.2.2 a_kept H) (mA q)) args s 0 0 (mA q)) (F0 m 86 ls []) := by
  have hx := zc.1
  have hb := zc.2.1
  refine hw (fun x5 x6 x7 => ∀ (H : Heap) (locs : List Loc) (ls : Array Slot), lv_has ls 9 [(0, .ref q), (4, .int x4), (5, .int x5), (6, .int x6), (7, .int x7)] → mW E q f_code a_tape a_size a_fault a_faultPlace a_many a_lands a_evenings a_sights a_choirs f_reached f_length f_begins f_sort f_value f_word f_wrongAt f_laterFault f_laterPlace a_told a_read f_farHut f_farSinger f_good f_land f_huts f_singers f_evening a_at a_knows a_climbed a_snow a_level f_begun f_minute f_avalanches a_run a_covers a_routes a_longest a_steep a_laid a_far f_sight a_runs f_choir f_voices a_rest a_wins f_seed a_other a_kept H → va_S (mA q) s.heap H locs → W p l e rm_m_join s m args below meth c H locs 0 0 (MQ below (zQi (S := (Int32) × (Int32) × (Int32) × (Int32) × (Nat → Int32) × (Nat → Int32)) (fun r u => post r u.1 u.2.1 u.2.2.1 u.2.2.2.1 u.2.2.2.2.1 u.2.2.2.2.2) (fun u H => mW E q u.1 a_tape a_size a_fault a_faultPlace a_many a_lands a_evenings a_sights a_choirs f_reached f_length f_begins f_sort f_value f_word f_wrongAt f_laterFault f_laterPlace a_told a_read f_farHut f_farSinger f_good u.2.1 u.2.2.1 u.2.2.2.1 f_evening a_at a_knows a_climbed a_snow a_level f_begun f_minute f_avalanches u.2.2.2.2.1 a_covers a_routes a_longest a_steep a_laid a_far f_sight a_runs f_choir f_voices a_rest a_wins f_seed u.2.2.2.2.2 a_kept H) (mA q)) args s 0 0 (mA q)) (F0 m 86 ls [])) ?_ _ _ _ hl hM hS
  intro x5 x6 x7 hw H locs ls hl hM hS
  refine lv_iload hx hb dX11_join_86 (lv_at hl 4 rfl) ?_
  refine lv_aload_n hx hb dX11_join_88 rfl (lv_at hl 0 rfl) ?_
  refine mg_11_307_0 zc hK hM dX11_join_89 ?_
  refine lv_icmp_ge (tgt := 145) hx hb dX11_join_92 (by decide) (fun hc => ?_) (fun hc => ?_)
  · have hw := hw.1 hc
    refine lv_iload hx hb dX11_join_145 (lv_at hl 2 rfl) ?_
    refine lv_iconst (v := (-1 : Int32)) hx hb dX11_join_147 (by decide) ?_
    refine lv_icmp_eq (tgt := 156) hx hb dX11_join_148 (by decide) (fun hc => ?_) (fun hc => ?_)
    · have hw := hw.1 hc
      exact t_m_join_156 zc hK hM hS  (lv_sub hl [2] rfl) hw
    · have hw := hw.2 hc
      refine lv_iload hx hb dX11_join_151 (lv_at hl 1 rfl) ?_
      refine lv_if_ne (tgt := 161) hx hb dX11_join_153 (by decide) (fun hc => ?_) (fun hc => ?_)
      · have hw := hw.1 hc
        refine lv_iload hx hb dX11_join_161 (lv_at hl 3 rfl) ?_
        exact zret_iw ⟨f_code, f_land, f_huts, f_singers, a_run, a_other⟩ zc hS hw hM dX11_join_163
      · have hw := hw.2 hc
        exact t_m_join_156 zc hK hM hS  (lv_sub hl [2] rfl) hw
  · have hw := hw.2 hc
    refine lv_aload_n hx hb dX11_join_95 rfl (lv_at hl 0 rfl) ?_
    refine mg_11_59_0 zc hK hM dX11_join_96 ?_
    refine lv_iload hx hb dX11_join_99 (lv_at hl 4 rfl) ?_
    refine mld_17 zc hK hM hw.1 dX11_join_101 ?_
    have hw := hw.2
    refine lv_aload_n hx hb dX11_join_102 rfl (lv_at hl 0 rfl) ?_
    refine mg_11_91_0 zc hK hM dX11_join_103 ?_
    refine lv_iload hx hb dX11_join_106 (lv_at hl 4 rfl) ?_
    refine mld_27 zc hK hM hw.1 dX11_join_108 ?_
    have hw := hw.2
    refine zS_i [.int (a_run (Int32.toNatClampNeg x7)), .int (a_other (Int32.toNatClampNeg x7))] [] zc ky_X11_greater kz_X11_greater km_11_171 (c_m_greater l hw) (zPre0 _) rfl rfl hl.1 (Nat.le_of_ble_eq_true rfl) ⟨rfl, rfl⟩ ⟨Nat.le_of_ble_eq_true rfl, Nat.le_of_ble_eq_true rfl⟩ ⟨(Nat.zero_le _), (Nat.zero_le _)⟩ dX11_join_109 (fun r_1 hw => ?_)
    refine lv_istore (lv' := [(8, .int r_1), (0, .ref q), (4, .int x4), (5, .int x5), (6, .int x6), (7, .int x7)]) hx hb dX11_join_112 hl (by decide) rfl (fun ls hl => ?_)
    refine lv_iload hx hb dX11_join_114 (lv_at hl 0 rfl) ?_
    refine lv_iload hx hb dX11_join_116 (lv_at hl 4 rfl) ?_
    refine lv_icmp_ge (tgt := 126) hx hb dX11_join_118 (by decide) (fun hc => ?_) (fun hc => ?_)
    · have hw := hw.1 hc
      refine lv_iload hx hb dX11_join_126 (lv_at hl 3 rfl) ?_
      exact t_m_join_128 zc hK hM hS (fun _ _ _ H locs ls h hl hM hS => h H locs ls hl hM hS) (lv_sub hl [1, 2, 4, 5, 0] rfl) hw
    · have hw := hw.2 hc
      refine lv_iload hx hb dX11_join_121 (lv_at hl 5 rfl) ?_
      refine lv_goto (tgt := 128) hx hb dX11_join_123 (by decide) ?_
      exact t_m_join_128 zc hK hM hS (fun _ _ _ H locs ls h hl hM hS => h H locs ls hl hM hS) (lv_sub hl [1, 2, 4, 5, 0] rfl) hw
set_option maxRecDepth 20000 in
theorem t_m_join_40 {p : Program} {l : Launch} {e : Env} {s : State} {m : MethodId} {args : Array Value} {below : List Frame} {meth : Method} {c : Code} {E : zE} {q : Nat} {f_code : Int32} {a_tape : Nat → Int32} {a_size : Nat → Int32} {a_fault : Nat → Int32} {a_faultPlace : Nat → Int32} {a_many : Nat → Int32} {a_lands : Nat → Int32} {a_evenings : Nat → Int32} {a_sights : Nat → Int32} {a_choirs : Nat → Int32} {f_reached : Int32} {f_length : Int32} {f_begins : Int32} {f_sort : Int32} {f_value : Int32} {f_word : Int64} {f_wrongAt : Int32} {f_laterFault : Int32} {f_laterPlace : Int32} {a_told : Nat → Int32} {a_read : Nat → Int32} {f_farHut : Int32} {f_farSinger : Int32} {f_good : Int32} {f_land : Int32} {f_huts : Int32} {f_singers : Int32} {f_evening : Int32} {a_at : Nat → Int32} {a_knows : Nat → Int32} {a_climbed : Nat → Int32} {a_snow : Nat → Int32} {a_level : Nat → Int32} {f_begun : Int32} {f_minute : Int32} {f_avalanches : Int32} {a_run : Nat → Int32} {a_covers : Nat → Int32} {a_routes : Nat → Int32} {a_longest : Nat → Int32} {a_steep : Nat → Int32} {a_laid : Nat → Int32} {a_far : Nat → Int32} {f_sight : Int32} {a_runs : Nat → Int32} {f_choir : Int32} {f_voices : Int32} {a_rest : Nat → Int64} {a_wins : Nat → Int32} {f_seed : Int32} {a_other : Nat → Int32} {a_kept : Nat → Int32} {post : Int32 → (Int32) → (Int32) → (Int32) → (Int32) → (Nat → Int32) → (Nat → Int32) → Prop} {x3 : Int32} {x4 : Int32} {x5 : Int32} {ls : Array Slot} {H : Heap} {locs : List Loc}
    (zc : zC p s m args meth c cX11_join 9 RX11 (some .int))
    (hK : zK E s)
    (hM : mW E q f_code a_tape a_size a_fault a_faultPlace a_many a_lands a_evenings a_sights a_choirs f_reached f_length f_begins f_sort f_value f_word f_wrongAt f_laterFault f_laterPlace a_told a_read f_farHut f_farSinger f_good f_land f_huts f_singers f_evening a_at a_knows a_climbed a_snow a_level f_begun f_minute f_avalanches a_run a_covers a_routes a_longest a_steep a_laid a_far f_sight a_runs f_choir f_voices a_rest a_wins f_seed a_other a_kept H)
    (hS : va_S (mA q) s.heap H locs)
    (hl : lv_has ls 9 [(0, .ref q), (3, .int x3), (4, .int x4), (5, .int x5)])
    (hw : q_m_join_40 f_code a_many a_lands f_land f_huts f_singers a_run a_other x3 x4 x5 post) :
    W p l e rm_m_join s m args below meth c H locs 0 0 (MQ below (zQi (S := (Int32) × (Int32) × (Int32) × (Int32) × (Nat → Int32) × (Nat → Int32)) (fun r u => post r u.1 u.2.1 u.2.2.1 u.2.2.2.1 u.2.2.2.2.1 u.2.2.2.2.2) (fun u H => mW E q u.1 a_tape a_size a_fault a_faultPlace a_many a_lands a_evenings a_sights a_choirs f_reached f_length f_begins f_sort f_value f_word f_wrongAt f_laterFault f_laterPlace a_told a_read f_farHut f_farSinger f_good u.2.1 u.2.2.1 u.2.2.2.1 f_evening a_at a_knows a_climbed a_snow a_level f_begun f_minute f_avalanches u.2.2.2.2.1 a_covers a_routes a_longest a_steep a_laid a_far f_sight a_runs f_choir f_voices a_rest a_wins f_seed u.2.2.2.2.2 a_kept H) (mA q)) args s 0 0 (mA q)) (F0 m 40 ls []) := by
  have hx := zc.1
  have hb := zc.2.1
  refine hw (fun x5 a_other => ∀ (H : Heap) (locs : List Loc) (ls : Array Slot), lv_has ls 9 [(0, .ref q), (3, .int x3), (4, .int x4), (5, .int x5)] → mW E q f_code a_tape a_size a_fault a_faultPlace a_many a_lands a_evenings a_sights a_choirs f_reached f_length f_begins f_sort f_value f_word f_wrongAt f_laterFault f_laterPlace a_told a_read f_farHut f_farSinger f_good f_land f_huts f_singers f_evening a_at a_knows a_climbed a_snow a_level f_begun f_minute f_avalanches a_run a_covers a_routes a_longest a_steep a_laid a_far f_sight a_runs f_choir f_voices a_rest a_wins f_seed a_other a_kept H → va_S (mA q) s.heap H locs → W p l e rm_m_join s m args below meth c H locs 0 0 (MQ below (zQi (S := (Int32) × (Int32) × (Int32) × (Int32) × (Nat → Int32) × (Nat → Int32)) (fun r u => post r u.1 u.2.1 u.2.2.1 u.2.2.2.1 u.2.2.2.2.1 u.2.2.2.2.2) (fun u H => mW E q u.1 a_tape a_size a_fault a_faultPlace a_many a_lands a_evenings a_sights a_choirs f_reached f_length f_begins f_sort f_value f_word f_wrongAt f_laterFault f_laterPlace a_told a_read f_farHut f_farSinger f_good u.2.1 u.2.2.1 u.2.2.2.1 f_evening a_at a_knows a_climbed a_snow a_level f_begun f_minute f_avalanches u.2.2.2.2.1 a_covers a_routes a_longest a_steep a_laid a_far f_sight a_runs f_choir f_voices a_rest a_wins f_seed u.2.2.2.2.2 a_kept H) (mA q)) args s 0 0 (mA q)) (F0 m 40 ls [])) ?_ _ _ _ hl hM hS
  intro x5 a_other hw H locs ls hl hM hS
  refine lv_iload hx hb dX11_join_40 (lv_at hl 3 rfl) ?_
  refine lv_aload_n hx hb dX11_join_42 rfl (lv_at hl 0 rfl) ?_
  refine mg_11_307_0 zc hK hM dX11_join_43 ?_
  refine lv_icmp_ge (tgt := 69) hx hb dX11_join_46 (by decide) (fun hc => ?_) (fun hc => ?_)
  · have hw := hw.1 hc
    refine lv_aload_n hx hb dX11_join_69 rfl (lv_at hl 0 rfl) ?_
    refine lv_iload_n hx hb dX11_join_70 rfl (lv_at hl 1 rfl) ?_
    refine lv_iconst (v := (0 : Int32)) hx hb dX11_join_71 (by decide) ?_
    refine zVw_v [.int x3, .int (0 : Int32)] [] zc ky_X11_findRun kz_X11_findRun km_11_414 (c_m_findRun l hw) (mPreV0 hK hM) hS rfl rfl hl.1 (Nat.le_of_ble_eq_true rfl) ⟨rfl, rfl⟩ ⟨Nat.le_of_ble_eq_true rfl, Nat.le_of_ble_eq_true rfl⟩ ⟨(Nat.zero_le _), (Nat.zero_le _)⟩ dX11_join_72 (fun a_run_1 H locs hw hM hS => ?_)
    refine lv_iconst (v := (-1 : Int32)) hx hb dX11_join_75 (by decide) ?_
    refine lv_istore (lv' := [(5, .int (-1 : Int32)), (0, .ref q), (3, .int x3), (4, .int x4)]) hx hb dX11_join_76 hl (by decide) rfl (fun ls hl => ?_)
    refine lv_ldcw (v := (1000000 : Int32)) hx hb zc.2.2.2.1 (zc.2.2.2.2.1 _ kc_11_410) dX11_join_78 ?_
    refine lv_istore (lv' := [(6, .int (1000000 : Int32)), (5, .int (-1 : Int32)), (0, .ref q), (3, .int x3), (4, .int x4)]) hx hb dX11_join_81 hl (by decide) rfl (fun ls hl => ?_)
    refine lv_iconst (v := (0 : Int32)) hx hb dX11_join_83 (by decide) ?_
    refine lv_istore (lv' := [(7, .int (0 : Int32)), (6, .int (1000000 : Int32)), (5, .int (-1 : Int32)), (0, .ref q), (3, .int x3), (4, .int x4)]) hx hb dX11_join_84 hl (by decide) rfl (fun ls hl => ?_)
    exact t_m_join_86 zc hK hM hS  (lv_sub hl [3, 5, 2, 1, 0] rfl) hw
  · have hw := hw.2 hc
    refine lv_aload_n hx hb dX11_join_49 rfl (lv_at hl 0 rfl) ?_
    refine mg_11_91_0 zc hK hM dX11_join_50 ?_
    refine lv_iload hx hb dX11_join_53 (lv_at hl 3 rfl) ?_
    refine lv_aload_n hx hb dX11_join_55 rfl (lv_at hl 0 rfl) ?_
    refine mg_11_59_0 zc hK hM dX11_join_56 ?_
    refine lv_iload hx hb dX11_join_59 (lv_at hl 3 rfl) ?_
    refine mld_17 zc hK hM hw.1 dX11_join_61 ?_
    have hw := hw.2
    refine lv_topi (fun v_1 ev_1 => ?_)
    have hw := hw v_1 ev_1
    refine mst_27 zc hK hM hS hw.1 dX11_join_62 (fun a_other_1 H locs ea_other_1 hM hS => ?_)
    have hw := hw.2 a_other_1 ea_other_1
    obtain ⟨v_2, ev_2⟩ : ∃ y : Int32, y = x5 + (1 : Int32) := ⟨_, rfl⟩
    have hw := hw v_2 ev_2
    refine lv_iinc (v := v_2) (k := 3) (lv' := [(5, .int v_2), (0, .ref q), (3, .int x3), (4, .int x4)]) hx hb dX11_join_63 hl rfl (by rw [ev_2]; rfl) (by decide) rfl (fun ls hl => ?_)
    refine lv_goto (tgt := 40) hx hb dX11_join_66 (by decide) ?_
    exact hw _ _ _ (lv_sub hl [1, 2, 3, 0] rfl) hM hS
set_option maxRecDepth 20000 in
theorem t_m_join_0 {p : Program} {l : Launch} {e : Env} {s : State} {m : MethodId} {args : Array Value} {below : List Frame} {meth : Method} {c : Code} {E : zE} {q : Nat} {f_code : Int32} {a_tape : Nat → Int32} {a_size : Nat → Int32} {a_fault : Nat → Int32} {a_faultPlace : Nat → Int32} {a_many : Nat → Int32} {a_lands : Nat → Int32} {a_evenings : Nat → Int32} {a_sights : Nat → Int32} {a_choirs : Nat → Int32} {f_reached : Int32} {f_length : Int32} {f_begins : Int32} {f_sort : Int32} {f_value : Int32} {f_word : Int64} {f_wrongAt : Int32} {f_laterFault : Int32} {f_laterPlace : Int32} {a_told : Nat → Int32} {a_read : Nat → Int32} {f_farHut : Int32} {f_farSinger : Int32} {f_good : Int32} {f_land : Int32} {f_huts : Int32} {f_singers : Int32} {f_evening : Int32} {a_at : Nat → Int32} {a_knows : Nat → Int32} {a_climbed : Nat → Int32} {a_snow : Nat → Int32} {a_level : Nat → Int32} {f_begun : Int32} {f_minute : Int32} {f_avalanches : Int32} {a_run : Nat → Int32} {a_covers : Nat → Int32} {a_routes : Nat → Int32} {a_longest : Nat → Int32} {a_steep : Nat → Int32} {a_laid : Nat → Int32} {a_far : Nat → Int32} {f_sight : Int32} {a_runs : Nat → Int32} {f_choir : Int32} {f_voices : Int32} {a_rest : Nat → Int64} {a_wins : Nat → Int32} {f_seed : Int32} {a_other : Nat → Int32} {a_kept : Nat → Int32} {post : Int32 → (Int32) → (Int32) → (Int32) → (Int32) → (Nat → Int32) → (Nat → Int32) → Prop} {x1 : Int32} {x2 : Int32} {x3 : Int32} {x4 : Int32} {ls : Array Slot} {H : Heap} {locs : List Loc}
    (zc : zC p s m args meth c cX11_join 9 RX11 (some .int))
    (hK : zK E s)
    (hM : mW E q f_code a_tape a_size a_fault a_faultPlace a_many a_lands a_evenings a_sights a_choirs f_reached f_length f_begins f_sort f_value f_word f_wrongAt f_laterFault f_laterPlace a_told a_read f_farHut f_farSinger f_good f_land f_huts f_singers f_evening a_at a_knows a_climbed a_snow a_level f_begun f_minute f_avalanches a_run a_covers a_routes a_longest a_steep a_laid a_far f_sight a_runs f_choir f_voices a_rest a_wins f_seed a_other a_kept H)
    (hS : va_S (mA q) s.heap H locs)
    (hl : lv_has ls 9 [(0, .ref q), (1, .int x1), (2, .int x2), (3, .int x3), (4, .int x4)])
    (hw : q_m_join_0 f_code a_many a_lands f_land f_huts f_singers a_run a_other x1 x2 x3 x4 post) :
    W p l e rm_m_join s m args below meth c H locs 0 0 (MQ below (zQi (S := (Int32) × (Int32) × (Int32) × (Int32) × (Nat → Int32) × (Nat → Int32)) (fun r u => post r u.1 u.2.1 u.2.2.1 u.2.2.2.1 u.2.2.2.2.1 u.2.2.2.2.2) (fun u H => mW E q u.1 a_tape a_size a_fault a_faultPlace a_many a_lands a_evenings a_sights a_choirs f_reached f_length f_begins f_sort f_value f_word f_wrongAt f_laterFault f_laterPlace a_told a_read f_farHut f_farSinger f_good u.2.1 u.2.2.1 u.2.2.2.1 f_evening a_at a_knows a_climbed a_snow a_level f_begun f_minute f_avalanches u.2.2.2.2.1 a_covers a_routes a_longest a_steep a_laid a_far f_sight a_runs f_choir f_voices a_rest a_wins f_seed u.2.2.2.2.2 a_kept H) (mA q)) args s 0 0 (mA q)) (F0 m 0 ls []) := by
  have hx := zc.1
  have hb := zc.2.1
  refine lv_aload_n hx hb dX11_join_0 rfl (lv_at hl 0 rfl) ?_
  refine lv_iconst (v := (0 : Int32)) hx hb dX11_join_1 (by decide) ?_
  refine mp_11_97_0 zc hK hM hS dX11_join_2 (fun H locs hM hS => ?_)
  refine lv_aload_n hx hb dX11_join_5 rfl (lv_at hl 0 rfl) ?_
  refine lv_iload_n hx hb dX11_join_6 rfl (lv_at hl 1 rfl) ?_
  refine zVw_i [.int x1] [] zc ky_X11_hand kz_X11_hand km_11_313 (c_m_hand l hw) (mPreV0 hK hM) hS rfl rfl hl.1 (Nat.le_of_ble_eq_true rfl) ⟨rfl, rfl⟩ ⟨Nat.le_of_ble_eq_true rfl, Nat.le_of_ble_eq_true rfl⟩ ⟨(Nat.zero_le _), (Nat.zero_le _)⟩ dX11_join_7 (fun r_1 u H locs hw hM hS => ?_)
  obtain ⟨f_land_1, f_huts_1, f_singers_1⟩ := u
  refine lv_if_eq (tgt := 29) hx hb dX11_join_10 (by decide) (fun hc => ?_) (fun hc => ?_)
  · have hw := hw.1 hc
    refine lv_iconst (v := (-1 : Int32)) hx hb dX11_join_29 (by decide) ?_
    exact zret_iw ⟨(0 : Int32), f_land_1, f_huts_1, f_singers_1, a_run, a_other⟩ zc hS hw hM dX11_join_30
  · have hw := hw.2 hc
    refine lv_aload_n hx hb dX11_join_13 rfl (lv_at hl 0 rfl) ?_
    refine lv_iload_n hx hb dX11_join_14 rfl (lv_at hl 2 rfl) ?_
    refine zV_i [.int x2] [] zc ky_X11_isHut kz_X11_isHut km_11_316 (c_m_isHut l hw) (mPreV0 hK hM) rfl rfl hl.1 (Nat.le_of_ble_eq_true rfl) ⟨rfl, rfl⟩ ⟨Nat.le_of_ble_eq_true rfl, Nat.le_of_ble_eq_true rfl⟩ ⟨(Nat.zero_le _), (Nat.zero_le _)⟩ dX11_join_15 (fun r_2 hw => ?_)
    refine lv_if_eq (tgt := 29) hx hb dX11_join_18 (by decide) (fun hc => ?_) (fun hc => ?_)
    · have hw := hw.1 hc
      refine lv_iconst (v := (-1 : Int32)) hx hb dX11_join_29 (by decide) ?_
      exact zret_iw ⟨(0 : Int32), f_land_1, f_huts_1, f_singers_1, a_run, a_other⟩ zc hS hw hM dX11_join_30
    · have hw := hw.2 hc
      refine lv_aload_n hx hb dX11_join_21 rfl (lv_at hl 0 rfl) ?_
      refine lv_iload_n hx hb dX11_join_22 rfl (lv_at hl 3 rfl) ?_
      refine zV_i [.int x3] [] zc ky_X11_isHut kz_X11_isHut km_11_316 (c_m_isHut l hw) (mPreV0 hK hM) rfl rfl hl.1 (Nat.le_of_ble_eq_true rfl) ⟨rfl, rfl⟩ ⟨Nat.le_of_ble_eq_true rfl, Nat.le_of_ble_eq_true rfl⟩ ⟨(Nat.zero_le _), (Nat.zero_le _)⟩ dX11_join_23 (fun r_3 hw => ?_)
      refine lv_if_ne (tgt := 31) hx hb dX11_join_26 (by decide) (fun hc => ?_) (fun hc => ?_)
      · have hw := hw.1 hc
        refine lv_aload_n hx hb dX11_join_31 rfl (lv_at hl 0 rfl) ?_
        refine lv_iload_n hx hb dX11_join_32 rfl (lv_at hl 2 rfl) ?_
        refine lv_iconst (v := (0 : Int32)) hx hb dX11_join_33 (by decide) ?_
        refine zVw_v [.int x2, .int (0 : Int32)] [] zc ky_X11_findRun kz_X11_findRun km_11_414 (c_m_findRun l hw) (mPreV0 hK hM) hS rfl rfl hl.1 (Nat.le_of_ble_eq_true rfl) ⟨rfl, rfl⟩ ⟨Nat.le_of_ble_eq_true rfl, Nat.le_of_ble_eq_true rfl⟩ ⟨(Nat.zero_le _), (Nat.zero_le _)⟩ dX11_join_34 (fun a_run_1 H locs hw hM hS => ?_)
        refine lv_iconst (v := (0 : Int32)) hx hb dX11_join_37 (by decide) ?_
        refine lv_istore (lv' := [(5, .int (0 : Int32)), (0, .ref q), (1, .int x1), (2, .int x2), (3, .int x3), (4, .int x4)]) hx hb dX11_join_38 hl (by decide) rfl (fun ls hl => ?_)
        exact t_m_join_40 zc hK hM hS  (lv_sub hl [1, 4, 5, 0] rfl) hw
      · have hw := hw.2 hc
        refine lv_iconst (v := (-1 : Int32)) hx hb dX11_join_29 (by decide) ?_
        exact zret_iw ⟨(0 : Int32), f_land_1, f_huts_1, f_singers_1, a_run, a_other⟩ zc hS hw hM dX11_join_30
set_option maxRecDepth 20000 in
theorem c_m_join (l : Launch) {E : zE} {q : Nat} {f_code : Int32} {a_tape : Nat → Int32} {a_size : Nat → Int32} {a_fault : Nat → Int32} {a_faultPlace : Nat → Int32} {a_many : Nat → Int32} {a_lands : Nat → Int32} {a_evenings : Nat → Int32} {a_sights : Nat → Int32} {a_choirs : Nat → Int32} {f_reached : Int32} {f_length : Int32} {f_begins : Int32} {f_sort : Int32} {f_value : Int32} {f_word : Int64} {f_wrongAt : Int32} {f_laterFault : Int32} {f_laterPlace : Int32} {a_told : Nat → Int32} {a_read : Nat → Int32} {f_farHut : Int32} {f_farSinger : Int32} {f_good : Int32} {f_land : Int32} {f_huts : Int32} {f_singers : Int32} {f_evening : Int32} {a_at : Nat → Int32} {a_knows : Nat → Int32} {a_climbed : Nat → Int32} {a_snow : Nat → Int32} {a_level : Nat → Int32} {f_begun : Int32} {f_minute : Int32} {f_avalanches : Int32} {a_run : Nat → Int32} {a_covers : Nat → Int32} {a_routes : Nat → Int32} {a_longest : Nat → Int32} {a_steep : Nat → Int32} {a_laid : Nat → Int32} {a_far : Nat → Int32} {f_sight : Int32} {a_runs : Nat → Int32} {f_choir : Int32} {f_voices : Int32} {a_rest : Nat → Int64} {a_wins : Nat → Int32} {f_seed : Int32} {a_other : Nat → Int32} {a_kept : Nat → Int32} {x1 : Int32} {x2 : Int32} {x3 : Int32} {x4 : Int32} {post : Int32 → (Int32) → (Int32) → (Int32) → (Int32) → (Nat → Int32) → (Nat → Int32) → Prop} (hw : q_m_join_0 f_code a_many a_lands f_land f_huts f_singers a_run a_other x1 x2 x3 x4 post) : Met l yX11_join (Cond.code yX11_join cX11_join 9 (some .int) :: zb) rm_m_join (va_Pc [.ref q, .int x1, .int x2, .int x3, .int x4] (fun U => mW E q f_code a_tape a_size a_fault a_faultPlace a_many a_lands a_evenings a_sights a_choirs f_reached f_length f_begins f_sort f_value f_word f_wrongAt f_laterFault f_laterPlace a_told a_read f_farHut f_farSinger f_good f_land f_huts f_singers f_evening a_at a_knows a_climbed a_snow a_level f_begun f_minute f_avalanches a_run a_covers a_routes a_longest a_steep a_laid a_far f_sight a_runs f_choir f_voices a_rest a_wins f_seed a_other a_kept U.heap ∧ zK E U)) (zQi (S := (Int32) × (Int32) × (Int32) × (Int32) × (Nat → Int32) × (Nat → Int32)) (fun r u => post r u.1 u.2.1 u.2.2.1 u.2.2.2.1 u.2.2.2.2.1 u.2.2.2.2.2) (fun u H => mW E q u.1 a_tape a_size a_fault a_faultPlace a_many a_lands a_evenings a_sights a_choirs f_reached f_length f_begins f_sort f_value f_word f_wrongAt f_laterFault f_laterPlace a_told a_read f_farHut f_farSinger f_good u.2.1 u.2.2.1 u.2.2.2.1 f_evening a_at a_knows a_climbed a_snow a_level f_begun f_minute f_avalanches u.2.2.2.2.1 a_covers a_routes a_longest a_steep a_laid a_far f_sight a_runs f_choir f_voices a_rest a_wins f_seed u.2.2.2.2.2 a_kept H) (mA q)) 0 0 (mA q) := by
  refine Met.ofW (cc := cX11_join) (maxL := 9) (ret := (some .int)) (by decide) rfl ?_
  intro p e s m args below meth c s₁ B hml hv
  obtain ⟨rfl, hM, hK⟩ := hv
  have zc := zc_of B hml
  have hl := lv_entry ([.ref q, .int x1, .int x2, .int x3, .int x4]) (n := 9) (Nat.le_of_ble_eq_true rfl)
  rw [lg_entry_eq]
  generalize (lg_sl ([.ref q, .int x1, .int x2, .int x3, .int x4]) ++ List.replicate (9 - (lg_sl ([.ref q, .int x1, .int x2, .int x3, .int x4])).length) Slot.unset).toArray = ls at hl ⊢
  have hl : lv_has ls 9 [(0, .ref q), (1, .int x1), (2, .int x2), (3, .int x3), (4, .int x4)] := hl
  exact t_m_join_0 zc hK hM va_S.rf (lv_sub hl [0, 1, 2, 3, 4] rfl) hw
-- m_slopes
abbrev rm_m_slopes : Room := { frames := 4, cells := 0, slots := 0, locals := 90 }
def q_m_slopes_121 (P38 : Int32 → Int32 → Int32 → Int32 → Int32 → (Nat → Int32) → (Nat → Int32) → (Nat → Int32) → (Nat → Int32) → (Nat → Int32) → Prop) (f_code : Int32) (a_many : Nat → Int32) (a_lands : Nat → Int32) (f_land : Int32) (f_huts : Int32) (f_singers : Int32) (a_run : Nat → Int32) (a_routes : Nat → Int32) (a_longest : Nat → Int32) (a_steep : Nat → Int32) (a_laid : Nat → Int32) (x2 : Int32) (x3 : Int32) (x4 : Int32) (x5 : Int32) (x6 : Int32) (x7 : Int32) (x9 : Int32) (post : Int32 → (Int32) → (Int32) → (Int32) → (Int32) → (Nat → Int32) → (Nat → Int32) → (Nat → Int32) → (Nat → Int32) → (Nat → Int32) → Prop) : Prop :=
  ∀ P121 : Int32 → Int32 → Prop, (∀ (x6 : Int32) (x9 : Int32), ((f_huts ≤ x9 → (∀ v_1 : Int32, v_1 = x7 + (1 : Int32) → (P38 x3 x4 x5 x6 v_1 a_run a_routes a_longest a_steep a_laid))) ∧ (¬ f_huts ≤ x9 → (vp_in x9 9 ∧ (q_m_greater_0 x6 (a_longest (Int32.toNatClampNeg x9)) (fun r_1 => ∀ v_2 : Int32, v_2 = x9 + (1 : Int32) → (P121 r_1 v_2)))))) → P121 x6 x9) → P121 x6 x9
def q_m_slopes_99 (P38 : Int32 → Int32 → Int32 → Int32 → Int32 → (Nat → Int32) → (Nat → Int32) → (Nat → Int32) → (Nat → Int32) → (Nat → Int32) → Prop) (f_code : Int32) (a_many : Nat → Int32) (a_lands : Nat → Int32) (f_land : Int32) (f_huts : Int32) (f_singers : Int32) (a_run : Nat → Int32) (a_routes : Nat → Int32) (a_longest : Nat → Int32) (a_steep : Nat → Int32) (a_laid : Nat → Int32) (x2 : Int32) (x3 : Int32) (x5 : Int32) (x6 : Int32) (x7 : Int32) (x8 : Int32) (y0 : Int32) (y1 : Int32) (post : Int32 → (Int32) → (Int32) → (Int32) → (Int32) → (Nat → Int32) → (Nat → Int32) → (Nat → Int32) → (Nat → Int32) → (Nat → Int32) → Prop) : Prop :=
  ∀ v_1 : Int32, v_1 = (y0 ||| y1) → (q_m_ones_0 x8 (fun r_1 => ∀ v_2 : Int32, v_2 = (x5 + r_1) → (q_m_findRoutes_0 a_lands f_land f_huts a_routes a_longest a_steep a_laid x7 (fun a_routes_1 a_longest_1 a_steep_1 a_laid_1 => q_m_slopes_121 P38 f_code a_many a_lands f_land f_huts f_singers a_run a_routes_1 a_longest_1 a_steep_1 a_laid_1 x2 x3 v_1 v_2 x6 x7 (0 : Int32) post))))
def q_m_slopes_98 (P38 : Int32 → Int32 → Int32 → Int32 → Int32 → (Nat → Int32) → (Nat → Int32) → (Nat → Int32) → (Nat → Int32) → (Nat → Int32) → Prop) (f_code : Int32) (a_many : Nat → Int32) (a_lands : Nat → Int32) (f_land : Int32) (f_huts : Int32) (f_singers : Int32) (a_run : Nat → Int32) (a_routes : Nat → Int32) (a_longest : Nat → Int32) (a_steep : Nat → Int32) (a_laid : Nat → Int32) (x2 : Int32) (x3 : Int32) (x5 : Int32) (x6 : Int32) (x7 : Int32) (x8 : Int32) (y0 : Int32) (post : Int32 → (Int32) → (Int32) → (Int32) → (Int32) → (Nat → Int32) → (Nat → Int32) → (Nat → Int32) → (Nat → Int32) → (Nat → Int32) → Prop) : Prop :=
  q_m_slopes_99 P38 f_code a_many a_lands f_land f_huts f_singers a_run a_routes a_longest a_steep a_laid x2 x3 x5 x6 x7 x8 y0 (0 : Int32) post
def q_m_slopes_38 (f_code : Int32) (a_many : Nat → Int32) (a_lands : Nat → Int32) (f_land : Int32) (f_huts : Int32) (f_singers : Int32) (a_run : Nat → Int32) (a_routes : Nat → Int32) (a_longest : Nat → Int32) (a_steep : Nat → Int32) (a_laid : Nat → Int32) (x2 : Int32) (x3 : Int32) (x4 : Int32) (x5 : Int32) (x6 : Int32) (x7 : Int32) (post : Int32 → (Int32) → (Int32) → (Int32) → (Int32) → (Nat → Int32) → (Nat → Int32) → (Nat → Int32) → (Nat → Int32) → (Nat → Int32) → Prop) : Prop :=
  ∀ P38 : Int32 → Int32 → Int32 → Int32 → Int32 → (Nat → Int32) → (Nat → Int32) → (Nat → Int32) → (Nat → Int32) → (Nat → Int32) → Prop, (∀ (x3 : Int32) (x4 : Int32) (x5 : Int32) (x6 : Int32) (x7 : Int32) (a_run : Nat → Int32) (a_routes : Nat → Int32) (a_longest : Nat → Int32) (a_steep : Nat → Int32) (a_laid : Nat → Int32), ((f_huts ≤ x7 → ((¬ x2 = 0 → ((¬ x2 = (1 : Int32) → ((¬ x2 = (2 : Int32) → (post x6 f_code f_land f_huts f_singers a_run a_routes a_longest a_steep a_laid)) ∧ (x2 = (2 : Int32) → (post x5 f_code f_land f_huts f_singers a_run a_routes a_longest a_steep a_laid)))) ∧ (x2 = (1 : Int32) → (post x4 f_code f_land f_huts f_singers a_run a_routes a_longest a_steep a_laid)))) ∧ (x2 = 0 → (q_m_noDams_0 a_lands f_land f_huts (fun r_1 => post (r_1 &&& (x3 ^^^ (-1 : Int32))) f_code f_land f_huts f_singers a_run a_routes a_longest a_steep a_laid))))) ∧ (¬ f_huts ≤ x7 → (q_m_findRun_0 a_lands f_land f_huts a_run x7 (0 : Int32) (fun a_run_1 => q_m_comesBy_0 f_huts a_run_1 (999999 : Int32) (fun r_2 => ∀ v_1 : Int32, v_1 = (r_2 &&& (((1 : Int32) <<< (x7 &&& 31)) ^^^ (-1 : Int32))) → (∀ v_2 : Int32, v_2 = (x3 ||| v_1) → ((¬ v_1 = 0 → (q_m_slopes_98 P38 f_code a_many a_lands f_land f_huts f_singers a_run_1 a_routes a_longest a_steep a_laid x2 v_2 x5 x6 x7 v_1 x4 post)) ∧ (v_1 = 0 → (q_m_isDam_0 a_lands f_land x7 (fun r_3 => (¬ r_3 = 0 → (q_m_slopes_98 P38 f_code a_many a_lands f_land f_huts f_singers a_run_1 a_routes a_longest a_steep a_laid x2 v_2 x5 x6 x7 v_1 x4 post)) ∧ (r_3 = 0 → (q_m_slopes_99 P38 f_code a_many a_lands f_land f_huts f_singers a_run_1 a_routes a_longest a_steep a_laid x2 v_2 x5 x6 x7 v_1 x4 ((1 : Int32) <<< (x7 &&& 31)) post)))))))))))) → P38 x3 x4 x5 x6 x7 a_run a_routes a_longest a_steep a_laid) → P38 x3 x4 x5 x6 x7 a_run a_routes a_longest a_steep a_laid
def q_m_slopes_0 (f_code : Int32) (a_many : Nat → Int32) (a_lands : Nat → Int32) (f_land : Int32) (f_huts : Int32) (f_singers : Int32) (a_run : Nat → Int32) (a_routes : Nat → Int32) (a_longest : Nat → Int32) (a_steep : Nat → Int32) (a_laid : Nat → Int32) (x1 : Int32) (x2 : Int32) (post : Int32 → (Int32) → (Int32) → (Int32) → (Int32) → (Nat → Int32) → (Nat → Int32) → (Nat → Int32) → (Nat → Int32) → (Nat → Int32) → Prop) : Prop :=
  q_m_hand_0 a_many a_lands f_land f_huts f_singers x1 (fun r_1 f_land_1 f_huts_1 f_singers_1 => (r_1 = 0 → (post (-1 : Int32) (0 : Int32) f_land_1 f_huts_1 f_singers_1 a_run a_routes a_longest a_steep a_laid)) ∧ (¬ r_1 = 0 → (q_m_in_0 x2 (0 : Int32) (3 : Int32) (fun r_2 => (¬ r_2 = 0 → (q_m_slopes_38 (0 : Int32) a_many a_lands f_land_1 f_huts_1 f_singers_1 a_run a_routes a_longest a_steep a_laid x2 (0 : Int32) (0 : Int32) (0 : Int32) (0 : Int32) (0 : Int32) post)) ∧ (r_2 = 0 → (post (-1 : Int32) (0 : Int32) f_land_1 f_huts_1 f_singers_1 a_run a_routes a_longest a_steep a_laid))))))
set_option maxRecDepth 20000 in
theorem t_m_slopes_121 {p : Program} {l : Launch} {e : Env} {s : State} {m : MethodId} {args : Array Value} {below : List Frame} {meth : Method} {c : Code} {E : zE} {q : Nat} {f_code : Int32} {a_tape : Nat → Int32} {a_size : Nat → Int32} {a_fault : Nat → Int32} {a_faultPlace : Nat → Int32} {a_many : Nat → Int32} {a_lands : Nat → Int32} {a_evenings : Nat → Int32} {a_sights : Nat → Int32} {a_choirs : Nat → Int32} {f_reached : Int32} {f_length : Int32} {f_begins : Int32} {f_sort : Int32} {f_value : Int32} {f_word : Int64} {f_wrongAt : Int32} {f_laterFault : Int32} {f_laterPlace : Int32} {a_told : Nat → Int32} {a_read : Nat → Int32} {f_farHut : Int32} {f_farSinger : Int32} {f_good : Int32} {f_land : Int32} {f_huts : Int32} {f_singers : Int32} {f_evening : Int32} {a_at : Nat → Int32} {a_knows : Nat → Int32} {a_climbed : Nat → Int32} {a_snow : Nat → Int32} {a_level : Nat → Int32} {f_begun : Int32} {f_minute : Int32} {f_avalanches : Int32} {a_run : Nat → Int32} {a_covers : Nat → Int32} {a_routes : Nat → Int32} {a_longest : Nat → Int32} {a_steep : Nat → Int32} {a_laid : Nat → Int32} {a_far : Nat → Int32} {f_sight : Int32} {a_runs : Nat → Int32} {f_choir : Int32} {f_voices : Int32} {a_rest : Nat → Int64} {a_wins : Nat → Int32} {f_seed : Int32} {a_other : Nat → Int32} {a_kept : Nat → Int32} {P38 : Int32 → Int32 → Int32 → Int32 → Int32 → (Nat → Int32) → (Nat → Int32) → (Nat → Int32) → (Nat → Int32) → (Nat → Int32) → Prop} {post : Int32 → (Int32) → (Int32) → (Int32) → (Int32) → (Nat → Int32) → (Nat → Int32) → (Nat → Int32) → (Nat → Int32) → (Nat → Int32) → Prop} {x2 : Int32} {x3 : Int32} {x4 : Int32} {x5 : Int32} {x6 : Int32} {x7 : Int32} {x9 : Int32} {ls : Array Slot} {H : Heap} {locs : List Loc}
    (zc : zC p s m args meth c cX11_slopes 10 RX11 (some .int))
    (hK : zK E s)
    (hM : mW E q f_code a_tape a_size a_fault a_faultPlace a_many a_lands a_evenings a_sights a_choirs f_reached f_length f_begins f_sort f_value f_word f_wrongAt f_laterFault f_laterPlace a_told a_read f_farHut f_farSinger f_good f_land f_huts f_singers f_evening a_at a_knows a_climbed a_snow a_level f_begun f_minute f_avalanches a_run a_covers a_routes a_longest a_steep a_laid a_far f_sight a_runs f_choir f_voices a_rest a_wins f_seed a_other a_kept H)
    (hS : va_S (mA q) s.heap H locs)
    (hP38 : ∀ (x3 : Int32) (x4 : Int32) (x5 : Int32) (x6 : Int32) (x7 : Int32) (a_run : Nat → Int32) (a_routes : Nat → Int32) (a_longest : Nat → Int32) (a_steep : Nat → Int32) (a_laid : Nat → Int32) (H : Heap) (locs : List Loc) (ls : Array Slot), P38 x3 x4 x5 x6 x7 a_run a_routes a_longest a_steep a_laid → lv_has ls 10 [(0, .ref q), (2, .int x2), (3, .int x3), (4, .int x4), (5, .int x5), (6, .int x6), (7, .int x7)] → mW E q f_code a_tape a_size a_fault a_faultPlace a_many a_lands a_evenings a_sights a_choirs f_reached f_length f_begins f_sort f_value f_word f_wrongAt f_laterFault f_laterPlace a_told a_read f_farHut f_farSinger f_good f_land f_huts f_singers f_evening a_at a_knows a_climbed a_snow a_level f_begun f_minute f_avalanches a_run a_covers a_routes a_longest a_steep a_laid a_far f_sight a_runs f_choir f_voices a_rest a_wins f_seed a_other a_kept H → va_S (mA q) s.heap H locs → W p l e rm_m_slopes s m args below meth c H locs 0 0 (MQ below (zQi (S := (Int32) × (Int32) × (Int32) × (Int32) × (Nat → Int32) × (Nat → Int32) × (Nat → Int32) × (Nat → Int32) × (Nat → Int32)) (fun r u => post r u.1 u.2.1 u.2.2.1 u.2.2.2.1 u.2.2.2.2.1 u.2.2.2.2.2.1 u.2.2.2.2.2.2.1 u.2.2.2.2.2.2.2.1 u.2.2.2.2.2.2.2.2) (fun u H => mW E q u.1 a_tape a_size a_fault a_faultPlace a_many a_lands a_evenings a_sights a_choirs f_reached f_length f_begins f_sort f_value f_word f_wrongAt f_laterFault f_laterPlace a_told a_read f_farHut f_farSinger f_good u.2.1 u.2.2.1 u.2.2.2.1 f_evening a_at a_knows a_climbed a_snow a_level f_begun f_minute f_avalanches u.2.2.2.2.1 a_covers u.2.2.2.2.2.1 u.2.2.2.2.2.2.1 u.2.2.2.2.2.2.2.1 u.2.2.2.2.2.2.2.2 a_far f_sight a_runs f_choir f_voices a_rest a_wins f_seed a_other a_kept H) (mA q)) args s 0 0 (mA q)) (F0 m 38 ls []))
    (hl : lv_has ls 10 [(0, .ref q), (2, .int x2), (3, .int x3), (4, .int x4), (5, .int x5), (6, .int x6), (7, .int x7), (9, .int x9)])
    (hw : q_m_slopes_121 P38 f_code a_many a_lands f_land f_huts f_singers a_run a_routes a_longest a_steep a_laid x2 x3 x4 x5 x6 x7 x9 post) :
    W p l e rm_m_slopes s m args below meth c H locs 0 0 (MQ below (zQi (S := (Int32) × (Int32) × (Int32) × (Int32) × (Nat → Int32) × (Nat → Int32) × (Nat → Int32) × (Nat → Int32) × (Nat → Int32)) (fun r u => post r u.1 u.2.1 u.2.2.1 u.2.2.2.1 u.2.2.2.2.1 u.2.2.2.2.2.1 u.2.2.2.2.2.2.1 u.2.2.2.2.2.2.2.1 u.2.2.2.2.2.2.2.2) (fun u H => mW E q u.1 a_tape a_size a_fault a_faultPlace a_many a_lands a_evenings a_sights a_choirs f_reached f_length f_begins f_sort f_value f_word f_wrongAt f_laterFault f_laterPlace a_told a_read f_farHut f_farSinger f_good u.2.1 u.2.2.1 u.2.2.2.1 f_evening a_at a_knows a_climbed a_snow a_level f_begun f_minute f_avalanches u.2.2.2.2.1 a_covers u.2.2.2.2.2.1 u.2.2.2.2.2.2.1 u.2.2.2.2.2.2.2.1 u.2.2.2.2.2.2.2.2 a_far f_sight a_runs f_choir f_voices a_rest a_wins f_seed a_other a_kept H) (mA q)) args s 0 0 (mA q)) (F0 m 121 ls []) := by
  have hx := zc.1
  have hb := zc.2.1
  refine hw (fun x6 x9 => ∀ (H : Heap) (locs : List Loc) (ls : Array Slot), lv_has ls 10 [(0, .ref q), (2, .int x2), (3, .int x3), (4, .int x4), (5, .int x5), (6, .int x6), (7, .int x7), (9, .int x9)] → mW E q f_code a_tape a_size a_fault a_faultPlace a_many a_lands a_evenings a_sights a_choirs f_reached f_length f_begins f_sort f_value f_word f_wrongAt f_laterFault f_laterPlace a_told a_read f_farHut f_farSinger f_good f_land f_huts f_singers f_evening a_at a_knows a_climbed a_snow a_level f_begun f_minute f_avalanches a_run a_covers a_routes a_longest a_steep a_laid a_far f_sight a_runs f_choir f_voices a_rest a_wins f_seed a_other a_kept H → va_S (mA q) s.heap H locs → W p l e rm_m_slopes s m args below meth c H locs 0 0 (MQ below (zQi (S := (Int32) × (Int32) × (Int32) × (Int32) × (Nat → Int32) × (Nat → Int32) × (Nat → Int32) × (Nat → Int32) × (Nat → Int32)) (fun r u => post r u.1 u.2.1 u.2.2.1 u.2.2.2.1 u.2.2.2.2.1 u.2.2.2.2.2.1 u.2.2.2.2.2.2.1 u.2.2.2.2.2.2.2.1 u.2.2.2.2.2.2.2.2) (fun u H => mW E q u.1 a_tape a_size a_fault a_faultPlace a_many a_lands a_evenings a_sights a_choirs f_reached f_length f_begins f_sort f_value f_word f_wrongAt f_laterFault f_laterPlace a_told a_read f_farHut f_farSinger f_good u.2.1 u.2.2.1 u.2.2.2.1 f_evening a_at a_knows a_climbed a_snow a_level f_begun f_minute f_avalanches u.2.2.2.2.1 a_covers u.2.2.2.2.2.1 u.2.2.2.2.2.2.1 u.2.2.2.2.2.2.2.1 u.2.2.2.2.2.2.2.2 a_far f_sight a_runs f_choir f_voices a_rest a_wins f_seed a_other a_kept H) (mA q)) args s 0 0 (mA q)) (F0 m 121 ls [])) ?_ _ _ _ hl hM hS
  intro x6 x9 hw H locs ls hl hM hS
  refine lv_iload hx hb dX11_slopes_121 (lv_at hl 7 rfl) ?_
  refine lv_aload_n hx hb dX11_slopes_123 rfl (lv_at hl 0 rfl) ?_
  refine mg_11_307_0 zc hK hM dX11_slopes_124 ?_
  refine lv_icmp_ge (tgt := 150) hx hb dX11_slopes_127 (by decide) (fun hc => ?_) (fun hc => ?_)
  · have hw := hw.1 hc
    obtain ⟨v_1, ev_1⟩ : ∃ y : Int32, y = x7 + (1 : Int32) := ⟨_, rfl⟩
    have hw := hw v_1 ev_1
    refine lv_iinc (v := v_1) (k := 6) (lv' := [(7, .int v_1), (0, .ref q), (2, .int x2), (3, .int x3), (4, .int x4), (5, .int x5), (6, .int x6), (9, .int x9)]) hx hb dX11_slopes_150 hl rfl (by rw [ev_1]; rfl) (by decide) rfl (fun ls hl => ?_)
    refine lv_goto (tgt := 38) hx hb dX11_slopes_153 (by decide) ?_
    exact hP38 _ _ _ _ _ _ _ _ _ _ _ _ _ hw (lv_sub hl [1, 2, 3, 4, 5, 6, 0] rfl) hM hS
  · have hw := hw.2 hc
    refine lv_iload hx hb dX11_slopes_130 (lv_at hl 5 rfl) ?_
    refine lv_aload_n hx hb dX11_slopes_132 rfl (lv_at hl 0 rfl) ?_
    refine mg_11_68_0 zc hK hM dX11_slopes_133 ?_
    refine lv_iload hx hb dX11_slopes_136 (lv_at hl 7 rfl) ?_
    refine mld_20 zc hK hM hw.1 dX11_slopes_138 ?_
    have hw := hw.2
    refine zS_i [.int x6, .int (a_longest (Int32.toNatClampNeg x9))] [] zc ky_X11_greater kz_X11_greater km_11_171 (c_m_greater l hw) (zPre0 _) rfl rfl hl.1 (Nat.le_of_ble_eq_true rfl) ⟨rfl, rfl⟩ ⟨Nat.le_of_ble_eq_true rfl, Nat.le_of_ble_eq_true rfl⟩ ⟨(Nat.zero_le _), (Nat.zero_le _)⟩ dX11_slopes_139 (fun r_1 hw => ?_)
    refine lv_istore (lv' := [(6, .int r_1), (0, .ref q), (2, .int x2), (3, .int x3), (4, .int x4), (5, .int x5), (7, .int x7), (9, .int x9)]) hx hb dX11_slopes_142 hl (by decide) rfl (fun ls hl => ?_)
    obtain ⟨v_2, ev_2⟩ : ∃ y : Int32, y = x9 + (1 : Int32) := ⟨_, rfl⟩
    have hw := hw v_2 ev_2
    refine lv_iinc (v := v_2) (k := 7) (lv' := [(9, .int v_2), (6, .int r_1), (0, .ref q), (2, .int x2), (3, .int x3), (4, .int x4), (5, .int x5), (7, .int x7)]) hx hb dX11_slopes_144 hl rfl (by rw [ev_2]; rfl) (by decide) rfl (fun ls hl => ?_)
    refine lv_goto (tgt := 121) hx hb dX11_slopes_147 (by decide) ?_
    exact hw _ _ _ (lv_sub hl [2, 3, 4, 5, 6, 1, 7, 0] rfl) hM hS
set_option maxRecDepth 20000 in
theorem t_m_slopes_99 {p : Program} {l : Launch} {e : Env} {s : State} {m : MethodId} {args : Array Value} {below : List Frame} {meth : Method} {c : Code} {E : zE} {q : Nat} {f_code : Int32} {a_tape : Nat → Int32} {a_size : Nat → Int32} {a_fault : Nat → Int32} {a_faultPlace : Nat → Int32} {a_many : Nat → Int32} {a_lands : Nat → Int32} {a_evenings : Nat → Int32} {a_sights : Nat → Int32} {a_choirs : Nat → Int32} {f_reached : Int32} {f_length : Int32} {f_begins : Int32} {f_sort : Int32} {f_value : Int32} {f_word : Int64} {f_wrongAt : Int32} {f_laterFault : Int32} {f_laterPlace : Int32} {a_told : Nat → Int32} {a_read : Nat → Int32} {f_farHut : Int32} {f_farSinger : Int32} {f_good : Int32} {f_land : Int32} {f_huts : Int32} {f_singers : Int32} {f_evening : Int32} {a_at : Nat → Int32} {a_knows : Nat → Int32} {a_climbed : Nat → Int32} {a_snow : Nat → Int32} {a_level : Nat → Int32} {f_begun : Int32} {f_minute : Int32} {f_avalanches : Int32} {a_run : Nat → Int32} {a_covers : Nat → Int32} {a_routes : Nat → Int32} {a_longest : Nat → Int32} {a_steep : Nat → Int32} {a_laid : Nat → Int32} {a_far : Nat → Int32} {f_sight : Int32} {a_runs : Nat → Int32} {f_choir : Int32} {f_voices : Int32} {a_rest : Nat → Int64} {a_wins : Nat → Int32} {f_seed : Int32} {a_other : Nat → Int32} {a_kept : Nat → Int32} {P38 : Int32 → Int32 → Int32 → Int32 → Int32 → (Nat → Int32) → (Nat → Int32) → (Nat → Int32) → (Nat → Int32) → (Nat → Int32) → Prop} {post : Int32 → (Int32) → (Int32) → (Int32) → (Int32) → (Nat → Int32) → (Nat → Int32) → (Nat → Int32) → (Nat → Int32) → (Nat → Int32) → Prop} {x2 : Int32} {x3 : Int32} {x5 : Int32} {x6 : Int32} {x7 : Int32} {x8 : Int32} {y0 : Int32} {y1 : Int32} {ls : Array Slot} {H : Heap} {locs : List Loc}
    (zc : zC p s m args meth c cX11_slopes 10 RX11 (some .int))
    (hK : zK E s)
    (hM : mW E q f_code a_tape a_size a_fault a_faultPlace a_many a_lands a_evenings a_sights a_choirs f_reached f_length f_begins f_sort f_value f_word f_wrongAt f_laterFault f_laterPlace a_told a_read f_farHut f_farSinger f_good f_land f_huts f_singers f_evening a_at a_knows a_climbed a_snow a_level f_begun f_minute f_avalanches a_run a_covers a_routes a_longest a_steep a_laid a_far f_sight a_runs f_choir f_voices a_rest a_wins f_seed a_other a_kept H)
    (hS : va_S (mA q) s.heap H locs)
    (hP38 : ∀ (x3 : Int32) (x4 : Int32) (x5 : Int32) (x6 : Int32) (x7 : Int32) (a_run : Nat → Int32) (a_routes : Nat → Int32) (a_longest : Nat → Int32) (a_steep : Nat → Int32) (a_laid : Nat → Int32) (H : Heap) (locs : List Loc) (ls : Array Slot), P38 x3 x4 x5 x6 x7 a_run a_routes a_longest a_steep a_laid → lv_has ls 10 [(0, .ref q), (2, .int x2), (3, .int x3), (4, .int x4), (5, .int x5), (6, .int x6), (7, .int x7)] → mW E q f_code a_tape a_size a_fault a_faultPlace a_many a_lands a_evenings a_sights a_choirs f_reached f_length f_begins f_sort f_value f_word f_wrongAt f_laterFault f_laterPlace a_told a_read f_farHut f_farSinger f_good f_land f_huts f_singers f_evening a_at a_knows a_climbed a_snow a_level f_begun f_minute f_avalanches a_run a_covers a_routes a_longest a_steep a_laid a_far f_sight a_runs f_choir f_voices a_rest a_wins f_seed a_other a_kept H → va_S (mA q) s.heap H locs → W p l e rm_m_slopes s m args below meth c H locs 0 0 (MQ below (zQi (S := (Int32) × (Int32) × (Int32) × (Int32) × (Nat → Int32) × (Nat → Int32) × (Nat → Int32) × (Nat → Int32) × (Nat → Int32)) (fun r u => post r u.1 u.2.1 u.2.2.1 u.2.2.2.1 u.2.2.2.2.1 u.2.2.2.2.2.1 u.2.2.2.2.2.2.1 u.2.2.2.2.2.2.2.1 u.2.2.2.2.2.2.2.2) (fun u H => mW E q u.1 a_tape a_size a_fault a_faultPlace a_many a_lands a_evenings a_sights a_choirs f_reached f_length f_begins f_sort f_value f_word f_wrongAt f_laterFault f_laterPlace a_told a_read f_farHut f_farSinger f_good u.2.1 u.2.2.1 u.2.2.2.1 f_evening a_at a_knows a_climbed a_snow a_level f_begun f_minute f_avalanches u.2.2.2.2.1 a_covers u.2.2.2.2.2.1 u.2.2.2.2.2.2.1 u.2.2.2.2.2.2.2.1 u.2.2.2.2.2.2.2.2 a_far f_sight a_runs f_choir f_voices a_rest a_wins f_seed a_other a_kept H) (mA q)) args s 0 0 (mA q)) (F0 m 38 ls []))
    (hl : lv_has ls 10 [(0, .ref q), (2, .int x2), (3, .int x3), (5, .int x5), (6, .int x6), (7, .int x7), (8, .int x8)])
    (hw : q_m_slopes_99 P38 f_code a_many a_lands f_land f_huts f_singers a_run a_routes a_longest a_steep a_laid x2 x3 x5 x6 x7 x8 y0 y1 post) :
    W p l e rm_m_slopes s m args below meth c H locs 0 0 (MQ below (zQi (S := (Int32) × (Int32) × (Int32) × (Int32) × (Nat → Int32) × (Nat → Int32) × (Nat → Int32) × (Nat → Int32) × (Nat → Int32)) (fun r u => post r u.1 u.2.1 u.2.2.1 u.2.2.2.1 u.2.2.2.2.1 u.2.2.2.2.2.1 u.2.2.2.2.2.2.1 u.2.2.2.2.2.2.2.1 u.2.2.2.2.2.2.2.2) (fun u H => mW E q u.1 a_tape a_size a_fault a_faultPlace a_many a_lands a_evenings a_sights a_choirs f_reached f_length f_begins f_sort f_value f_word f_wrongAt f_laterFault f_laterPlace a_told a_read f_farHut f_farSinger f_good u.2.1 u.2.2.1 u.2.2.2.1 f_evening a_at a_knows a_climbed a_snow a_level f_begun f_minute f_avalanches u.2.2.2.2.1 a_covers u.2.2.2.2.2.1 u.2.2.2.2.2.2.1 u.2.2.2.2.2.2.2.1 u.2.2.2.2.2.2.2.2 a_far f_sight a_runs f_choir f_voices a_rest a_wins f_seed a_other a_kept H) (mA q)) args s 0 0 (mA q)) (F0 m 99 ls [.int y1, .int y0]) := by
  have hx := zc.1
  have hb := zc.2.1
  refine lv_ior hx hb dX11_slopes_99 ?_
  refine lv_topi (fun v_1 ev_1 => ?_)
  have hw := hw v_1 ev_1
  refine lv_istore (lv' := [(4, .int v_1), (0, .ref q), (2, .int x2), (3, .int x3), (5, .int x5), (6, .int x6), (7, .int x7), (8, .int x8)]) hx hb dX11_slopes_100 hl (by decide) rfl (fun ls hl => ?_)
  refine lv_iload hx hb dX11_slopes_102 (lv_at hl 4 rfl) ?_
  refine lv_iload hx hb dX11_slopes_104 (lv_at hl 7 rfl) ?_
  refine zS_i [.int x8] [.int x5] zc ky_X11_ones kz_X11_ones km_11_429 (c_m_ones l hw) (zPre0 _) rfl rfl hl.1 (Nat.le_of_ble_eq_true rfl) ⟨rfl, rfl⟩ ⟨Nat.le_of_ble_eq_true rfl, Nat.le_of_ble_eq_true rfl⟩ ⟨(Nat.zero_le _), (Nat.zero_le _)⟩ dX11_slopes_106 (fun r_1 hw => ?_)
  refine lv_iadd hx hb dX11_slopes_109 ?_
  refine lv_topi (fun v_2 ev_2 => ?_)
  have hw := hw v_2 ev_2
  refine lv_istore (lv' := [(5, .int v_2), (4, .int v_1), (0, .ref q), (2, .int x2), (3, .int x3), (6, .int x6), (7, .int x7), (8, .int x8)]) hx hb dX11_slopes_110 hl (by decide) rfl (fun ls hl => ?_)
  refine lv_aload_n hx hb dX11_slopes_112 rfl (lv_at hl 2 rfl) ?_
  refine lv_iload hx hb dX11_slopes_113 (lv_at hl 6 rfl) ?_
  refine zVw_v [.int x7] [] zc ky_X11_findRoutes kz_X11_findRoutes km_11_447 (c_m_findRoutes l hw) (mPreV0 hK hM) hS rfl rfl hl.1 (Nat.le_of_ble_eq_true rfl) ⟨rfl, rfl⟩ ⟨Nat.le_of_ble_eq_true rfl, Nat.le_of_ble_eq_true rfl⟩ ⟨(Nat.zero_le _), (Nat.zero_le _)⟩ dX11_slopes_115 (fun u H locs hw hM hS => ?_)
  obtain ⟨a_routes_1, a_longest_1, a_steep_1, a_laid_1⟩ := u
  refine lv_iconst (v := (0 : Int32)) hx hb dX11_slopes_118 (by decide) ?_
  refine lv_istore (lv' := [(9, .int (0 : Int32)), (5, .int v_2), (4, .int v_1), (0, .ref q), (2, .int x2), (3, .int x3), (6, .int x6), (7, .int x7), (8, .int x8)]) hx hb dX11_slopes_119 hl (by decide) rfl (fun ls hl => ?_)
  exact t_m_slopes_121 zc hK hM hS hP38 (lv_sub hl [3, 4, 5, 2, 1, 6, 7, 0] rfl) hw
set_option maxRecDepth 20000 in
theorem t_m_slopes_98 {p : Program} {l : Launch} {e : Env} {s : State} {m : MethodId} {args : Array Value} {below : List Frame} {meth : Method} {c : Code} {E : zE} {q : Nat} {f_code : Int32} {a_tape : Nat → Int32} {a_size : Nat → Int32} {a_fault : Nat → Int32} {a_faultPlace : Nat → Int32} {a_many : Nat → Int32} {a_lands : Nat → Int32} {a_evenings : Nat → Int32} {a_sights : Nat → Int32} {a_choirs : Nat → Int32} {f_reached : Int32} {f_length : Int32} {f_begins : Int32} {f_sort : Int32} {f_value : Int32} {f_word : Int64} {f_wrongAt : Int32} {f_laterFault : Int32} {f_laterPlace : Int32} {a_told : Nat → Int32} {a_read : Nat → Int32} {f_farHut : Int32} {f_farSinger : Int32} {f_good : Int32} {f_land : Int32} {f_huts : Int32} {f_singers : Int32} {f_evening : Int32} {a_at : Nat → Int32} {a_knows : Nat → Int32} {a_climbed : Nat → Int32} {a_snow : Nat → Int32} {a_level : Nat → Int32} {f_begun : Int32} {f_minute : Int32} {f_avalanches : Int32} {a_run : Nat → Int32} {a_covers : Nat → Int32} {a_routes : Nat → Int32} {a_longest : Nat → Int32} {a_steep : Nat → Int32} {a_laid : Nat → Int32} {a_far : Nat → Int32} {f_sight : Int32} {a_runs : Nat → Int32} {f_choir : Int32} {f_voices : Int32} {a_rest : Nat → Int64} {a_wins : Nat → Int32} {f_seed : Int32} {a_other : Nat → Int32} {a_kept : Nat → Int32} {P38 : Int32 → Int32 → Int32 → Int32 → Int32 → (Nat → Int32) → (Nat → Int32) → (Nat → Int32) → (Nat → Int32) → (Nat → Int32) → Prop} {post : Int32 → (Int32) → (Int32) → (Int32) → (Int32) → (Nat → Int32) → (Nat → Int32) → (Nat → Int32) → (Nat → Int32) → (Nat → Int32) → Prop} {x2 : Int32} {x3 : Int32} {x5 : Int32} {x6 : Int32} {x7 : Int32} {x8 : Int32} {y0 : Int32} {ls : Array Slot} {H : Heap} {locs : List Loc}
    (zc : zC p s m args meth c cX11_slopes 10 RX11 (some .int))
    (hK : zK E s)
    (hM : mW E q f_code a_tape a_size a_fault a_faultPlace a_many a_lands a_evenings a_sights a_choirs f_reached f_length f_begins f_sort f_value f_word f_wrongAt f_laterFault f_laterPlace a_told a_read f_farHut f_farSinger f_good f_land f_huts f_singers f_evening a_at a_knows a_climbed a_snow a_level f_begun f_minute f_avalanches a_run a_covers a_routes a_longest a_steep a_laid a_far f_sight a_runs f_choir f_voices a_rest a_wins f_seed a_other a_kept H)
    (hS : va_S (mA q) s.heap H locs)
    (hP38 : ∀ (x3 : Int32) (x4 : Int32) (x5 : Int32) (x6 : Int32) (x7 : Int32) (a_run : Nat → Int32) (a_routes : Nat → Int32) (a_longest : Nat → Int32) (a_steep : Nat → Int32) (a_laid : Nat → Int32) (H : Heap) (locs : List Loc) (ls : Array Slot), P38 x3 x4 x5 x6 x7 a_run a_routes a_longest a_steep a_laid → lv_has ls 10 [(0, .ref q), (2, .int x2), (3, .int x3), (4, .int x4), (5, .int x5), (6, .int x6), (7, .int x7)] → mW E q f_code a_tape a_size a_fault a_faultPlace a_many a_lands a_evenings a_sights a_choirs f_reached f_length f_begins f_sort f_value f_word f_wrongAt f_laterFault f_laterPlace a_told a_read f_farHut f_farSinger f_good f_land f_huts f_singers f_evening a_at a_knows a_climbed a_snow a_level f_begun f_minute f_avalanches a_run a_covers a_routes a_longest a_steep a_laid a_far f_sight a_runs f_choir f_voices a_rest a_wins f_seed a_other a_kept H → va_S (mA q) s.heap H locs → W p l e rm_m_slopes s m args below meth c H locs 0 0 (MQ below (zQi (S := (Int32) × (Int32) × (Int32) × (Int32) × (Nat → Int32) × (Nat → Int32) × (Nat → Int32) × (Nat → Int32) × (Nat → Int32)) (fun r u => post r u.1 u.2.1 u.2.2.1 u.2.2.2.1 u.2.2.2.2.1 u.2.2.2.2.2.1 u.2.2.2.2.2.2.1 u.2.2.2.2.2.2.2.1 u.2.2.2.2.2.2.2.2) (fun u H => mW E q u.1 a_tape a_size a_fault a_faultPlace a_many a_lands a_evenings a_sights a_choirs f_reached f_length f_begins f_sort f_value f_word f_wrongAt f_laterFault f_laterPlace a_told a_read f_farHut f_farSinger f_good u.2.1 u.2.2.1 u.2.2.2.1 f_evening a_at a_knows a_climbed a_snow a_level f_begun f_minute f_avalanches u.2.2.2.2.1 a_covers u.2.2.2.2.2.1 u.2.2.2.2.2.2.1 u.2.2.2.2.2.2.2.1 u.2.2.2.2.2.2.2.2 a_far f_sight a_runs f_choir f_voices a_rest a_wins f_seed a_other a_kept H) (mA q)) args s 0 0 (mA q)) (F0 m 38 ls []))
    (hl : lv_has ls 10 [(0, .ref q), (2, .int x2), (3, .int x3), (5, .int x5), (6, .int x6), (7, .int x7), (8, .int x8)])
    (hw : q_m_slopes_98 P38 f_code a_many a_lands f_land f_huts f_singers a_run a_routes a_longest a_steep a_laid x2 x3 x5 x6 x7 x8 y0 post) :
    W p l e rm_m_slopes s m args below meth c H locs 0 0 (MQ below (zQi (S := (Int32) × (Int32) × (Int32) × (Int32) × (Nat → Int32) × (Nat → Int32) × (Nat → Int32) × (Nat → Int32) × (Nat → Int32)) (fun r u => post r u.1 u.2.1 u.2.2.1 u.2.2.2.1 u.2.2.2.2.1 u.2.2.2.2.2.1 u.2.2.2.2.2.2.1 u.2.2.2.2.2.2.2.1 u.2.2.2.2.2.2.2.2) (fun u H => mW E q u.1 a_tape a_size a_fault a_faultPlace a_many a_lands a_evenings a_sights a_choirs f_reached f_length f_begins f_sort f_value f_word f_wrongAt f_laterFault f_laterPlace a_told a_read f_farHut f_farSinger f_good u.2.1 u.2.2.1 u.2.2.2.1 f_evening a_at a_knows a_climbed a_snow a_level f_begun f_minute f_avalanches u.2.2.2.2.1 a_covers u.2.2.2.2.2.1 u.2.2.2.2.2.2.1 u.2.2.2.2.2.2.2.1 u.2.2.2.2.2.2.2.2 a_far f_sight a_runs f_choir f_voices a_rest a_wins f_seed a_other a_kept H) (mA q)) args s 0 0 (mA q)) (F0 m 98 ls [.int y0]) := by
  have hx := zc.1
  have hb := zc.2.1
  refine lv_iconst (v := (0 : Int32)) hx hb dX11_slopes_98 (by decide) ?_
  exact t_m_slopes_99 zc hK hM hS hP38 (lv_sub hl [0, 1, 2, 3, 4, 5, 6] rfl) hw
set_option maxRecDepth 20000 in
theorem t_m_slopes_38 {p : Program} {l : Launch} {e : Env} {s : State} {m : MethodId} {args : Array Value} {below : List Frame} {meth : Method} {c : Code} {E : zE} {q : Nat} {f_code : Int32} {a_tape : Nat → Int32} {a_size : Nat → Int32} {a_fault : Nat → Int32} {a_faultPlace : Nat → Int32} {a_many : Nat → Int32} {a_lands : Nat → Int32} {a_evenings : Nat → Int32} {a_sights : Nat → Int32} {a_choirs : Nat → Int32} {f_reached : Int32} {f_length : Int32} {f_begins : Int32} {f_sort : Int32} {f_value : Int32} {f_word : Int64} {f_wrongAt : Int32} {f_laterFault : Int32} {f_laterPlace : Int32} {a_told : Nat → Int32} {a_read : Nat → Int32} {f_farHut : Int32} {f_farSinger : Int32} {f_good : Int32} {f_land : Int32} {f_huts : Int32} {f_singers : Int32} {f_evening : Int32} {a_at : Nat → Int32} {a_knows : Nat → Int32} {a_climbed : Nat → Int32} {a_snow : Nat → Int32} {a_level : Nat → Int32} {f_begun : Int32} {f_minute : Int32} {f_avalanches : Int32} {a_run : Nat → Int32} {a_covers : Nat → Int32} {a_routes : Nat → Int32} {a_longest : Nat → Int32} {a_steep : Nat → Int32} {a_laid : Nat → Int32} {a_far : Nat → Int32} {f_sight : Int32} {a_runs : Nat → Int32} {f_choir : Int32} {f_voices : Int32} {a_rest : Nat → Int64} {a_wins : Nat → Int32} {f_seed : Int32} {a_other : Nat → Int32} {a_kept : Nat → Int32} {post : Int32 → (Int32) → (Int32) → (Int32) → (Int32) → (Nat → Int32) → (Nat → Int32) → (Nat → Int32) → (Nat → Int32) → (Nat → Int32) → Prop} {x2 : Int32} {x3 : Int32} {x4 : Int32} {x5 : Int32} {x6 : Int32} {x7 : Int32} {ls : Array Slot} {H : Heap} {locs : List Loc}
    (zc : zC p s m args meth c cX11_slopes 10 RX11 (some .int))
    (hK : zK E s)
    (hM : mW E q f_code a_tape a_size a_fault a_faultPlace a_many a_lands a_evenings a_sights a_choirs f_reached f_length f_begins f_sort f_value f_word f_wrongAt f_laterFault f_laterPlace a_told a_read f_farHut f_farSinger f_good f_land f_huts f_singers f_evening a_at a_knows a_climbed a_snow a_level f_begun f_minute f_avalanches a_run a_covers a_routes a_longest a_steep a_laid a_far f_sight a_runs f_choir f_voices a_rest a_wins f_seed a_other a_kept H)
    (hS : va_S (mA q) s.heap H locs)
    (hl : lv_has ls 10 [(0, .ref q), (2, .int x2), (3, .int x3), (4, .int x4), (5, .int x5), (6, .int x6), (7, .int x7)])
    (hw : q_m_slopes_38 f_code a_many a_lands f_land f_huts f_singers a_run a_routes a_longest a_steep a_laid x2 x3 x4 x5 x6 x7 post) :
    W p l e rm_m_slopes s m args below meth c H locs 0 0 (MQ below (zQi (S := (Int32) × (Int32) × (Int32) × (Int32) × (Nat → Int32) × (Nat → Int32) × (Nat → Int32) × (Nat → Int32) × (Nat → Int32)) (fun r u => post r u.1 u.2.1 u.2.2.1 u.2.2.2.1 u.2.2.2.2.1 u.2.2.2.2.2.1 u.2.2.2.2.2.2.1 u.2.2.2.2.2.2.2.1 u.2.2.2.2.2.2.2.2) (fun u H => mW E q u.1 a_tape a_size a_fault a_faultPlace a_many a_lands a_evenings a_sights a_choirs f_reached f_length f_begins f_sort f_value f_word f_wrongAt f_laterFault f_laterPlace a_told a_read f_farHut f_farSinger f_good u.2.1 u.2.2.1 u.2.2.2.1 f_evening a_at a_knows a_climbed a_snow a_level f_begun f_minute f_avalanches u.2.2.2.2.1 a_covers u.2.2.2.2.2.1 u.2.2.2.2.2.2.1 u.2.2.2.2.2.2.2.1 u.2.2.2.2.2.2.2.2 a_far f_sight a_runs f_choir f_voices a_rest a_wins f_seed a_other a_kept H) (mA q)) args s 0 0 (mA q)) (F0 m 38 ls []) := by
  have hx := zc.1
  have hb := zc.2.1
  refine hw (fun x3 x4 x5 x6 x7 a_run a_routes a_longest a_steep a_laid => ∀ (H : Heap) (locs : List Loc) (ls : Array Slot), lv_has ls 10 [(0, .ref q), (2, .int x2), (3, .int x3), (4, .int x4), (5, .int x5), (6, .int x6), (7, .int x7)] → mW E q f_code a_tape a_size a_fault a_faultPlace a_many a_lands a_evenings a_sights a_choirs f_reached f_length f_begins f_sort f_value f_word f_wrongAt f_laterFault f_laterPlace a_told a_read f_farHut f_farSinger f_good f_land f_huts f_singers f_evening a_at a_knows a_climbed a_snow a_level f_begun f_minute f_avalanches a_run a_covers a_routes a_longest a_steep a_laid a_far f_sight a_runs f_choir f_voices a_rest a_wins f_seed a_other a_kept H → va_S (mA q) s.heap H locs → W p l e rm_m_slopes s m args below meth c H locs 0 0 (MQ below (zQi (S := (Int32) × (Int32) × (Int32) × (Int32) × (Nat → Int32) × (Nat → Int32) × (Nat → Int32) × (Nat → Int32) × (Nat → Int32)) (fun r u => post r u.1 u.2.1 u.2.2.1 u.2.2.2.1 u.2.2.2.2.1 u.2.2.2.2.2.1 u.2.2.2.2.2.2.1 u.2.2.2.2.2.2.2.1 u.2.2.2.2.2.2.2.2) (fun u H => mW E q u.1 a_tape a_size a_fault a_faultPlace a_many a_lands a_evenings a_sights a_choirs f_reached f_length f_begins f_sort f_value f_word f_wrongAt f_laterFault f_laterPlace a_told a_read f_farHut f_farSinger f_good u.2.1 u.2.2.1 u.2.2.2.1 f_evening a_at a_knows a_climbed a_snow a_level f_begun f_minute f_avalanches u.2.2.2.2.1 a_covers u.2.2.2.2.2.1 u.2.2.2.2.2.2.1 u.2.2.2.2.2.2.2.1 u.2.2.2.2.2.2.2.2 a_far f_sight a_runs f_choir f_voices a_rest a_wins f_seed a_other a_kept H) (mA q)) args s 0 0 (mA q)) (F0 m 38 ls [])) ?_ _ _ _ hl hM hS
  intro x3 x4 x5 x6 x7 a_run a_routes a_longest a_steep a_laid hw H locs ls hl hM hS
  refine lv_iload hx hb dX11_slopes_38 (lv_at hl 6 rfl) ?_
  refine lv_aload_n hx hb dX11_slopes_40 rfl (lv_at hl 0 rfl) ?_
  refine mg_11_307_0 zc hK hM dX11_slopes_41 ?_
  refine lv_icmp_ge (tgt := 156) hx hb dX11_slopes_44 (by decide) (fun hc => ?_) (fun hc => ?_)
  · have hw := hw.1 hc
    refine lv_iload_n hx hb dX11_slopes_156 rfl (lv_at hl 1 rfl) ?_
    refine lv_if_ne (tgt := 171) hx hb dX11_slopes_157 (by decide) (fun hc => ?_) (fun hc => ?_)
    · have hw := hw.1 hc
      refine lv_iload_n hx hb dX11_slopes_171 rfl (lv_at hl 1 rfl) ?_
      refine lv_iconst (v := (1 : Int32)) hx hb dX11_slopes_172 (by decide) ?_
      refine lv_icmp_ne (tgt := 181) hx hb dX11_slopes_173 (by decide) (fun hc => ?_) (fun hc => ?_)
      · have hw := hw.1 hc
        refine lv_iload_n hx hb dX11_slopes_181 rfl (lv_at hl 1 rfl) ?_
        refine lv_iconst (v := (2 : Int32)) hx hb dX11_slopes_182 (by decide) ?_
        refine lv_icmp_ne (tgt := 191) hx hb dX11_slopes_183 (by decide) (fun hc => ?_) (fun hc => ?_)
        · have hw := hw.1 hc
          refine lv_iload hx hb dX11_slopes_191 (lv_at hl 5 rfl) ?_
          exact zret_iw ⟨f_code, f_land, f_huts, f_singers, a_run, a_routes, a_longest, a_steep, a_laid⟩ zc hS hw hM dX11_slopes_193
        · have hw := hw.2 hc
          refine lv_iload hx hb dX11_slopes_186 (lv_at hl 4 rfl) ?_
          refine lv_goto (tgt := 193) hx hb dX11_slopes_188 (by decide) ?_
          exact zret_iw ⟨f_code, f_land, f_huts, f_singers, a_run, a_routes, a_longest, a_steep, a_laid⟩ zc hS hw hM dX11_slopes_193
      · have hw := hw.2 hc
        refine lv_iload hx hb dX11_slopes_176 (lv_at hl 3 rfl) ?_
        refine lv_goto (tgt := 193) hx hb dX11_slopes_178 (by decide) ?_
        exact zret_iw ⟨f_code, f_land, f_huts, f_singers, a_run, a_routes, a_longest, a_steep, a_laid⟩ zc hS hw hM dX11_slopes_193
    · have hw := hw.2 hc
      refine lv_aload_n hx hb dX11_slopes_160 rfl (lv_at hl 0 rfl) ?_
      refine zV_i [] [] zc ky_X11_noDams kz_X11_noDams km_11_435 (c_m_noDams l hw) (mPreV0 hK hM) rfl rfl hl.1 (Nat.le_of_ble_eq_true rfl) ⟨rfl, rfl⟩ ⟨Nat.le_of_ble_eq_true rfl, Nat.le_of_ble_eq_true rfl⟩ ⟨(Nat.zero_le _), (Nat.zero_le _)⟩ dX11_slopes_161 (fun r_1 hw => ?_)
      refine lv_iload_n hx hb dX11_slopes_164 rfl (lv_at hl 2 rfl) ?_
      refine lv_iconst (v := (-1 : Int32)) hx hb dX11_slopes_165 (by decide) ?_
      refine lv_ixor hx hb dX11_slopes_166 ?_
      refine lv_iand hx hb dX11_slopes_167 ?_
      refine lv_goto (tgt := 193) hx hb dX11_slopes_168 (by decide) ?_
      exact zret_iw ⟨f_code, f_land, f_huts, f_singers, a_run, a_routes, a_longest, a_steep, a_laid⟩ zc hS hw hM dX11_slopes_193
  · have hw := hw.2 hc
    refine lv_aload_n hx hb dX11_slopes_47 rfl (lv_at hl 0 rfl) ?_
    refine lv_iload hx hb dX11_slopes_48 (lv_at hl 6 rfl) ?_
    refine lv_iconst (v := (0 : Int32)) hx hb dX11_slopes_50 (by decide) ?_
    refine zVw_v [.int x7, .int (0 : Int32)] [] zc ky_X11_findRun kz_X11_findRun km_11_414 (c_m_findRun l hw) (mPreV0 hK hM) hS rfl rfl hl.1 (Nat.le_of_ble_eq_true rfl) ⟨rfl, rfl⟩ ⟨Nat.le_of_ble_eq_true rfl, Nat.le_of_ble_eq_true rfl⟩ ⟨(Nat.zero_le _), (Nat.zero_le _)⟩ dX11_slopes_51 (fun a_run_1 H locs hw hM hS => ?_)
    refine lv_aload_n hx hb dX11_slopes_54 rfl (lv_at hl 0 rfl) ?_
    refine lv_ldcw (v := (999999 : Int32)) hx hb zc.2.2.2.1 (zc.2.2.2.2.1 _ kc_11_450) dX11_slopes_55 ?_
    refine zV_i [.int (999999 : Int32)] [] zc ky_X11_comesBy kz_X11_comesBy km_11_423 (c_m_comesBy l hw) (mPreV0 hK hM) rfl rfl hl.1 (Nat.le_of_ble_eq_true rfl) ⟨rfl, rfl⟩ ⟨Nat.le_of_ble_eq_true rfl, Nat.le_of_ble_eq_true rfl⟩ ⟨(Nat.zero_le _), (Nat.zero_le _)⟩ dX11_slopes_58 (fun r_2 hw => ?_)
    refine lv_iconst (v := (1 : Int32)) hx hb dX11_slopes_61 (by decide) ?_
    refine lv_iload hx hb dX11_slopes_62 (lv_at hl 6 rfl) ?_
    refine lv_ishl hx hb dX11_slopes_64 ?_
    refine lv_iconst (v := (-1 : Int32)) hx hb dX11_slopes_65 (by decide) ?_
    refine lv_ixor hx hb dX11_slopes_66 ?_
    refine lv_iand hx hb dX11_slopes_67 ?_
    refine lv_topi (fun v_1 ev_1 => ?_)
    have hw := hw v_1 ev_1
    refine lv_istore (lv' := [(8, .int v_1), (0, .ref q), (2, .int x2), (3, .int x3), (4, .int x4), (5, .int x5), (6, .int x6), (7, .int x7)]) hx hb dX11_slopes_68 hl (by decide) rfl (fun ls hl => ?_)
    refine lv_iload_n hx hb dX11_slopes_70 rfl (lv_at hl 3 rfl) ?_
    refine lv_iload hx hb dX11_slopes_71 (lv_at hl 0 rfl) ?_
    refine lv_ior hx hb dX11_slopes_73 ?_
    refine lv_topi (fun v_2 ev_2 => ?_)
    have hw := hw v_2 ev_2
    refine lv_istore_n (lv' := [(3, .int v_2), (8, .int v_1), (0, .ref q), (2, .int x2), (4, .int x4), (5, .int x5), (6, .int x6), (7, .int x7)]) hx hb dX11_slopes_74 rfl hl (by decide) rfl (fun ls hl => ?_)
    refine lv_iload hx hb dX11_slopes_75 (lv_at hl 4 rfl) ?_
    refine lv_iload hx hb dX11_slopes_77 (lv_at hl 1 rfl) ?_
    refine lv_if_ne (tgt := 98) hx hb dX11_slopes_79 (by decide) (fun hc => ?_) (fun hc => ?_)
    · have hw := hw.1 hc
      exact t_m_slopes_98 zc hK hM hS (fun _ _ _ _ _ _ _ _ _ _ H locs ls h hl hM hS => h H locs ls hl hM hS) (lv_sub hl [2, 3, 0, 5, 6, 7, 1] rfl) hw
    · have hw := hw.2 hc
      refine lv_aload_n hx hb dX11_slopes_82 rfl (lv_at hl 2 rfl) ?_
      refine lv_iload hx hb dX11_slopes_83 (lv_at hl 7 rfl) ?_
      refine zV_i [.int x7] [.int x4] zc ky_X11_isDam kz_X11_isDam km_11_355 (c_m_isDam l hw) (mPreV0 hK hM) rfl rfl hl.1 (Nat.le_of_ble_eq_true rfl) ⟨rfl, rfl⟩ ⟨Nat.le_of_ble_eq_true rfl, Nat.le_of_ble_eq_true rfl⟩ ⟨(Nat.zero_le _), (Nat.zero_le _)⟩ dX11_slopes_85 (fun r_3 hw => ?_)
      refine lv_if_ne (tgt := 98) hx hb dX11_slopes_88 (by decide) (fun hc => ?_) (fun hc => ?_)
      · have hw := hw.1 hc
        exact t_m_slopes_98 zc hK hM hS (fun _ _ _ _ _ _ _ _ _ _ H locs ls h hl hM hS => h H locs ls hl hM hS) (lv_sub hl [2, 3, 0, 5, 6, 7, 1] rfl) hw
      · have hw := hw.2 hc
        refine lv_iconst (v := (1 : Int32)) hx hb dX11_slopes_91 (by decide) ?_
        refine lv_iload hx hb dX11_slopes_92 (lv_at hl 7 rfl) ?_
        refine lv_ishl hx hb dX11_slopes_94 ?_
        refine lv_goto (tgt := 99) hx hb dX11_slopes_95 (by decide) ?_
        exact t_m_slopes_99 zc hK hM hS (fun _ _ _ _ _ _ _ _ _ _ H locs ls h hl hM hS => h H locs ls hl hM hS) (lv_sub hl [2, 3, 0, 5, 6, 7, 1] rfl) hw
set_option maxRecDepth 20000 in
theorem t_m_slopes_0 {p : Program} {l : Launch} {e : Env} {s : State} {m : MethodId} {args : Array Value} {below : List Frame} {meth : Method} {c : Code} {E : zE} {q : Nat} {f_code : Int32} {a_tape : Nat → Int32} {a_size : Nat → Int32} {a_fault : Nat → Int32} {a_faultPlace : Nat → Int32} {a_many : Nat → Int32} {a_lands : Nat → Int32} {a_evenings : Nat → Int32} {a_sights : Nat → Int32} {a_choirs : Nat → Int32} {f_reached : Int32} {f_length : Int32} {f_begins : Int32} {f_sort : Int32} {f_value : Int32} {f_word : Int64} {f_wrongAt : Int32} {f_laterFault : Int32} {f_laterPlace : Int32} {a_told : Nat → Int32} {a_read : Nat → Int32} {f_farHut : Int32} {f_farSinger : Int32} {f_good : Int32} {f_land : Int32} {f_huts : Int32} {f_singers : Int32} {f_evening : Int32} {a_at : Nat → Int32} {a_knows : Nat → Int32} {a_climbed : Nat → Int32} {a_snow : Nat → Int32} {a_level : Nat → Int32} {f_begun : Int32} {f_minute : Int32} {f_avalanches : Int32} {a_run : Nat → Int32} {a_covers : Nat → Int32} {a_routes : Nat → Int32} {a_longest : Nat → Int32} {a_steep : Nat → Int32} {a_laid : Nat → Int32} {a_far : Nat → Int32} {f_sight : Int32} {a_runs : Nat → Int32} {f_choir : Int32} {f_voices : Int32} {a_rest : Nat → Int64} {a_wins : Nat → Int32} {f_seed : Int32} {a_other : Nat → Int32} {a_kept : Nat → Int32} {post : Int32 → (Int32) → (Int32) → (Int32) → (Int32) → (Nat → Int32) → (Nat → Int32) → (Nat → Int32) → (Nat → Int32) → (Nat → Int32) → Prop} {x1 : Int32} {x2 : Int32} {ls : Array Slot} {H : Heap} {locs : List Loc}
    (zc : zC p s m args meth c cX11_slopes 10 RX11 (some .int))
    (hK : zK E s)
    (hM : mW E q f_code a_tape a_size a_fault a_faultPlace a_many a_lands a_evenings a_sights a_choirs f_reached f_length f_begins f_sort f_value f_word f_wrongAt f_laterFault f_laterPlace a_told a_read f_farHut f_farSinger f_good f_land f_huts f_singers f_evening a_at a_knows a_climbed a_snow a_level f_begun f_minute f_avalanches a_run a_covers a_routes a_longest a_steep a_laid a_far f_sight a_runs f_choir f_voices a_rest a_wins f_seed a_other a_kept H)
    (hS : va_S (mA q) s.heap H locs)
    (hl : lv_has ls 10 [(0, .ref q), (1, .int x1), (2, .int x2)])
    (hw : q_m_slopes_0 f_code a_many a_lands f_land f_huts f_singers a_run a_routes a_longest a_steep a_laid x1 x2 post) :
    W p l e rm_m_slopes s m args below meth c H locs 0 0 (MQ below (zQi (S := (Int32) × (Int32) × (Int32) × (Int32) × (Nat → Int32) × (Nat → Int32) × (Nat → Int32) × (Nat → Int32) × (Nat → Int32)) (fun r u => post r u.1 u.2.1 u.2.2.1 u.2.2.2.1 u.2.2.2.2.1 u.2.2.2.2.2.1 u.2.2.2.2.2.2.1 u.2.2.2.2.2.2.2.1 u.2.2.2.2.2.2.2.2) (fun u H => mW E q u.1 a_tape a_size a_fault a_faultPlace a_many a_lands a_evenings a_sights a_choirs f_reached f_length f_begins f_sort f_value f_word f_wrongAt f_laterFault f_laterPlace a_told a_read f_farHut f_farSinger f_good u.2.1 u.2.2.1 u.2.2.2.1 f_evening a_at a_knows a_climbed a_snow a_level f_begun f_minute f_avalanches u.2.2.2.2.1 a_covers u.2.2.2.2.2.1 u.2.2.2.2.2.2.1 u.2.2.2.2.2.2.2.1 u.2.2.2.2.2.2.2.2 a_far f_sight a_runs f_choir f_voices a_rest a_wins f_seed a_other a_kept H) (mA q)) args s 0 0 (mA q)) (F0 m 0 ls []) := by
  have hx := zc.1
  have hb := zc.2.1
  refine lv_aload_n hx hb dX11_slopes_0 rfl (lv_at hl 0 rfl) ?_
  refine lv_iconst (v := (0 : Int32)) hx hb dX11_slopes_1 (by decide) ?_
  refine mp_11_97_0 zc hK hM hS dX11_slopes_2 (fun H locs hM hS => ?_)
  refine lv_aload_n hx hb dX11_slopes_5 rfl (lv_at hl 0 rfl) ?_
  refine lv_iload_n hx hb dX11_slopes_6 rfl (lv_at hl 1 rfl) ?_
  refine zVw_i [.int x1] [] zc ky_X11_hand kz_X11_hand km_11_313 (c_m_hand l hw) (mPreV0 hK hM) hS rfl rfl hl.1 (Nat.le_of_ble_eq_true rfl) ⟨rfl, rfl⟩ ⟨Nat.le_of_ble_eq_true rfl, Nat.le_of_ble_eq_true rfl⟩ ⟨(Nat.zero_le _), (Nat.zero_le _)⟩ dX11_slopes_7 (fun r_1 u H locs hw hM hS => ?_)
  obtain ⟨f_land_1, f_huts_1, f_singers_1⟩ := u
  refine lv_if_eq (tgt := 22) hx hb dX11_slopes_10 (by decide) (fun hc => ?_) (fun hc => ?_)
  · have hw := hw.1 hc
    refine lv_iconst (v := (-1 : Int32)) hx hb dX11_slopes_22 (by decide) ?_
    exact zret_iw ⟨(0 : Int32), f_land_1, f_huts_1, f_singers_1, a_run, a_routes, a_longest, a_steep, a_laid⟩ zc hS hw hM dX11_slopes_23
  · have hw := hw.2 hc
    refine lv_iload_n hx hb dX11_slopes_13 rfl (lv_at hl 2 rfl) ?_
    refine lv_iconst (v := (0 : Int32)) hx hb dX11_slopes_14 (by decide) ?_
    refine lv_iconst (v := (3 : Int32)) hx hb dX11_slopes_15 (by decide) ?_
    refine zS_i [.int x2, .int (0 : Int32), .int (3 : Int32)] [] zc ky_X11_in kz_X11_in km_11_109 (c_m_in l hw) (zPre0 _) rfl rfl hl.1 (Nat.le_of_ble_eq_true rfl) ⟨rfl, rfl⟩ ⟨Nat.le_of_ble_eq_true rfl, Nat.le_of_ble_eq_true rfl⟩ ⟨(Nat.zero_le _), (Nat.zero_le _)⟩ dX11_slopes_16 (fun r_2 hw => ?_)
    refine lv_if_ne (tgt := 24) hx hb dX11_slopes_19 (by decide) (fun hc => ?_) (fun hc => ?_)
    · have hw := hw.1 hc
      refine lv_iconst (v := (0 : Int32)) hx hb dX11_slopes_24 (by decide) ?_
      refine lv_istore_n (lv' := [(3, .int (0 : Int32)), (0, .ref q), (1, .int x1), (2, .int x2)]) hx hb dX11_slopes_25 rfl hl (by decide) rfl (fun ls hl => ?_)
      refine lv_iconst (v := (0 : Int32)) hx hb dX11_slopes_26 (by decide) ?_
      refine lv_istore (lv' := [(4, .int (0 : Int32)), (3, .int (0 : Int32)), (0, .ref q), (1, .int x1), (2, .int x2)]) hx hb dX11_slopes_27 hl (by decide) rfl (fun ls hl => ?_)
      refine lv_iconst (v := (0 : Int32)) hx hb dX11_slopes_29 (by decide) ?_
      refine lv_istore (lv' := [(5, .int (0 : Int32)), (4, .int (0 : Int32)), (3, .int (0 : Int32)), (0, .ref q), (1, .int x1), (2, .int x2)]) hx hb dX11_slopes_30 hl (by decide) rfl (fun ls hl => ?_)
      refine lv_iconst (v := (0 : Int32)) hx hb dX11_slopes_32 (by decide) ?_
      refine lv_istore (lv' := [(6, .int (0 : Int32)), (5, .int (0 : Int32)), (4, .int (0 : Int32)), (3, .int (0 : Int32)), (0, .ref q), (1, .int x1), (2, .int x2)]) hx hb dX11_slopes_33 hl (by decide) rfl (fun ls hl => ?_)
      refine lv_iconst (v := (0 : Int32)) hx hb dX11_slopes_35 (by decide) ?_
      refine lv_istore (lv' := [(7, .int (0 : Int32)), (6, .int (0 : Int32)), (5, .int (0 : Int32)), (4, .int (0 : Int32)), (3, .int (0 : Int32)), (0, .ref q), (1, .int x1), (2, .int x2)]) hx hb dX11_slopes_36 hl (by decide) rfl (fun ls hl => ?_)
      exact t_m_slopes_38 zc hK hM hS  (lv_sub hl [5, 7, 4, 3, 2, 1, 0] rfl) hw
    · have hw := hw.2 hc
      refine lv_iconst (v := (-1 : Int32)) hx hb dX11_slopes_22 (by decide) ?_
      exact zret_iw ⟨(0 : Int32), f_land_1, f_huts_1, f_singers_1, a_run, a_routes, a_longest, a_steep, a_laid⟩ zc hS hw hM dX11_slopes_23
set_option maxRecDepth 20000 in
theorem c_m_slopes (l : Launch) {E : zE} {q : Nat} {f_code : Int32} {a_tape : Nat → Int32} {a_size : Nat → Int32} {a_fault : Nat → Int32} {a_faultPlace : Nat → Int32} {a_many : Nat → Int32} {a_lands : Nat → Int32} {a_evenings : Nat → Int32} {a_sights : Nat → Int32} {a_choirs : Nat → Int32} {f_reached : Int32} {f_length : Int32} {f_begins : Int32} {f_sort : Int32} {f_value : Int32} {f_word : Int64} {f_wrongAt : Int32} {f_laterFault : Int32} {f_laterPlace : Int32} {a_told : Nat → Int32} {a_read : Nat → Int32} {f_farHut : Int32} {f_farSinger : Int32} {f_good : Int32} {f_land : Int32} {f_huts : Int32} {f_singers : Int32} {f_evening : Int32} {a_at : Nat → Int32} {a_knows : Nat → Int32} {a_climbed : Nat → Int32} {a_snow : Nat → Int32} {a_level : Nat → Int32} {f_begun : Int32} {f_minute : Int32} {f_avalanches : Int32} {a_run : Nat → Int32} {a_covers : Nat → Int32} {a_routes : Nat → Int32} {a_longest : Nat → Int32} {a_steep : Nat → Int32} {a_laid : Nat → Int32} {a_far : Nat → Int32} {f_sight : Int32} {a_runs : Nat → Int32} {f_choir : Int32} {f_voices : Int32} {a_rest : Nat → Int64} {a_wins : Nat → Int32} {f_seed : Int32} {a_other : Nat → Int32} {a_kept : Nat → Int32} {x1 : Int32} {x2 : Int32} {post : Int32 → (Int32) → (Int32) → (Int32) → (Int32) → (Nat → Int32) → (Nat → Int32) → (Nat → Int32) → (Nat → Int32) → (Nat → Int32) → Prop} (hw : q_m_slopes_0 f_code a_many a_lands f_land f_huts f_singers a_run a_routes a_longest a_steep a_laid x1 x2 post) : Met l yX11_slopes (Cond.code yX11_slopes cX11_slopes 10 (some .int) :: zb) rm_m_slopes (va_Pc [.ref q, .int x1, .int x2] (fun U => mW E q f_code a_tape a_size a_fault a_faultPlace a_many a_lands a_evenings a_sights a_choirs f_reached f_length f_begins f_sort f_value f_word f_wrongAt f_laterFault f_laterPlace a_told a_read f_farHut f_farSinger f_good f_land f_huts f_singers f_evening a_at a_knows a_climbed a_snow a_level f_begun f_minute f_avalanches a_run a_covers a_routes a_longest a_steep a_laid a_far f_sight a_runs f_choir f_voices a_rest a_wins f_seed a_other a_kept U.heap ∧ zK E U)) (zQi (S := (Int32) × (Int32) × (Int32) × (Int32) × (Nat → Int32) × (Nat → Int32) × (Nat → Int32) × (Nat → Int32) × (Nat → Int32)) (fun r u => post r u.1 u.2.1 u.2.2.1 u.2.2.2.1 u.2.2.2.2.1 u.2.2.2.2.2.1 u.2.2.2.2.2.2.1 u.2.2.2.2.2.2.2.1 u.2.2.2.2.2.2.2.2) (fun u H => mW E q u.1 a_tape a_size a_fault a_faultPlace a_many a_lands a_evenings a_sights a_choirs f_reached f_length f_begins f_sort f_value f_word f_wrongAt f_laterFault f_laterPlace a_told a_read f_farHut f_farSinger f_good u.2.1 u.2.2.1 u.2.2.2.1 f_evening a_at a_knows a_climbed a_snow a_level f_begun f_minute f_avalanches u.2.2.2.2.1 a_covers u.2.2.2.2.2.1 u.2.2.2.2.2.2.1 u.2.2.2.2.2.2.2.1 u.2.2.2.2.2.2.2.2 a_far f_sight a_runs f_choir f_voices a_rest a_wins f_seed a_other a_kept H) (mA q)) 0 0 (mA q) := by
  refine Met.ofW (cc := cX11_slopes) (maxL := 10) (ret := (some .int)) (by decide) rfl ?_
  intro p e s m args below meth c s₁ B hml hv
  obtain ⟨rfl, hM, hK⟩ := hv
  have zc := zc_of B hml
  have hl := lv_entry ([.ref q, .int x1, .int x2]) (n := 10) (Nat.le_of_ble_eq_true rfl)
  rw [lg_entry_eq]
  generalize (lg_sl ([.ref q, .int x1, .int x2]) ++ List.replicate (10 - (lg_sl ([.ref q, .int x1, .int x2])).length) Slot.unset).toArray = ls at hl ⊢
  have hl : lv_has ls 10 [(0, .ref q), (1, .int x1), (2, .int x2)] := hl
  exact t_m_slopes_0 zc hK hM va_S.rf (lv_sub hl [0, 1, 2] rfl) hw
-- m_flood
abbrev rm_m_flood : Room := { frames := 3, cells := 0, slots := 0, locals := 70 }
def q_m_flood_144 (P58 : Int32 → Int32 → (Nat → Int32) → Prop) (f_code : Int32) (a_many : Nat → Int32) (a_lands : Nat → Int32) (f_land : Int32) (f_huts : Int32) (f_singers : Int32) (a_run : Nat → Int32) (x2 : Int32) (x3 : Int32) (x4 : Int32) (x6 : Int32) (y0 : Int32) (post : Int32 → (Int32) → (Int32) → (Int32) → (Int32) → (Nat → Int32) → Prop) : Prop :=
  ∀ v_1 : Int32, v_1 = x6 + (1 : Int32) → (P58 y0 v_1 a_run)
def q_m_flood_137 (P58 : Int32 → Int32 → (Nat → Int32) → Prop) (f_code : Int32) (a_many : Nat → Int32) (a_lands : Nat → Int32) (f_land : Int32) (f_huts : Int32) (f_singers : Int32) (a_run : Nat → Int32) (x2 : Int32) (x3 : Int32) (x4 : Int32) (x6 : Int32) (post : Int32 → (Int32) → (Int32) → (Int32) → (Int32) → (Nat → Int32) → Prop) : Prop :=
  q_m_flood_144 P58 f_code a_many a_lands f_land f_huts f_singers a_run x2 x3 x4 x6 x6 post
def q_m_flood_142 (P58 : Int32 → Int32 → (Nat → Int32) → Prop) (f_code : Int32) (a_many : Nat → Int32) (a_lands : Nat → Int32) (f_land : Int32) (f_huts : Int32) (f_singers : Int32) (a_run : Nat → Int32) (x2 : Int32) (x3 : Int32) (x4 : Int32) (x5 : Int32) (x6 : Int32) (post : Int32 → (Int32) → (Int32) → (Int32) → (Int32) → (Nat → Int32) → Prop) : Prop :=
  q_m_flood_144 P58 f_code a_many a_lands f_land f_huts f_singers a_run x2 x3 x4 x6 x5 post
def q_m_flood_111 (P58 : Int32 → Int32 → (Nat → Int32) → Prop) (f_code : Int32) (a_many : Nat → Int32) (a_lands : Nat → Int32) (f_land : Int32) (f_huts : Int32) (f_singers : Int32) (a_run : Nat → Int32) (x2 : Int32) (x3 : Int32) (x4 : Int32) (x5 : Int32) (x6 : Int32) (y0 : Int32) (post : Int32 → (Int32) → (Int32) → (Int32) → (Int32) → (Nat → Int32) → Prop) : Prop :=
  (y0 = 0 → (q_m_flood_142 P58 f_code a_many a_lands f_land f_huts f_singers a_run x2 x3 x4 x5 x6 post)) ∧ (¬ y0 = 0 → ((x5 = (-1 : Int32) → (q_m_flood_137 P58 f_code a_many a_lands f_land f_huts f_singers a_run x2 x3 x4 x6 post)) ∧ (¬ x5 = (-1 : Int32) → (q_m_ones_0 x6 (fun r_1 => q_m_ones_0 x5 (fun r_2 => (r_2 ≤ r_1 → (q_m_flood_142 P58 f_code a_many a_lands f_land f_huts f_singers a_run x2 x3 x4 x5 x6 post)) ∧ (¬ r_2 ≤ r_1 → (q_m_flood_137 P58 f_code a_many a_lands f_land f_huts f_singers a_run x2 x3 x4 x6 post))))))))
def q_m_flood_110 (P58 : Int32 → Int32 → (Nat → Int32) → Prop) (f_code : Int32) (a_many : Nat → Int32) (a_lands : Nat → Int32) (f_land : Int32) (f_huts : Int32) (f_singers : Int32) (a_run : Nat → Int32) (x2 : Int32) (x3 : Int32) (x4 : Int32) (x5 : Int32) (x6 : Int32) (post : Int32 → (Int32) → (Int32) → (Int32) → (Int32) → (Nat → Int32) → Prop) : Prop :=
  q_m_flood_111 P58 f_code a_many a_lands f_land f_huts f_singers a_run x2 x3 x4 x5 x6 (0 : Int32) post
def q_m_flood_163 (f_code : Int32) (a_many : Nat → Int32) (a_lands : Nat → Int32) (f_land : Int32) (f_huts : Int32) (f_singers : Int32) (a_run : Nat → Int32) (x5 : Int32) (post : Int32 → (Int32) → (Int32) → (Int32) → (Int32) → (Nat → Int32) → Prop) : Prop :=
  post x5 f_code f_land f_huts f_singers a_run
def q_m_flood_58 (f_code : Int32) (a_many : Nat → Int32) (a_lands : Nat → Int32) (f_land : Int32) (f_huts : Int32) (f_singers : Int32) (a_run : Nat → Int32) (x2 : Int32) (x3 : Int32) (x4 : Int32) (x5 : Int32) (x6 : Int32) (post : Int32 → (Int32) → (Int32) → (Int32) → (Int32) → (Nat → Int32) → Prop) : Prop :=
  ∀ P58 : Int32 → Int32 → (Nat → Int32) → Prop, (∀ (x5 : Int32) (x6 : Int32) (a_run : Nat → Int32), ((((1 : Int32) <<< (f_huts &&& 31)) ≤ x6 → ((x5 = (-1 : Int32) → (q_m_flood_163 f_code a_many a_lands f_land f_huts f_singers a_run x5 post)) ∧ (¬ x5 = (-1 : Int32) → ((x4 = 0 → (q_m_ones_0 x5 (fun r_1 => post r_1 f_code f_land f_huts f_singers a_run))) ∧ (¬ x4 = 0 → (q_m_flood_163 f_code a_many a_lands f_land f_huts f_singers a_run x5 post)))))) ∧ (¬ ((1 : Int32) <<< (f_huts &&& 31)) ≤ x6 → (q_m_findRun_0 a_lands f_land f_huts a_run x2 x6 (fun a_run_1 => q_m_has_0 x6 x2 (fun r_2 => (¬ r_2 = 0 → (q_m_flood_110 P58 f_code a_many a_lands f_land f_huts f_singers a_run_1 x2 x3 x4 x5 x6 post)) ∧ (r_2 = 0 → (q_m_has_0 x6 x3 (fun r_3 => (¬ r_3 = 0 → (q_m_flood_110 P58 f_code a_many a_lands f_land f_huts f_singers a_run_1 x2 x3 x4 x5 x6 post)) ∧ (r_3 = 0 → (vp_in x3 9 ∧ (((a_run_1 (Int32.toNatClampNeg x3)) < (1000000 : Int32) → (q_m_flood_110 P58 f_code a_many a_lands f_land f_huts f_singers a_run_1 x2 x3 x4 x5 x6 post)) ∧ (¬ (a_run_1 (Int32.toNatClampNeg x3)) < (1000000 : Int32) → (q_m_flood_111 P58 f_code a_many a_lands f_land f_huts f_singers a_run_1 x2 x3 x4 x5 x6 (1 : Int32) post))))))))))))) → P58 x5 x6 a_run) → P58 x5 x6 a_run
def q_m_flood_0 (f_code : Int32) (a_many : Nat → Int32) (a_lands : Nat → Int32) (f_land : Int32) (f_huts : Int32) (f_singers : Int32) (a_run : Nat → Int32) (x1 : Int32) (x2 : Int32) (x3 : Int32) (x4 : Int32) (post : Int32 → (Int32) → (Int32) → (Int32) → (Int32) → (Nat → Int32) → Prop) : Prop :=
  q_m_hand_0 a_many a_lands f_land f_huts f_singers x1 (fun r_1 f_land_1 f_huts_1 f_singers_1 => (r_1 = 0 → (post (-1 : Int32) (0 : Int32) f_land_1 f_huts_1 f_singers_1 a_run)) ∧ (¬ r_1 = 0 → (q_m_isHut_0 f_huts_1 x2 (fun r_2 => (r_2 = 0 → (post (-1 : Int32) (0 : Int32) f_land_1 f_huts_1 f_singers_1 a_run)) ∧ (¬ r_2 = 0 → (q_m_isHut_0 f_huts_1 x3 (fun r_3 => (r_3 = 0 → (post (-1 : Int32) (0 : Int32) f_land_1 f_huts_1 f_singers_1 a_run)) ∧ (¬ r_3 = 0 → ((x2 = x3 → (post (-1 : Int32) (0 : Int32) f_land_1 f_huts_1 f_singers_1 a_run)) ∧ (¬ x2 = x3 → (q_m_isDam_0 a_lands f_land_1 x2 (fun r_4 => (¬ r_4 = 0 → (post (-1 : Int32) (0 : Int32) f_land_1 f_huts_1 f_singers_1 a_run)) ∧ (r_4 = 0 → (q_m_isDam_0 a_lands f_land_1 x3 (fun r_5 => (r_5 = 0 → (q_m_flood_58 (0 : Int32) a_many a_lands f_land_1 f_huts_1 f_singers_1 a_run x2 x3 x4 (-1 : Int32) (0 : Int32) post)) ∧ (¬ r_5 = 0 → (post (-1 : Int32) (0 : Int32) f_land_1 f_huts_1 f_singers_1 a_run)))))))))))))))))
set_option maxRecDepth 20000 in
theorem t_m_flood_144 {p : Program} {l : Launch} {e : Env} {s : State} {m : MethodId} {args : Array Value} {below : List Frame} {meth : Method} {c : Code} {E : zE} {q : Nat} {f_code : Int32} {a_tape : Nat → Int32} {a_size : Nat → Int32} {a_fault : Nat → Int32} {a_faultPlace : Nat → Int32} {a_many : Nat → Int32} {a_lands : Nat → Int32} {a_evenings : Nat → Int32} {a_sights : Nat → Int32} {a_choirs : Nat → Int32} {f_reached : Int32} {f_length : Int32} {f_begins : Int32} {f_sort : Int32} {f_value : Int32} {f_word : Int64} {f_wrongAt : Int32} {f_laterFault : Int32} {f_laterPlace : Int32} {a_told : Nat → Int32} {a_read : Nat → Int32} {f_farHut : Int32} {f_farSinger : Int32} {f_good : Int32} {f_land : Int32} {f_huts : Int32} {f_singers : Int32} {f_evening : Int32} {a_at : Nat → Int32} {a_knows : Nat → Int32} {a_climbed : Nat → Int32} {a_snow : Nat → Int32} {a_level : Nat → Int32} {f_begun : Int32} {f_minute : Int32} {f_avalanches : Int32} {a_run : Nat → Int32} {a_covers : Nat → Int32} {a_routes : Nat → Int32} {a_longest : Nat → Int32} {a_steep : Nat → Int32} {a_laid : Nat → Int32} {a_far : Nat → Int32} {f_sight : Int32} {a_runs : Nat → Int32} {f_choir : Int32} {f_voices : Int32} {a_rest : Nat → Int64} {a_wins : Nat → Int32} {f_seed : Int32} {a_other : Nat → Int32} {a_kept : Nat → Int32} {P58 : Int32 → Int32 → (Nat → Int32) → Prop} {post : Int32 → (Int32) → (Int32) → (Int32) → (Int32) → (Nat → Int32) → Prop} {x2 : Int32} {x3 : Int32} {x4 : Int32} {x6 : Int32} {y0 : Int32} {ls : Array Slot} {H : Heap} {locs : List Loc}
    (zc : zC p s m args meth c cX11_flood 8 RX11 (some .int))
    (hK : zK E s)
    (hM : mW E q f_code a_tape a_size a_fault a_faultPlace a_many a_lands a_evenings a_sights a_choirs f_reached f_length f_begins f_sort f_value f_word f_wrongAt f_laterFault f_laterPlace a_told a_read f_farHut f_farSinger f_good f_land f_huts f_singers f_evening a_at a_knows a_climbed a_snow a_level f_begun f_minute f_avalanches a_run a_covers a_routes a_longest a_steep a_laid a_far f_sight a_runs f_choir f_voices a_rest a_wins f_seed a_other a_kept H)
    (hS : va_S (mA q) s.heap H locs)
    (hP58 : ∀ (x5 : Int32) (x6 : Int32) (a_run : Nat → Int32) (H : Heap) (locs : List Loc) (ls : Array Slot), P58 x5 x6 a_run → lv_has ls 8 [(0, .ref q), (2, .int x2), (3, .int x3), (4, .int x4), (5, .int x5), (6, .int x6)] → mW E q f_code a_tape a_size a_fault a_faultPlace a_many a_lands a_evenings a_sights a_choirs f_reached f_length f_begins f_sort f_value f_word f_wrongAt f_laterFault f_laterPlace a_told a_read f_farHut f_farSinger f_good f_land f_huts f_singers f_evening a_at a_knows a_climbed a_snow a_level f_begun f_minute f_avalanches a_run a_covers a_routes a_longest a_steep a_laid a_far f_sight a_runs f_choir f_voices a_rest a_wins f_seed a_other a_kept H → va_S (mA q) s.heap H locs → W p l e rm_m_flood s m args below meth c H locs 0 0 (MQ below (zQi (S := (Int32) × (Int32) × (Int32) × (Int32) × (Nat → Int32)) (fun r u => post r u.1 u.2.1 u.2.2.1 u.2.2.2.1 u.2.2.2.2) (fun u H => mW E q u.1 a_tape a_size a_fault a_faultPlace a_many a_lands a_evenings a_sights a_choirs f_reached f_length f_begins f_sort f_value f_word f_wrongAt f_laterFault f_laterPlace a_told a_read f_farHut f_farSinger f_good u.2.1 u.2.2.1 u.2.2.2.1 f_evening a_at a_knows a_climbed a_snow a_level f_begun f_minute f_avalanches u.2.2.2.2 a_covers a_routes a_longest a_steep a_laid a_far f_sight a_runs f_choir f_voices a_rest a_wins f_seed a_other a_kept H) (mA q)) args s 0 0 (mA q)) (F0 m 58 ls []))
    (hl : lv_has ls 8 [(0, .ref q), (2, .int x2), (3, .int x3), (4, .int x4), (6, .int x6)])
    (hw : q_m_flood_144 P58 f_code a_many a_lands f_land f_huts f_singers a_run x2 x3 x4 x6 y0 post) :
    W p l e rm_m_flood s m args below meth c H locs 0 0 (MQ below (zQi (S := (Int32) × (Int32) × (Int32) × (Int32) × (Nat → Int32)) (fun r u => post r u.1 u.2.1 u.2.2.1 u.2.2.2.1 u.2.2.2.2) (fun u H => mW E q u.1 a_tape a_size a_fault a_faultPlace a_many a_lands a_evenings a_sights a_choirs f_reached f_length f_begins f_sort f_value f_word f_wrongAt f_laterFault f_laterPlace a_told a_read f_farHut f_farSinger f_good u.2.1 u.2.2.1 u.2.2.2.1 f_evening a_at a_knows a_climbed a_snow a_level f_begun f_minute f_avalanches u.2.2.2.2 a_covers a_routes a_longest a_steep a_laid a_far f_sight a_runs f_choir f_voices a_rest a_wins f_seed a_other a_kept H) (mA q)) args s 0 0 (mA q)) (F0 m 144 ls [.int y0]) := by
  have hx := zc.1
  have hb := zc.2.1
  refine lv_istore (lv' := [(5, .int y0), (0, .ref q), (2, .int x2), (3, .int x3), (4, .int x4), (6, .int x6)]) hx hb dX11_flood_144 hl (by decide) rfl (fun ls hl => ?_)
  obtain ⟨v_1, ev_1⟩ : ∃ y : Int32, y = x6 + (1 : Int32) := ⟨_, rfl⟩
  have hw := hw v_1 ev_1
  refine lv_iinc (v := v_1) (k := 5) (lv' := [(6, .int v_1), (5, .int y0), (0, .ref q), (2, .int x2), (3, .int x3), (4, .int x4)]) hx hb dX11_flood_146 hl rfl (by rw [ev_1]; rfl) (by decide) rfl (fun ls hl => ?_)
  refine lv_goto (tgt := 58) hx hb dX11_flood_149 (by decide) ?_
  exact hP58 _ _ _ _ _ _ hw (lv_sub hl [2, 3, 4, 5, 1, 0] rfl) hM hS
set_option maxRecDepth 20000 in
theorem t_m_flood_137 {p : Program} {l : Launch} {e : Env} {s : State} {m : MethodId} {args : Array Value} {below : List Frame} {meth : Method} {c : Code} {E : zE} {q : Nat} {f_code : Int32} {a_tape : Nat → Int32} {a_size : Nat → Int32} {a_fault : Nat → Int32} {a_faultPlace : Nat → Int32} {a_many : Nat → Int32} {a_lands : Nat → Int32} {a_evenings : Nat → Int32} {a_sights : Nat → Int32} {a_choirs : Nat → Int32} {f_reached : Int32} {f_length : Int32} {f_begins : Int32} {f_sort : Int32} {f_value : Int32} {f_word : Int64} {f_wrongAt : Int32} {f_laterFault : Int32} {f_laterPlace : Int32} {a_told : Nat → Int32} {a_read : Nat → Int32} {f_farHut : Int32} {f_farSinger : Int32} {f_good : Int32} {f_land : Int32} {f_huts : Int32} {f_singers : Int32} {f_evening : Int32} {a_at : Nat → Int32} {a_knows : Nat → Int32} {a_climbed : Nat → Int32} {a_snow : Nat → Int32} {a_level : Nat → Int32} {f_begun : Int32} {f_minute : Int32} {f_avalanches : Int32} {a_run : Nat → Int32} {a_covers : Nat → Int32} {a_routes : Nat → Int32} {a_longest : Nat → Int32} {a_steep : Nat → Int32} {a_laid : Nat → Int32} {a_far : Nat → Int32} {f_sight : Int32} {a_runs : Nat → Int32} {f_choir : Int32} {f_voices : Int32} {a_rest : Nat → Int64} {a_wins : Nat → Int32} {f_seed : Int32} {a_other : Nat → Int32} {a_kept : Nat → Int32} {P58 : Int32 → Int32 → (Nat → Int32) → Prop} {post : Int32 → (Int32) → (Int32) → (Int32) → (Int32) → (Nat → Int32) → Prop} {x2 : Int32} {x3 : Int32} {x4 : Int32} {x6 : Int32} {ls : Array Slot} {H : Heap} {locs : List Loc}
    (zc : zC p s m args meth c cX11_flood 8 RX11 (some .int))
    (hK : zK E s)
    (hM : mW E q f_code a_tape a_size a_fault a_faultPlace a_many a_lands a_evenings a_sights a_choirs f_reached f_length f_begins f_sort f_value f_word f_wrongAt f_laterFault f_laterPlace a_told a_read f_farHut f_farSinger f_good f_land f_huts f_singers f_evening a_at a_knows a_climbed a_snow a_level f_begun f_minute f_avalanches a_run a_covers a_routes a_longest a_steep a_laid a_far f_sight a_runs f_choir f_voices a_rest a_wins f_seed a_other a_kept H)
    (hS : va_S (mA q) s.heap H locs)
    (hP58 : ∀ (x5 : Int32) (x6 : Int32) (a_run : Nat → Int32) (H : Heap) (locs : List Loc) (ls : Array Slot), P58 x5 x6 a_run → lv_has ls 8 [(0, .ref q), (2, .int x2), (3, .int x3), (4, .int x4), (5, .int x5), (6, .int x6)] → mW E q f_code a_tape a_size a_fault a_faultPlace a_many a_lands a_evenings a_sights a_choirs f_reached f_length f_begins f_sort f_value f_word f_wrongAt f_laterFault f_laterPlace a_told a_read f_farHut f_farSinger f_good f_land f_huts f_singers f_evening a_at a_knows a_climbed a_snow a_level f_begun f_minute f_avalanches a_run a_covers a_routes a_longest a_steep a_laid a_far f_sight a_runs f_choir f_voices a_rest a_wins f_seed a_other a_kept H → va_S (mA q) s.heap H locs → W p l e rm_m_flood s m args below meth c H locs 0 0 (MQ below (zQi (S := (Int32) × (Int32) × (Int32) × (Int32) × (Nat → Int32)) (fun r u => post r u.1 u.2.1 u.2.2.1 u.2.2.2.1 u.2.2.2.2) (fun u H => mW E q u.1 a_tape a_size a_fault a_faultPlace a_many a_lands a_evenings a_sights a_choirs f_reached f_length f_begins f_sort f_value f_word f_wrongAt f_laterFault f_laterPlace a_told a_read f_farHut f_farSinger f_good u.2.1 u.2.2.1 u.2.2.2.1 f_evening a_at a_knows a_climbed a_snow a_level f_begun f_minute f_avalanches u.2.2.2.2 a_covers a_routes a_longest a_steep a_laid a_far f_sight a_runs f_choir f_voices a_rest a_wins f_seed a_other a_kept H) (mA q)) args s 0 0 (mA q)) (F0 m 58 ls []))
    (hl : lv_has ls 8 [(0, .ref q), (2, .int x2), (3, .int x3), (4, .int x4), (6, .int x6)])
    (hw : q_m_flood_137 P58 f_code a_many a_lands f_land f_huts f_singers a_run x2 x3 x4 x6 post) :
    W p l e rm_m_flood s m args below meth c H locs 0 0 (MQ below (zQi (S := (Int32) × (Int32) × (Int32) × (Int32) × (Nat → Int32)) (fun r u => post r u.1 u.2.1 u.2.2.1 u.2.2.2.1 u.2.2.2.2) (fun u H => mW E q u.1 a_tape a_size a_fault a_faultPlace a_many a_lands a_evenings a_sights a_choirs f_reached f_length f_begins f_sort f_value f_word f_wrongAt f_laterFault f_laterPlace a_told a_read f_farHut f_farSinger f_good u.2.1 u.2.2.1 u.2.2.2.1 f_evening a_at a_knows a_climbed a_snow a_level f_begun f_minute f_avalanches u.2.2.2.2 a_covers a_routes a_longest a_steep a_laid a_far f_sight a_runs f_choir f_voices a_rest a_wins f_seed a_other a_kept H) (mA q)) args s 0 0 (mA q)) (F0 m 137 ls []) := by
  have hx := zc.1
  have hb := zc.2.1
  refine lv_iload hx hb dX11_flood_137 (lv_at hl 4 rfl) ?_
  refine lv_goto (tgt := 144) hx hb dX11_flood_139 (by decide) ?_
  exact t_m_flood_144 zc hK hM hS hP58 (lv_sub hl [0, 1, 2, 3, 4] rfl) hw
set_option maxRecDepth 20000 in
theorem t_m_flood_142 {p : Program} {l : Launch} {e : Env} {s : State} {m : MethodId} {args : Array Value} {below : List Frame} {meth : Method} {c : Code} {E : zE} {q : Nat} {f_code : Int32} {a_tape : Nat → Int32} {a_size : Nat → Int32} {a_fault : Nat → Int32} {a_faultPlace : Nat → Int32} {a_many : Nat → Int32} {a_lands : Nat → Int32} {a_evenings : Nat → Int32} {a_sights : Nat → Int32} {a_choirs : Nat → Int32} {f_reached : Int32} {f_length : Int32} {f_begins : Int32} {f_sort : Int32} {f_value : Int32} {f_word : Int64} {f_wrongAt : Int32} {f_laterFault : Int32} {f_laterPlace : Int32} {a_told : Nat → Int32} {a_read : Nat → Int32} {f_farHut : Int32} {f_farSinger : Int32} {f_good : Int32} {f_land : Int32} {f_huts : Int32} {f_singers : Int32} {f_evening : Int32} {a_at : Nat → Int32} {a_knows : Nat → Int32} {a_climbed : Nat → Int32} {a_snow : Nat → Int32} {a_level : Nat → Int32} {f_begun : Int32} {f_minute : Int32} {f_avalanches : Int32} {a_run : Nat → Int32} {a_covers : Nat → Int32} {a_routes : Nat → Int32} {a_longest : Nat → Int32} {a_steep : Nat → Int32} {a_laid : Nat → Int32} {a_far : Nat → Int32} {f_sight : Int32} {a_runs : Nat → Int32} {f_choir : Int32} {f_voices : Int32} {a_rest : Nat → Int64} {a_wins : Nat → Int32} {f_seed : Int32} {a_other : Nat → Int32} {a_kept : Nat → Int32} {P58 : Int32 → Int32 → (Nat → Int32) → Prop} {post : Int32 → (Int32) → (Int32) → (Int32) → (Int32) → (Nat → Int32) → Prop} {x2 : Int32} {x3 : Int32} {x4 : Int32} {x5 : Int32} {x6 : Int32} {ls : Array Slot} {H : Heap} {locs : List Loc}
    (zc : zC p s m args meth c cX11_flood 8 RX11 (some .int))
    (hK : zK E s)
    (hM : mW E q f_code a_tape a_size a_fault a_faultPlace a_many a_lands a_evenings a_sights a_choirs f_reached f_length f_begins f_sort f_value f_word f_wrongAt f_laterFault f_laterPlace a_told a_read f_farHut f_farSinger f_good f_land f_huts f_singers f_evening a_at a_knows a_climbed a_snow a_level f_begun f_minute f_avalanches a_run a_covers a_routes a_longest a_steep a_laid a_far f_sight a_runs f_choir f_voices a_rest a_wins f_seed a_other a_kept H)
    (hS : va_S (mA q) s.heap H locs)
    (hP58 : ∀ (x5 : Int32) (x6 : Int32) (a_run : Nat → Int32) (H : Heap) (locs : List Loc) (ls : Array Slot), P58 x5 x6 a_run → lv_has ls 8 [(0, .ref q), (2, .int x2), (3, .int x3), (4, .int x4), (5, .int x5), (6, .int x6)] → mW E q f_code a_tape a_size a_fault a_faultPlace a_many a_lands a_evenings a_sights a_choirs f_reached f_length f_begins f_sort f_value f_word f_wrongAt f_laterFault f_laterPlace a_told a_read f_farHut f_farSinger f_good f_land f_huts f_singers f_evening a_at a_knows a_climbed a_snow a_level f_begun f_minute f_avalanches a_run a_covers a_routes a_longest a_steep a_laid a_far f_sight a_runs f_choir f_voices a_rest a_wins f_seed a_other a_kept H → va_S (mA q) s.heap H locs → W p l e rm_m_flood s m args below meth c H locs 0 0 (MQ below (zQi (S := (Int32) × (Int32) × (Int32) × (Int32) × (Nat → Int32)) (fun r u => post r u.1 u.2.1 u.2.2.1 u.2.2.2.1 u.2.2.2.2) (fun u H => mW E q u.1 a_tape a_size a_fault a_faultPlace a_many a_lands a_evenings a_sights a_choirs f_reached f_length f_begins f_sort f_value f_word f_wrongAt f_laterFault f_laterPlace a_told a_read f_farHut f_farSinger f_good u.2.1 u.2.2.1 u.2.2.2.1 f_evening a_at a_knows a_climbed a_snow a_level f_begun f_minute f_avalanches u.2.2.2.2 a_covers a_routes a_longest a_steep a_laid a_far f_sight a_runs f_choir f_voices a_rest a_wins f_seed a_other a_kept H) (mA q)) args s 0 0 (mA q)) (F0 m 58 ls []))
    (hl : lv_has ls 8 [(0, .ref q), (2, .int x2), (3, .int x3), (4, .int x4), (5, .int x5), (6, .int x6)])
    (hw : q_m_flood_142 P58 f_code a_many a_lands f_land f_huts f_singers a_run x2 x3 x4 x5 x6 post) :
    W p l e rm_m_flood s m args below meth c H locs 0 0 (MQ below (zQi (S := (Int32) × (Int32) × (Int32) × (Int32) × (Nat → Int32)) (fun r u => post r u.1 u.2.1 u.2.2.1 u.2.2.2.1 u.2.2.2.2) (fun u H => mW E q u.1 a_tape a_size a_fault a_faultPlace a_many a_lands a_evenings a_sights a_choirs f_reached f_length f_begins f_sort f_value f_word f_wrongAt f_laterFault f_laterPlace a_told a_read f_farHut f_farSinger f_good u.2.1 u.2.2.1 u.2.2.2.1 f_evening a_at a_knows a_climbed a_snow a_level f_begun f_minute f_avalanches u.2.2.2.2 a_covers a_routes a_longest a_steep a_laid a_far f_sight a_runs f_choir f_voices a_rest a_wins f_seed a_other a_kept H) (mA q)) args s 0 0 (mA q)) (F0 m 142 ls []) := by
  have hx := zc.1
  have hb := zc.2.1
  refine lv_iload hx hb dX11_flood_142 (lv_at hl 4 rfl) ?_
  exact t_m_flood_144 zc hK hM hS hP58 (lv_sub hl [0, 1, 2, 3, 5] rfl) hw
set_option maxRecDepth 20000 in
theorem t_m_flood_111 {p : Program} {l : Launch} {e : Env} {s : State} {m : MethodId} {args : Array Value} {below : List Frame} {meth : Method} {c : Code} {E : zE} {q : Nat} {f_code : Int32} {a_tape : Nat → Int32} {a_size : Nat → Int32} {a_fault : Nat → Int32} {a_faultPlace : Nat → Int32} {a_many : Nat → Int32} {a_lands : Nat → Int32} {a_evenings : Nat → Int32} {a_sights : Nat → Int32} {a_choirs : Nat → Int32} {f_reached : Int32} {f_length : Int32} {f_begins : Int32} {f_sort : Int32} {f_value : Int32} {f_word : Int64} {f_wrongAt : Int32} {f_laterFault : Int32} {f_laterPlace : Int32} {a_told : Nat → Int32} {a_read : Nat → Int32} {f_farHut : Int32} {f_farSinger : Int32} {f_good : Int32} {f_land : Int32} {f_huts : Int32} {f_singers : Int32} {f_evening : Int32} {a_at : Nat → Int32} {a_knows : Nat → Int32} {a_climbed : Nat → Int32} {a_snow : Nat → Int32} {a_level : Nat → Int32} {f_begun : Int32} {f_minute : Int32} {f_avalanches : Int32} {a_run : Nat → Int32} {a_covers : Nat → Int32} {a_routes : Nat → Int32} {a_longest : Nat → Int32} {a_steep : Nat → Int32} {a_laid : Nat → Int32} {a_far : Nat → Int32} {f_sight : Int32} {a_runs : Nat → Int32} {f_choir : Int32} {f_voices : Int32} {a_rest : Nat → Int64} {a_wins : Nat → Int32} {f_seed : Int32} {a_other : Nat → Int32} {a_kept : Nat → Int32} {P58 : Int32 → Int32 → (Nat → Int32) → Prop} {post : Int32 → (Int32) → (Int32) → (Int32) → (Int32) → (Nat → Int32) → Prop} {x2 : Int32} {x3 : Int32} {x4 : Int32} {x5 : Int32} {x6 : Int32} {y0 : Int32} {ls : Array Slot} {H : Heap} {locs : List Loc}
    (zc : zC p s m args meth c cX11_flood 8 RX11 (some .int))
    (hK : zK E s)
    (hM : mW E q f_code a_tape a_size a_fault a_faultPlace a_many a_lands a_evenings a_sights a_choirs f_reached f_length f_begins f_sort f_value f_word f_wrongAt f_laterFault f_laterPlace a_told a_read f_farHut f_farSinger f_good f_land f_huts f_singers f_evening a_at a_knows a_climbed a_snow a_level f_begun f_minute f_avalanches a_run a_covers a_routes a_longest a_steep a_laid a_far f_sight a_runs f_choir f_voices a_rest a_wins f_seed a_other a_kept H)
    (hS : va_S (mA q) s.heap H locs)
    (hP58 : ∀ (x5 : Int32) (x6 : Int32) (a_run : Nat → Int32) (H : Heap) (locs : List Loc) (ls : Array Slot), P58 x5 x6 a_run → lv_has ls 8 [(0, .ref q), (2, .int x2), (3, .int x3), (4, .int x4), (5, .int x5), (6, .int x6)] → mW E q f_code a_tape a_size a_fault a_faultPlace a_many a_lands a_evenings a_sights a_choirs f_reached f_length f_begins f_sort f_value f_word f_wrongAt f_laterFault f_laterPlace a_told a_read f_farHut f_farSinger f_good f_land f_huts f_singers f_evening a_at a_knows a_climbed a_snow a_level f_begun f_minute f_avalanches a_run a_covers a_routes a_longest a_steep a_laid a_far f_sight a_runs f_choir f_voices a_rest a_wins f_seed a_other a_kept H → va_S (mA q) s.heap H locs → W p l e rm_m_flood s m args below meth c H locs 0 0 (MQ below (zQi (S := (Int32) × (Int32) × (Int32) × (Int32) × (Nat → Int32)) (fun r u => post r u.1 u.2.1 u.2.2.1 u.2.2.2.1 u.2.2.2.2) (fun u H => mW E q u.1 a_tape a_size a_fault a_faultPlace a_many a_lands a_evenings a_sights a_choirs f_reached f_length f_begins f_sort f_value f_word f_wrongAt f_laterFault f_laterPlace a_told a_read f_farHut f_farSinger f_good u.2.1 u.2.2.1 u.2.2.2.1 f_evening a_at a_knows a_climbed a_snow a_level f_begun f_minute f_avalanches u.2.2.2.2 a_covers a_routes a_longest a_steep a_laid a_far f_sight a_runs f_choir f_voices a_rest a_wins f_seed a_other a_kept H) (mA q)) args s 0 0 (mA q)) (F0 m 58 ls []))
    (hl : lv_has ls 8 [(0, .ref q), (2, .int x2), (3, .int x3), (4, .int x4), (5, .int x5), (6, .int x6)])
    (hw : q_m_flood_111 P58 f_code a_many a_lands f_land f_huts f_singers a_run x2 x3 x4 x5 x6 y0 post) :
    W p l e rm_m_flood s m args below meth c H locs 0 0 (MQ below (zQi (S := (Int32) × (Int32) × (Int32) × (Int32) × (Nat → Int32)) (fun r u => post r u.1 u.2.1 u.2.2.1 u.2.2.2.1 u.2.2.2.2) (fun u H => mW E q u.1 a_tape a_size a_fault a_faultPlace a_many a_lands a_evenings a_sights a_choirs f_reached f_length f_begins f_sort f_value f_word f_wrongAt f_laterFault f_laterPlace a_told a_read f_farHut f_farSinger f_good u.2.1 u.2.2.1 u.2.2.2.1 f_evening a_at a_knows a_climbed a_snow a_level f_begun f_minute f_avalanches u.2.2.2.2 a_covers a_routes a_longest a_steep a_laid a_far f_sight a_runs f_choir f_voices a_rest a_wins f_seed a_other a_kept H) (mA q)) args s 0 0 (mA q)) (F0 m 111 ls [.int y0]) := by
  have hx := zc.1
  have hb := zc.2.1
  refine lv_istore (lv' := [(7, .int y0), (0, .ref q), (2, .int x2), (3, .int x3), (4, .int x4), (5, .int x5), (6, .int x6)]) hx hb dX11_flood_111 hl (by decide) rfl (fun ls hl => ?_)
  refine lv_iload hx hb dX11_flood_113 (lv_at hl 0 rfl) ?_
  refine lv_if_eq (tgt := 142) hx hb dX11_flood_115 (by decide) (fun hc => ?_) (fun hc => ?_)
  · have hw := hw.1 hc
    exact t_m_flood_142 zc hK hM hS hP58 (lv_sub hl [1, 2, 3, 4, 5, 6] rfl) hw
  · have hw := hw.2 hc
    refine lv_iload hx hb dX11_flood_118 (lv_at hl 5 rfl) ?_
    refine lv_iconst (v := (-1 : Int32)) hx hb dX11_flood_120 (by decide) ?_
    refine lv_icmp_eq (tgt := 137) hx hb dX11_flood_121 (by decide) (fun hc => ?_) (fun hc => ?_)
    · have hw := hw.1 hc
      exact t_m_flood_137 zc hK hM hS hP58 (lv_sub hl [1, 2, 3, 4, 6] rfl) hw
    · have hw := hw.2 hc
      refine lv_iload hx hb dX11_flood_124 (lv_at hl 6 rfl) ?_
      refine zS_i [.int x6] [] zc ky_X11_ones kz_X11_ones km_11_429 (c_m_ones l hw) (zPre0 _) rfl rfl hl.1 (Nat.le_of_ble_eq_true rfl) ⟨rfl, rfl⟩ ⟨Nat.le_of_ble_eq_true rfl, Nat.le_of_ble_eq_true rfl⟩ ⟨(Nat.zero_le _), (Nat.zero_le _)⟩ dX11_flood_126 (fun r_1 hw => ?_)
      refine lv_iload hx hb dX11_flood_129 (lv_at hl 5 rfl) ?_
      refine zS_i [.int x5] [.int r_1] zc ky_X11_ones kz_X11_ones km_11_429 (c_m_ones l hw) (zPre0 _) rfl rfl hl.1 (Nat.le_of_ble_eq_true rfl) ⟨rfl, rfl⟩ ⟨Nat.le_of_ble_eq_true rfl, Nat.le_of_ble_eq_true rfl⟩ ⟨(Nat.zero_le _), (Nat.zero_le _)⟩ dX11_flood_131 (fun r_2 hw => ?_)
      refine lv_icmp_ge (tgt := 142) hx hb dX11_flood_134 (by decide) (fun hc => ?_) (fun hc => ?_)
      · have hw := hw.1 hc
        exact t_m_flood_142 zc hK hM hS hP58 (lv_sub hl [1, 2, 3, 4, 5, 6] rfl) hw
      · have hw := hw.2 hc
        exact t_m_flood_137 zc hK hM hS hP58 (lv_sub hl [1, 2, 3, 4, 6] rfl) hw
set_option maxRecDepth 20000 in
theorem t_m_flood_110 {p : Program} {l : Launch} {e : Env} {s : State} {m : MethodId} {args : Array Value} {below : List Frame} {meth : Method} {c : Code} {E : zE} {q : Nat} {f_code : Int32} {a_tape : Nat → Int32} {a_size : Nat → Int32} {a_fault : Nat → Int32} {a_faultPlace : Nat → Int32} {a_many : Nat → Int32} {a_lands : Nat → Int32} {a_evenings : Nat → Int32} {a_sights : Nat → Int32} {a_choirs : Nat → Int32} {f_reached : Int32} {f_length : Int32} {f_begins : Int32} {f_sort : Int32} {f_value : Int32} {f_word : Int64} {f_wrongAt : Int32} {f_laterFault : Int32} {f_laterPlace : Int32} {a_told : Nat → Int32} {a_read : Nat → Int32} {f_farHut : Int32} {f_farSinger : Int32} {f_good : Int32} {f_land : Int32} {f_huts : Int32} {f_singers : Int32} {f_evening : Int32} {a_at : Nat → Int32} {a_knows : Nat → Int32} {a_climbed : Nat → Int32} {a_snow : Nat → Int32} {a_level : Nat → Int32} {f_begun : Int32} {f_minute : Int32} {f_avalanches : Int32} {a_run : Nat → Int32} {a_covers : Nat → Int32} {a_routes : Nat → Int32} {a_longest : Nat → Int32} {a_steep : Nat → Int32} {a_laid : Nat → Int32} {a_far : Nat → Int32} {f_sight : Int32} {a_runs : Nat → Int32} {f_choir : Int32} {f_voices : Int32} {a_rest : Nat → Int64} {a_wins : Nat → Int32} {f_seed : Int32} {a_other : Nat → Int32} {a_kept : Nat → Int32} {P58 : Int32 → Int32 → (Nat → Int32) → Prop} {post : Int32 → (Int32) → (Int32) → (Int32) → (Int32) → (Nat → Int32) → Prop} {x2 : Int32} {x3 : Int32} {x4 : Int32} {x5 : Int32} {x6 : Int32} {ls : Array Slot} {H : Heap} {locs : List Loc}
    (zc : zC p s m args meth c cX11_flood 8 RX11 (some .int))
    (hK : zK E s)
    (hM : mW E q f_code a_tape a_size a_fault a_faultPlace a_many a_lands a_evenings a_sights a_choirs f_reached f_length f_begins f_sort f_value f_word f_wrongAt f_laterFault f_laterPlace a_told a_read f_farHut f_farSinger f_good f_land f_huts f_singers f_evening a_at a_knows a_climbed a_snow a_level f_begun f_minute f_avalanches a_run a_covers a_routes a_longest a_steep a_laid a_far f_sight a_runs f_choir f_voices a_rest a_wins f_seed a_other a_kept H)
    (hS : va_S (mA q) s.heap H locs)
    (hP58 : ∀ (x5 : Int32) (x6 : Int32) (a_run : Nat → Int32) (H : Heap) (locs : List Loc) (ls : Array Slot), P58 x5 x6 a_run → lv_has ls 8 [(0, .ref q), (2, .int x2), (3, .int x3), (4, .int x4), (5, .int x5), (6, .int x6)] → mW E q f_code a_tape a_size a_fault a_faultPlace a_many a_lands a_evenings a_sights a_choirs f_reached f_length f_begins f_sort f_value f_word f_wrongAt f_laterFault f_laterPlace a_told a_read f_farHut f_farSinger f_good f_land f_huts f_singers f_evening a_at a_knows a_climbed a_snow a_level f_begun f_minute f_avalanches a_run a_covers a_routes a_longest a_steep a_laid a_far f_sight a_runs f_choir f_voices a_rest a_wins f_seed a_other a_kept H → va_S (mA q) s.heap H locs → W p l e rm_m_flood s m args below meth c H locs 0 0 (MQ below (zQi (S := (Int32) × (Int32) × (Int32) × (Int32) × (Nat → Int32)) (fun r u => post r u.1 u.2.1 u.2.2.1 u.2.2.2.1 u.2.2.2.2) (fun u H => mW E q u.1 a_tape a_size a_fault a_faultPlace a_many a_lands a_evenings a_sights a_choirs f_reached f_length f_begins f_sort f_value f_word f_wrongAt f_laterFault f_laterPlace a_told a_read f_farHut f_farSinger f_good u.2.1 u.2.2.1 u.2.2.2.1 f_evening a_at a_knows a_climbed a_snow a_level f_begun f_minute f_avalanches u.2.2.2.2 a_covers a_routes a_longest a_steep a_laid a_far f_sight a_runs f_choir f_voices a_rest a_wins f_seed a_other a_kept H) (mA q)) args s 0 0 (mA q)) (F0 m 58 ls []))
    (hl : lv_has ls 8 [(0, .ref q), (2, .int x2), (3, .int x3), (4, .int x4), (5, .int x5), (6, .int x6)])
    (hw : q_m_flood_110 P58 f_code a_many a_lands f_land f_huts f_singers a_run x2 x3 x4 x5 x6 post) :
    W p l e rm_m_flood s m args below meth c H locs 0 0 (MQ below (zQi (S := (Int32) × (Int32) × (Int32) × (Int32) × (Nat → Int32)) (fun r u => post r u.1 u.2.1 u.2.2.1 u.2.2.2.1 u.2.2.2.2) (fun u H => mW E q u.1 a_tape a_size a_fault a_faultPlace a_many a_lands a_evenings a_sights a_choirs f_reached f_length f_begins f_sort f_value f_word f_wrongAt f_laterFault f_laterPlace a_told a_read f_farHut f_farSinger f_good u.2.1 u.2.2.1 u.2.2.2.1 f_evening a_at a_knows a_climbed a_snow a_level f_begun f_minute f_avalanches u.2.2.2.2 a_covers a_routes a_longest a_steep a_laid a_far f_sight a_runs f_choir f_voices a_rest a_wins f_seed a_other a_kept H) (mA q)) args s 0 0 (mA q)) (F0 m 110 ls []) := by
  have hx := zc.1
  have hb := zc.2.1
  refine lv_iconst (v := (0 : Int32)) hx hb dX11_flood_110 (by decide) ?_
  exact t_m_flood_111 zc hK hM hS hP58 (lv_sub hl [0, 1, 2, 3, 4, 5] rfl) hw
set_option maxRecDepth 20000 in
theorem t_m_flood_163 {p : Program} {l : Launch} {e : Env} {s : State} {m : MethodId} {args : Array Value} {below : List Frame} {meth : Method} {c : Code} {E : zE} {q : Nat} {f_code : Int32} {a_tape : Nat → Int32} {a_size : Nat → Int32} {a_fault : Nat → Int32} {a_faultPlace : Nat → Int32} {a_many : Nat → Int32} {a_lands : Nat → Int32} {a_evenings : Nat → Int32} {a_sights : Nat → Int32} {a_choirs : Nat → Int32} {f_reached : Int32} {f_length : Int32} {f_begins : Int32} {f_sort : Int32} {f_value : Int32} {f_word : Int64} {f_wrongAt : Int32} {f_laterFault : Int32} {f_laterPlace : Int32} {a_told : Nat → Int32} {a_read : Nat → Int32} {f_farHut : Int32} {f_farSinger : Int32} {f_good : Int32} {f_land : Int32} {f_huts : Int32} {f_singers : Int32} {f_evening : Int32} {a_at : Nat → Int32} {a_knows : Nat → Int32} {a_climbed : Nat → Int32} {a_snow : Nat → Int32} {a_level : Nat → Int32} {f_begun : Int32} {f_minute : Int32} {f_avalanches : Int32} {a_run : Nat → Int32} {a_covers : Nat → Int32} {a_routes : Nat → Int32} {a_longest : Nat → Int32} {a_steep : Nat → Int32} {a_laid : Nat → Int32} {a_far : Nat → Int32} {f_sight : Int32} {a_runs : Nat → Int32} {f_choir : Int32} {f_voices : Int32} {a_rest : Nat → Int64} {a_wins : Nat → Int32} {f_seed : Int32} {a_other : Nat → Int32} {a_kept : Nat → Int32} {post : Int32 → (Int32) → (Int32) → (Int32) → (Int32) → (Nat → Int32) → Prop} {x5 : Int32} {ls : Array Slot} {H : Heap} {locs : List Loc}
    (zc : zC p s m args meth c cX11_flood 8 RX11 (some .int))
    (hK : zK E s)
    (hM : mW E q f_code a_tape a_size a_fault a_faultPlace a_many a_lands a_evenings a_sights a_choirs f_reached f_length f_begins f_sort f_value f_word f_wrongAt f_laterFault f_laterPlace a_told a_read f_farHut f_farSinger f_good f_land f_huts f_singers f_evening a_at a_knows a_climbed a_snow a_level f_begun f_minute f_avalanches a_run a_covers a_routes a_longest a_steep a_laid a_far f_sight a_runs f_choir f_voices a_rest a_wins f_seed a_other a_kept H)
    (hS : va_S (mA q) s.heap H locs)
    (hl : lv_has ls 8 [(5, .int x5)])
    (hw : q_m_flood_163 f_code a_many a_lands f_land f_huts f_singers a_run x5 post) :
    W p l e rm_m_flood s m args below meth c H locs 0 0 (MQ below (zQi (S := (Int32) × (Int32) × (Int32) × (Int32) × (Nat → Int32)) (fun r u => post r u.1 u.2.1 u.2.2.1 u.2.2.2.1 u.2.2.2.2) (fun u H => mW E q u.1 a_tape a_size a_fault a_faultPlace a_many a_lands a_evenings a_sights a_choirs f_reached f_length f_begins f_sort f_value f_word f_wrongAt f_laterFault f_laterPlace a_told a_read f_farHut f_farSinger f_good u.2.1 u.2.2.1 u.2.2.2.1 f_evening a_at a_knows a_climbed a_snow a_level f_begun f_minute f_avalanches u.2.2.2.2 a_covers a_routes a_longest a_steep a_laid a_far f_sight a_runs f_choir f_voices a_rest a_wins f_seed a_other a_kept H) (mA q)) args s 0 0 (mA q)) (F0 m 163 ls []) := by
  have hx := zc.1
  have hb := zc.2.1
  refine lv_iload hx hb dX11_flood_163 (lv_at hl 0 rfl) ?_
  refine lv_goto (tgt := 173) hx hb dX11_flood_165 (by decide) ?_
  exact zret_iw ⟨f_code, f_land, f_huts, f_singers, a_run⟩ zc hS hw hM dX11_flood_173
set_option maxRecDepth 20000 in
theorem t_m_flood_58 {p : Program} {l : Launch} {e : Env} {s : State} {m : MethodId} {args : Array Value} {below : List Frame} {meth : Method} {c : Code} {E : zE} {q : Nat} {f_code : Int32} {a_tape : Nat → Int32} {a_size : Nat → Int32} {a_fault : Nat → Int32} {a_faultPlace : Nat → Int32} {a_many : Nat → Int32} {a_lands : Nat → Int32} {a_evenings : Nat → Int32} {a_sights : Nat → Int32} {a_choirs : Nat → Int32} {f_reached : Int32} {f_length : Int32} {f_begins : Int32} {f_sort : Int32} {f_value : Int32} {f_word : Int64} {f_wrongAt : Int32} {f_laterFault : Int32} {f_laterPlace : Int32} {a_told : Nat → Int32} {a_read : Nat → Int32} {f_farHut : Int32} {f_farSinger : Int32} {f_good : Int32} {f_land : Int32} {f_huts : Int32} {f_singers : Int32} {f_evening : Int32} {a_at : Nat → Int32} {a_knows : Nat → Int32} {a_climbed : Nat → Int32} {a_snow : Nat → Int32} {a_level : Nat → Int32} {f_begun : Int32} {f_minute : Int32} {f_avalanches : Int32} {a_run : Nat → Int32} {a_covers : Nat → Int32} {a_routes : Nat → Int32} {a_longest : Nat → Int32} {a_steep : Nat → Int32} {a_laid : Nat → Int32} {a_far : Nat → Int32} {f_sight : Int32} {a_runs : Nat → Int32} {f_choir : Int32} {f_voices : Int32} {a_rest : Nat → Int64} {a_wins : Nat → Int32} {f_seed : Int32} {a_other : Nat → Int32} {a_kept : Nat → Int32} {post : Int32 → (Int32) → (Int32) → (Int32) → (Int32) → (Nat → Int32) → Prop} {x2 : Int32} {x3 : Int32} {x4 : Int32} {x5 : Int32} {x6 : Int32} {ls : Array Slot} {H : Heap} {locs : List Loc}
    (zc : zC p s m args meth c cX11_flood 8 RX11 (some .int))
    (hK : zK E s)
    (hM : mW E q f_code a_tape a_size a_fault a_faultPlace a_many a_lands a_evenings a_sights a_choirs f_reached f_length f_begins f_sort f_value f_word f_wrongAt f_laterFault f_laterPlace a_told a_read f_farHut f_farSinger f_good f_land f_huts f_singers f_evening a_at a_knows a_climbed a_snow a_level f_begun f_minute f_avalanches a_run a_covers a_routes a_longest a_steep a_laid a_far f_sight a_runs f_choir f_voices a_rest a_wins f_seed a_other a_kept H)
    (hS : va_S (mA q) s.heap H locs)
    (hl : lv_has ls 8 [(0, .ref q), (2, .int x2), (3, .int x3), (4, .int x4), (5, .int x5), (6, .int x6)])
    (hw : q_m_flood_58 f_code a_many a_lands f_land f_huts f_singers a_run x2 x3 x4 x5 x6 post) :
    W p l e rm_m_flood s m args below meth c H locs 0 0 (MQ below (zQi (S := (Int32) × (Int32) × (Int32) × (Int32) × (Nat → Int32)) (fun r u => post r u.1 u.2.1 u.2.2.1 u.2.2.2.1 u.2.2.2.2) (fun u H => mW E q u.1 a_tape a_size a_fault a_faultPlace a_many a_lands a_evenings a_sights a_choirs f_reached f_length f_begins f_sort f_value f_word f_wrongAt f_laterFault f_laterPlace a_told a_read f_farHut f_farSinger f_good u.2.1 u.2.2.1 u.2.2.2.1 f_evening a_at a_knows a_climbed a_snow a_level f_begun f_minute f_avalanches u.2.2.2.2 a_covers a_routes a_longest a_steep a_laid a_far f_sight a_runs f_choir f_voices a_rest a_wins f_seed a_other a_kept H) (mA q)) args s 0 0 (mA q)) (F0 m 58 ls []) := by
  have hx := zc.1
  have hb := zc.2.1
  refine hw (fun x5 x6 a_run => ∀ (H : Heap) (locs : List Loc) (ls : Array Slot), lv_has ls 8 [(0, .ref q), (2, .int x2), (3, .int x3), (4, .int x4), (5, .int x5), (6, .int x6)] → mW E q f_code a_tape a_size a_fault a_faultPlace a_many a_lands a_evenings a_sights a_choirs f_reached f_length f_begins f_sort f_value f_word f_wrongAt f_laterFault f_laterPlace a_told a_read f_farHut f_farSinger f_good f_land f_huts f_singers f_evening a_at a_knows a_climbed a_snow a_level f_begun f_minute f_avalanches a_run a_covers a_routes a_longest a_steep a_laid a_far f_sight a_runs f_choir f_voices a_rest a_wins f_seed a_other a_kept H → va_S (mA q) s.heap H locs → W p l e rm_m_flood s m args below meth c H locs 0 0 (MQ below (zQi (S := (Int32) × (Int32) × (Int32) × (Int32) × (Nat → Int32)) (fun r u => post r u.1 u.2.1 u.2.2.1 u.2.2.2.1 u.2.2.2.2) (fun u H => mW E q u.1 a_tape a_size a_fault a_faultPlace a_many a_lands a_evenings a_sights a_choirs f_reached f_length f_begins f_sort f_value f_word f_wrongAt f_laterFault f_laterPlace a_told a_read f_farHut f_farSinger f_good u.2.1 u.2.2.1 u.2.2.2.1 f_evening a_at a_knows a_climbed a_snow a_level f_begun f_minute f_avalanches u.2.2.2.2 a_covers a_routes a_longest a_steep a_laid a_far f_sight a_runs f_choir f_voices a_rest a_wins f_seed a_other a_kept H) (mA q)) args s 0 0 (mA q)) (F0 m 58 ls [])) ?_ _ _ _ hl hM hS
  intro x5 x6 a_run hw H locs ls hl hM hS
  refine lv_iload hx hb dX11_flood_58 (lv_at hl 5 rfl) ?_
  refine lv_iconst (v := (1 : Int32)) hx hb dX11_flood_60 (by decide) ?_
  refine lv_aload_n hx hb dX11_flood_61 rfl (lv_at hl 0 rfl) ?_
  refine mg_11_307_0 zc hK hM dX11_flood_62 ?_
  refine lv_ishl hx hb dX11_flood_65 ?_
  refine lv_icmp_ge (tgt := 152) hx hb dX11_flood_66 (by decide) (fun hc => ?_) (fun hc => ?_)
  · have hw := hw.1 hc
    refine lv_iload hx hb dX11_flood_152 (lv_at hl 4 rfl) ?_
    refine lv_iconst (v := (-1 : Int32)) hx hb dX11_flood_154 (by decide) ?_
    refine lv_icmp_eq (tgt := 163) hx hb dX11_flood_155 (by decide) (fun hc => ?_) (fun hc => ?_)
    · have hw := hw.1 hc
      exact t_m_flood_163 zc hK hM hS  (lv_sub hl [4] rfl) hw
    · have hw := hw.2 hc
      refine lv_iload hx hb dX11_flood_158 (lv_at hl 3 rfl) ?_
      refine lv_if_eq (tgt := 168) hx hb dX11_flood_160 (by decide) (fun hc => ?_) (fun hc => ?_)
      · have hw := hw.1 hc
        refine lv_iload hx hb dX11_flood_168 (lv_at hl 4 rfl) ?_
        refine zS_i [.int x5] [] zc ky_X11_ones kz_X11_ones km_11_429 (c_m_ones l hw) (zPre0 _) rfl rfl hl.1 (Nat.le_of_ble_eq_true rfl) ⟨rfl, rfl⟩ ⟨Nat.le_of_ble_eq_true rfl, Nat.le_of_ble_eq_true rfl⟩ ⟨(Nat.zero_le _), (Nat.zero_le _)⟩ dX11_flood_170 (fun r_1 hw => ?_)
        exact zret_iw ⟨f_code, f_land, f_huts, f_singers, a_run⟩ zc hS hw hM dX11_flood_173
      · have hw := hw.2 hc
        exact t_m_flood_163 zc hK hM hS  (lv_sub hl [4] rfl) hw
  · have hw := hw.2 hc
    refine lv_aload_n hx hb dX11_flood_69 rfl (lv_at hl 0 rfl) ?_
    refine lv_iload_n hx hb dX11_flood_70 rfl (lv_at hl 1 rfl) ?_
    refine lv_iload hx hb dX11_flood_71 (lv_at hl 5 rfl) ?_
    refine zVw_v [.int x2, .int x6] [] zc ky_X11_findRun kz_X11_findRun km_11_414 (c_m_findRun l hw) (mPreV0 hK hM) hS rfl rfl hl.1 (Nat.le_of_ble_eq_true rfl) ⟨rfl, rfl⟩ ⟨Nat.le_of_ble_eq_true rfl, Nat.le_of_ble_eq_true rfl⟩ ⟨(Nat.zero_le _), (Nat.zero_le _)⟩ dX11_flood_73 (fun a_run_1 H locs hw hM hS => ?_)
    refine lv_iload hx hb dX11_flood_76 (lv_at hl 5 rfl) ?_
    refine lv_iload_n hx hb dX11_flood_78 rfl (lv_at hl 1 rfl) ?_
    refine zS_i [.int x6, .int x2] [] zc ky_X11_has kz_X11_has km_11_101 (c_m_has l hw) (zPre0 _) rfl rfl hl.1 (Nat.le_of_ble_eq_true rfl) ⟨rfl, rfl⟩ ⟨Nat.le_of_ble_eq_true rfl, Nat.le_of_ble_eq_true rfl⟩ ⟨(Nat.zero_le _), (Nat.zero_le _)⟩ dX11_flood_79 (fun r_2 hw => ?_)
    refine lv_if_ne (tgt := 110) hx hb dX11_flood_82 (by decide) (fun hc => ?_) (fun hc => ?_)
    · have hw := hw.1 hc
      exact t_m_flood_110 zc hK hM hS (fun _ _ _ H locs ls h hl hM hS => h H locs ls hl hM hS) (lv_sub hl [0, 1, 2, 3, 4, 5] rfl) hw
    · have hw := hw.2 hc
      refine lv_iload hx hb dX11_flood_85 (lv_at hl 5 rfl) ?_
      refine lv_iload_n hx hb dX11_flood_87 rfl (lv_at hl 2 rfl) ?_
      refine zS_i [.int x6, .int x3] [] zc ky_X11_has kz_X11_has km_11_101 (c_m_has l hw) (zPre0 _) rfl rfl hl.1 (Nat.le_of_ble_eq_true rfl) ⟨rfl, rfl⟩ ⟨Nat.le_of_ble_eq_true rfl, Nat.le_of_ble_eq_true rfl⟩ ⟨(Nat.zero_le _), (Nat.zero_le _)⟩ dX11_flood_88 (fun r_3 hw => ?_)
      refine lv_if_ne (tgt := 110) hx hb dX11_flood_91 (by decide) (fun hc => ?_) (fun hc => ?_)
      · have hw := hw.1 hc
        exact t_m_flood_110 zc hK hM hS (fun _ _ _ H locs ls h hl hM hS => h H locs ls hl hM hS) (lv_sub hl [0, 1, 2, 3, 4, 5] rfl) hw
      · have hw := hw.2 hc
        refine lv_aload_n hx hb dX11_flood_94 rfl (lv_at hl 0 rfl) ?_
        refine mg_11_59_0 zc hK hM dX11_flood_95 ?_
        refine lv_iload_n hx hb dX11_flood_98 rfl (lv_at hl 2 rfl) ?_
        refine mld_17 zc hK hM hw.1 dX11_flood_99 ?_
        have hw := hw.2
        refine lv_ldcw (v := (1000000 : Int32)) hx hb zc.2.2.2.1 (zc.2.2.2.2.1 _ kc_11_410) dX11_flood_100 ?_
        refine lv_icmp_lt (tgt := 110) hx hb dX11_flood_103 (by decide) (fun hc => ?_) (fun hc => ?_)
        · have hw := hw.1 hc
          exact t_m_flood_110 zc hK hM hS (fun _ _ _ H locs ls h hl hM hS => h H locs ls hl hM hS) (lv_sub hl [0, 1, 2, 3, 4, 5] rfl) hw
        · have hw := hw.2 hc
          refine lv_iconst (v := (1 : Int32)) hx hb dX11_flood_106 (by decide) ?_
          refine lv_goto (tgt := 111) hx hb dX11_flood_107 (by decide) ?_
          exact t_m_flood_111 zc hK hM hS (fun _ _ _ H locs ls h hl hM hS => h H locs ls hl hM hS) (lv_sub hl [0, 1, 2, 3, 4, 5] rfl) hw
set_option maxRecDepth 20000 in
theorem t_m_flood_0 {p : Program} {l : Launch} {e : Env} {s : State} {m : MethodId} {args : Array Value} {below : List Frame} {meth : Method} {c : Code} {E : zE} {q : Nat} {f_code : Int32} {a_tape : Nat → Int32} {a_size : Nat → Int32} {a_fault : Nat → Int32} {a_faultPlace : Nat → Int32} {a_many : Nat → Int32} {a_lands : Nat → Int32} {a_evenings : Nat → Int32} {a_sights : Nat → Int32} {a_choirs : Nat → Int32} {f_reached : Int32} {f_length : Int32} {f_begins : Int32} {f_sort : Int32} {f_value : Int32} {f_word : Int64} {f_wrongAt : Int32} {f_laterFault : Int32} {f_laterPlace : Int32} {a_told : Nat → Int32} {a_read : Nat → Int32} {f_farHut : Int32} {f_farSinger : Int32} {f_good : Int32} {f_land : Int32} {f_huts : Int32} {f_singers : Int32} {f_evening : Int32} {a_at : Nat → Int32} {a_knows : Nat → Int32} {a_climbed : Nat → Int32} {a_snow : Nat → Int32} {a_level : Nat → Int32} {f_begun : Int32} {f_minute : Int32} {f_avalanches : Int32} {a_run : Nat → Int32} {a_covers : Nat → Int32} {a_routes : Nat → Int32} {a_longest : Nat → Int32} {a_steep : Nat → Int32} {a_laid : Nat → Int32} {a_far : Nat → Int32} {f_sight : Int32} {a_runs : Nat → Int32} {f_choir : Int32} {f_voices : Int32} {a_rest : Nat → Int64} {a_wins : Nat → Int32} {f_seed : Int32} {a_other : Nat → Int32} {a_kept : Nat → Int32} {post : Int32 → (Int32) → (Int32) → (Int32) → (Int32) → (Nat → Int32) → Prop} {x1 : Int32} {x2 : Int32} {x3 : Int32} {x4 : Int32} {ls : Array Slot} {H : Heap} {locs : List Loc}
    (zc : zC p s m args meth c cX11_flood 8 RX11 (some .int))
    (hK : zK E s)
    (hM : mW E q f_code a_tape a_size a_fault a_faultPlace a_many a_lands a_evenings a_sights a_choirs f_reached f_length f_begins f_sort f_value f_word f_wrongAt f_laterFault f_laterPlace a_told a_read f_farHut f_farSinger f_good f_land f_huts f_singers f_evening a_at a_knows a_climbed a_snow a_level f_begun f_minute f_avalanches a_run a_covers a_routes a_longest a_steep a_laid a_far f_sight a_runs f_choir f_voices a_rest a_wins f_seed a_other a_kept H)
    (hS : va_S (mA q) s.heap H locs)
    (hl : lv_has ls 8 [(0, .ref q), (1, .int x1), (2, .int x2), (3, .int x3), (4, .int x4)])
    (hw : q_m_flood_0 f_code a_many a_lands f_land f_huts f_singers a_run x1 x2 x3 x4 post) :
    W p l e rm_m_flood s m args below meth c H locs 0 0 (MQ below (zQi (S := (Int32) × (Int32) × (Int32) × (Int32) × (Nat → Int32)) (fun r u => post r u.1 u.2.1 u.2.2.1 u.2.2.2.1 u.2.2.2.2) (fun u H => mW E q u.1 a_tape a_size a_fault a_faultPlace a_many a_lands a_evenings a_sights a_choirs f_reached f_length f_begins f_sort f_value f_word f_wrongAt f_laterFault f_laterPlace a_told a_read f_farHut f_farSinger f_good u.2.1 u.2.2.1 u.2.2.2.1 f_evening a_at a_knows a_climbed a_snow a_level f_begun f_minute f_avalanches u.2.2.2.2 a_covers a_routes a_longest a_steep a_laid a_far f_sight a_runs f_choir f_voices a_rest a_wins f_seed a_other a_kept H) (mA q)) args s 0 0 (mA q)) (F0 m 0 ls []) := by
  have hx := zc.1
  have hb := zc.2.1
  refine lv_aload_n hx hb dX11_flood_0 rfl (lv_at hl 0 rfl) ?_
  refine lv_iconst (v := (0 : Int32)) hx hb dX11_flood_1 (by decide) ?_
  refine mp_11_97_0 zc hK hM hS dX11_flood_2 (fun H locs hM hS => ?_)
  refine lv_aload_n hx hb dX11_flood_5 rfl (lv_at hl 0 rfl) ?_
  refine lv_iload_n hx hb dX11_flood_6 rfl (lv_at hl 1 rfl) ?_
  refine zVw_i [.int x1] [] zc ky_X11_hand kz_X11_hand km_11_313 (c_m_hand l hw) (mPreV0 hK hM) hS rfl rfl hl.1 (Nat.le_of_ble_eq_true rfl) ⟨rfl, rfl⟩ ⟨Nat.le_of_ble_eq_true rfl, Nat.le_of_ble_eq_true rfl⟩ ⟨(Nat.zero_le _), (Nat.zero_le _)⟩ dX11_flood_7 (fun r_1 u H locs hw hM hS => ?_)
  obtain ⟨f_land_1, f_huts_1, f_singers_1⟩ := u
  refine lv_if_eq (tgt := 50) hx hb dX11_flood_10 (by decide) (fun hc => ?_) (fun hc => ?_)
  · have hw := hw.1 hc
    refine lv_iconst (v := (-1 : Int32)) hx hb dX11_flood_50 (by decide) ?_
    exact zret_iw ⟨(0 : Int32), f_land_1, f_huts_1, f_singers_1, a_run⟩ zc hS hw hM dX11_flood_51
  · have hw := hw.2 hc
    refine lv_aload_n hx hb dX11_flood_13 rfl (lv_at hl 0 rfl) ?_
    refine lv_iload_n hx hb dX11_flood_14 rfl (lv_at hl 2 rfl) ?_
    refine zV_i [.int x2] [] zc ky_X11_isHut kz_X11_isHut km_11_316 (c_m_isHut l hw) (mPreV0 hK hM) rfl rfl hl.1 (Nat.le_of_ble_eq_true rfl) ⟨rfl, rfl⟩ ⟨Nat.le_of_ble_eq_true rfl, Nat.le_of_ble_eq_true rfl⟩ ⟨(Nat.zero_le _), (Nat.zero_le _)⟩ dX11_flood_15 (fun r_2 hw => ?_)
    refine lv_if_eq (tgt := 50) hx hb dX11_flood_18 (by decide) (fun hc => ?_) (fun hc => ?_)
    · have hw := hw.1 hc
      refine lv_iconst (v := (-1 : Int32)) hx hb dX11_flood_50 (by decide) ?_
      exact zret_iw ⟨(0 : Int32), f_land_1, f_huts_1, f_singers_1, a_run⟩ zc hS hw hM dX11_flood_51
    · have hw := hw.2 hc
      refine lv_aload_n hx hb dX11_flood_21 rfl (lv_at hl 0 rfl) ?_
      refine lv_iload_n hx hb dX11_flood_22 rfl (lv_at hl 3 rfl) ?_
      refine zV_i [.int x3] [] zc ky_X11_isHut kz_X11_isHut km_11_316 (c_m_isHut l hw) (mPreV0 hK hM) rfl rfl hl.1 (Nat.le_of_ble_eq_true rfl) ⟨rfl, rfl⟩ ⟨Nat.le_of_ble_eq_true rfl, Nat.le_of_ble_eq_true rfl⟩ ⟨(Nat.zero_le _), (Nat.zero_le _)⟩ dX11_flood_23 (fun r_3 hw => ?_)
      refine lv_if_eq (tgt := 50) hx hb dX11_flood_26 (by decide) (fun hc => ?_) (fun hc => ?_)
      · have hw := hw.1 hc
        refine lv_iconst (v := (-1 : Int32)) hx hb dX11_flood_50 (by decide) ?_
        exact zret_iw ⟨(0 : Int32), f_land_1, f_huts_1, f_singers_1, a_run⟩ zc hS hw hM dX11_flood_51
      · have hw := hw.2 hc
        refine lv_iload_n hx hb dX11_flood_29 rfl (lv_at hl 2 rfl) ?_
        refine lv_iload_n hx hb dX11_flood_30 rfl (lv_at hl 3 rfl) ?_
        refine lv_icmp_eq (tgt := 50) hx hb dX11_flood_31 (by decide) (fun hc => ?_) (fun hc => ?_)
        · have hw := hw.1 hc
          refine lv_iconst (v := (-1 : Int32)) hx hb dX11_flood_50 (by decide) ?_
          exact zret_iw ⟨(0 : Int32), f_land_1, f_huts_1, f_singers_1, a_run⟩ zc hS hw hM dX11_flood_51
        · have hw := hw.2 hc
          refine lv_aload_n hx hb dX11_flood_34 rfl (lv_at hl 0 rfl) ?_
          refine lv_iload_n hx hb dX11_flood_35 rfl (lv_at hl 2 rfl) ?_
          refine zV_i [.int x2] [] zc ky_X11_isDam kz_X11_isDam km_11_355 (c_m_isDam l hw) (mPreV0 hK hM) rfl rfl hl.1 (Nat.le_of_ble_eq_true rfl) ⟨rfl, rfl⟩ ⟨Nat.le_of_ble_eq_true rfl, Nat.le_of_ble_eq_true rfl⟩ ⟨(Nat.zero_le _), (Nat.zero_le _)⟩ dX11_flood_36 (fun r_4 hw => ?_)
          refine lv_if_ne (tgt := 50) hx hb dX11_flood_39 (by decide) (fun hc => ?_) (fun hc => ?_)
          · have hw := hw.1 hc
            refine lv_iconst (v := (-1 : Int32)) hx hb dX11_flood_50 (by decide) ?_
            exact zret_iw ⟨(0 : Int32), f_land_1, f_huts_1, f_singers_1, a_run⟩ zc hS hw hM dX11_flood_51
          · have hw := hw.2 hc
            refine lv_aload_n hx hb dX11_flood_42 rfl (lv_at hl 0 rfl) ?_
            refine lv_iload_n hx hb dX11_flood_43 rfl (lv_at hl 3 rfl) ?_
            refine zV_i [.int x3] [] zc ky_X11_isDam kz_X11_isDam km_11_355 (c_m_isDam l hw) (mPreV0 hK hM) rfl rfl hl.1 (Nat.le_of_ble_eq_true rfl) ⟨rfl, rfl⟩ ⟨Nat.le_of_ble_eq_true rfl, Nat.le_of_ble_eq_true rfl⟩ ⟨(Nat.zero_le _), (Nat.zero_le _)⟩ dX11_flood_44 (fun r_5 hw => ?_)
            refine lv_if_eq (tgt := 52) hx hb dX11_flood_47 (by decide) (fun hc => ?_) (fun hc => ?_)
            · have hw := hw.1 hc
              refine lv_iconst (v := (-1 : Int32)) hx hb dX11_flood_52 (by decide) ?_
              refine lv_istore (lv' := [(5, .int (-1 : Int32)), (0, .ref q), (1, .int x1), (2, .int x2), (3, .int x3), (4, .int x4)]) hx hb dX11_flood_53 hl (by decide) rfl (fun ls hl => ?_)
              refine lv_iconst (v := (0 : Int32)) hx hb dX11_flood_55 (by decide) ?_
              refine lv_istore (lv' := [(6, .int (0 : Int32)), (5, .int (-1 : Int32)), (0, .ref q), (1, .int x1), (2, .int x2), (3, .int x3), (4, .int x4)]) hx hb dX11_flood_56 hl (by decide) rfl (fun ls hl => ?_)
              exact t_m_flood_58 zc hK hM hS  (lv_sub hl [2, 4, 5, 6, 1, 0] rfl) hw
            · have hw := hw.2 hc
              refine lv_iconst (v := (-1 : Int32)) hx hb dX11_flood_50 (by decide) ?_
              exact zret_iw ⟨(0 : Int32), f_land_1, f_huts_1, f_singers_1, a_run⟩ zc hS hw hM dX11_flood_51
set_option maxRecDepth 20000 in
theorem c_m_flood (l : Launch) {E : zE} {q : Nat} {f_code : Int32} {a_tape : Nat → Int32} {a_size : Nat → Int32} {a_fault : Nat → Int32} {a_faultPlace : Nat → Int32} {a_many : Nat → Int32} {a_lands : Nat → Int32} {a_evenings : Nat → Int32} {a_sights : Nat → Int32} {a_choirs : Nat → Int32} {f_reached : Int32} {f_length : Int32} {f_begins : Int32} {f_sort : Int32} {f_value : Int32} {f_word : Int64} {f_wrongAt : Int32} {f_laterFault : Int32} {f_laterPlace : Int32} {a_told : Nat → Int32} {a_read : Nat → Int32} {f_farHut : Int32} {f_farSinger : Int32} {f_good : Int32} {f_land : Int32} {f_huts : Int32} {f_singers : Int32} {f_evening : Int32} {a_at : Nat → Int32} {a_knows : Nat → Int32} {a_climbed : Nat → Int32} {a_snow : Nat → Int32} {a_level : Nat → Int32} {f_begun : Int32} {f_minute : Int32} {f_avalanches : Int32} {a_run : Nat → Int32} {a_covers : Nat → Int32} {a_routes : Nat → Int32} {a_longest : Nat → Int32} {a_steep : Nat → Int32} {a_laid : Nat → Int32} {a_far : Nat → Int32} {f_sight : Int32} {a_runs : Nat → Int32} {f_choir : Int32} {f_voices : Int32} {a_rest : Nat → Int64} {a_wins : Nat → Int32} {f_seed : Int32} {a_other : Nat → Int32} {a_kept : Nat → Int32} {x1 : Int32} {x2 : Int32} {x3 : Int32} {x4 : Int32} {post : Int32 → (Int32) → (Int32) → (Int32) → (Int32) → (Nat → Int32) → Prop} (hw : q_m_flood_0 f_code a_many a_lands f_land f_huts f_singers a_run x1 x2 x3 x4 post) : Met l yX11_flood (Cond.code yX11_flood cX11_flood 8 (some .int) :: zb) rm_m_flood (va_Pc [.ref q, .int x1, .int x2, .int x3, .int x4] (fun U => mW E q f_code a_tape a_size a_fault a_faultPlace a_many a_lands a_evenings a_sights a_choirs f_reached f_length f_begins f_sort f_value f_word f_wrongAt f_laterFault f_laterPlace a_told a_read f_farHut f_farSinger f_good f_land f_huts f_singers f_evening a_at a_knows a_climbed a_snow a_level f_begun f_minute f_avalanches a_run a_covers a_routes a_longest a_steep a_laid a_far f_sight a_runs f_choir f_voices a_rest a_wins f_seed a_other a_kept U.heap ∧ zK E U)) (zQi (S := (Int32) × (Int32) × (Int32) × (Int32) × (Nat → Int32)) (fun r u => post r u.1 u.2.1 u.2.2.1 u.2.2.2.1 u.2.2.2.2) (fun u H => mW E q u.1 a_tape a_size a_fault a_faultPlace a_many a_lands a_evenings a_sights a_choirs f_reached f_length f_begins f_sort f_value f_word f_wrongAt f_laterFault f_laterPlace a_told a_read f_farHut f_farSinger f_good u.2.1 u.2.2.1 u.2.2.2.1 f_evening a_at a_knows a_climbed a_snow a_level f_begun f_minute f_avalanches u.2.2.2.2 a_covers a_routes a_longest a_steep a_laid a_far f_sight a_runs f_choir f_voices a_rest a_wins f_seed a_other a_kept H) (mA q)) 0 0 (mA q) := by
  refine Met.ofW (cc := cX11_flood) (maxL := 8) (ret := (some .int)) (by decide) rfl ?_
  intro p e s m args below meth c s₁ B hml hv
  obtain ⟨rfl, hM, hK⟩ := hv
  have zc := zc_of B hml
  have hl := lv_entry ([.ref q, .int x1, .int x2, .int x3, .int x4]) (n := 8) (Nat.le_of_ble_eq_true rfl)
  rw [lg_entry_eq]
  generalize (lg_sl ([.ref q, .int x1, .int x2, .int x3, .int x4]) ++ List.replicate (8 - (lg_sl ([.ref q, .int x1, .int x2, .int x3, .int x4])).length) Slot.unset).toArray = ls at hl ⊢
  have hl : lv_has ls 8 [(0, .ref q), (1, .int x1), (2, .int x2), (3, .int x3), (4, .int x4)] := hl
  exact t_m_flood_0 zc hK hM va_S.rf (lv_sub hl [0, 1, 2, 3, 4] rfl) hw
-- m_taught
abbrev rm_m_taught : Room := { frames := 3, cells := 0, slots := 0, locals := 63 }
def q_m_taught_65 (P33 : Int32 → Int32 → Prop) (a_lands : Nat → Int32) (f_land : Int32) (f_singers : Int32) (a_at : Nat → Int32) (a_knows : Nat → Int32) (a_climbed : Nat → Int32) (a_level : Nat → Int32) (f_begun : Int32) (x2 : Int32) (x4 : Int32) (x5 : Int32) (x6 : Int32) (y0 : Int32) (y1 : Int32) (post : Int32 → Prop) : Prop :=
  ∀ v_1 : Int32, v_1 = (y0 ||| y1) → (∀ v_2 : Int32, v_2 = x6 + (1 : Int32) → (P33 v_1 v_2))
def q_m_taught_131 (P73 : Int32 → Int32 → Int32 → Prop) (P84 : Int32 → Int32 → Prop) (a_lands : Nat → Int32) (f_land : Int32) (f_singers : Int32) (a_at : Nat → Int32) (a_knows : Nat → Int32) (a_climbed : Nat → Int32) (a_level : Nat → Int32) (f_begun : Int32) (x3 : Int32) (x4 : Int32) (x5 : Int32) (x7 : Int32) (y0 : Int32) (post : Int32 → Prop) : Prop :=
  ∀ v_1 : Int32, v_1 = x7 + (1 : Int32) → (P84 y0 v_1)
def q_m_taught_124 (P73 : Int32 → Int32 → Int32 → Prop) (P84 : Int32 → Int32 → Prop) (a_lands : Nat → Int32) (f_land : Int32) (f_singers : Int32) (a_at : Nat → Int32) (a_knows : Nat → Int32) (a_climbed : Nat → Int32) (a_level : Nat → Int32) (f_begun : Int32) (x3 : Int32) (x4 : Int32) (x5 : Int32) (x7 : Int32) (post : Int32 → Prop) : Prop :=
  q_m_taught_131 P73 P84 a_lands f_land f_singers a_at a_knows a_climbed a_level f_begun x3 x4 x5 x7 x7 post
def q_m_taught_129 (P73 : Int32 → Int32 → Int32 → Prop) (P84 : Int32 → Int32 → Prop) (a_lands : Nat → Int32) (f_land : Int32) (f_singers : Int32) (a_at : Nat → Int32) (a_knows : Nat → Int32) (a_climbed : Nat → Int32) (a_level : Nat → Int32) (f_begun : Int32) (x3 : Int32) (x4 : Int32) (x5 : Int32) (x6 : Int32) (x7 : Int32) (post : Int32 → Prop) : Prop :=
  q_m_taught_131 P73 P84 a_lands f_land f_singers a_at a_knows a_climbed a_level f_begun x3 x4 x5 x7 x6 post
def q_m_taught_243 (P73 : Int32 → Int32 → Int32 → Prop) (P210 : Int32 → Int32 → Prop) (a_lands : Nat → Int32) (f_land : Int32) (f_singers : Int32) (a_at : Nat → Int32) (a_knows : Nat → Int32) (a_climbed : Nat → Int32) (a_level : Nat → Int32) (f_begun : Int32) (x4 : Int32) (x5 : Int32) (x7 : Int32) (x8 : Int32) (y0 : Int32) (y1 : Int32) (post : Int32 → Prop) : Prop :=
  ∀ v_1 : Int32, v_1 = (y0 ||| y1) → (∀ v_2 : Int32, v_2 = x8 + (1 : Int32) → (P210 v_1 v_2))
def q_m_taught_210 (P73 : Int32 → Int32 → Int32 → Prop) (a_lands : Nat → Int32) (f_land : Int32) (f_singers : Int32) (a_at : Nat → Int32) (a_knows : Nat → Int32) (a_climbed : Nat → Int32) (a_level : Nat → Int32) (f_begun : Int32) (x3 : Int32) (x4 : Int32) (x5 : Int32) (x7 : Int32) (x8 : Int32) (post : Int32 → Prop) : Prop :=
  ∀ P210 : Int32 → Int32 → Prop, (∀ (x3 : Int32) (x8 : Int32), ((f_singers ≤ x8 → (P73 x3 x4 x5)) ∧ (¬ f_singers ≤ x8 → (vp_in x8 6 ∧ (q_m_has_0 x7 (a_at (Int32.toNatClampNeg x8)) (fun r_1 => (r_1 = 0 → (q_m_taught_243 P73 P210 a_lands f_land f_singers a_at a_knows a_climbed a_level f_begun x4 x5 x7 x8 x3 (0 : Int32) post)) ∧ (¬ r_1 = 0 → (q_m_taught_243 P73 P210 a_lands f_land f_singers a_at a_knows a_climbed a_level f_begun x4 x5 x7 x8 x3 ((1 : Int32) <<< (x8 &&& 31)) post))))))) → P210 x3 x8) → P210 x3 x8
def q_m_taught_84 (P73 : Int32 → Int32 → Int32 → Prop) (a_lands : Nat → Int32) (f_land : Int32) (f_singers : Int32) (a_at : Nat → Int32) (a_knows : Nat → Int32) (a_climbed : Nat → Int32) (a_level : Nat → Int32) (f_begun : Int32) (x3 : Int32) (x4 : Int32) (x5 : Int32) (x6 : Int32) (x7 : Int32) (post : Int32 → Prop) : Prop :=
  ∀ P84 : Int32 → Int32 → Prop, (∀ (x6 : Int32) (x7 : Int32), ((f_singers ≤ x7 → (q_m_has_0 x3 x6 (fun r_1 => (r_1 = 0 → (post (-1 : Int32))) ∧ (¬ r_1 = 0 → (q_m_high_0 a_lands f_land a_at a_climbed x6 (fun r_2 => (x4 ≤ r_2 → (post (-1 : Int32))) ∧ (¬ x4 ≤ r_2 → (vp_in x6 6 ∧ (q_m_isDam_0 a_lands f_land (a_at (Int32.toNatClampNeg x6)) (fun r_3 => (r_3 = 0 → (q_m_high_0 a_lands f_land a_at a_climbed x6 (fun r_4 => ∀ v_1 : Int32, v_1 = (x5 &&& (((1 : Int32) <<< (x6 &&& 31)) ^^^ (-1 : Int32))) → (vp_in x6 6 ∧ (q_m_hearing_0 a_lands f_land (a_at (Int32.toNatClampNeg x6)) (fun r_5 => q_m_taught_210 P73 a_lands f_land f_singers a_at a_knows a_climbed a_level f_begun x3 r_4 v_1 r_5 (0 : Int32) post)))))) ∧ (¬ r_3 = 0 → (post (-1 : Int32))))))))))))) ∧ (¬ f_singers ≤ x7 → (q_m_has_0 x5 x7 (fun r_6 => (r_6 = 0 → (q_m_taught_129 P73 P84 a_lands f_land f_singers a_at a_knows a_climbed a_level f_begun x3 x4 x5 x6 x7 post)) ∧ (¬ r_6 = 0 → ((x6 = (-1 : Int32) → (q_m_taught_124 P73 P84 a_lands f_land f_singers a_at a_knows a_climbed a_level f_begun x3 x4 x5 x7 post)) ∧ (¬ x6 = (-1 : Int32) → (q_m_high_0 a_lands f_land a_at a_climbed x7 (fun r_7 => q_m_high_0 a_lands f_land a_at a_climbed x6 (fun r_8 => (r_7 ≤ r_8 → (q_m_taught_129 P73 P84 a_lands f_land f_singers a_at a_knows a_climbed a_level f_begun x3 x4 x5 x6 x7 post)) ∧ (¬ r_7 ≤ r_8 → (q_m_taught_124 P73 P84 a_lands f_land f_singers a_at a_knows a_climbed a_level f_begun x3 x4 x5 x7 post)))))))))))) → P84 x6 x7) → P84 x6 x7
def q_m_taught_73 (a_lands : Nat → Int32) (f_land : Int32) (f_singers : Int32) (a_at : Nat → Int32) (a_knows : Nat → Int32) (a_climbed : Nat → Int32) (a_level : Nat → Int32) (f_begun : Int32) (x3 : Int32) (x4 : Int32) (x5 : Int32) (post : Int32 → Prop) : Prop :=
  ∀ P73 : Int32 → Int32 → Int32 → Prop, (∀ (x3 : Int32) (x4 : Int32) (x5 : Int32), ((x5 = 0 → (post x3)) ∧ (¬ x5 = 0 → (q_m_taught_84 P73 a_lands f_land f_singers a_at a_knows a_climbed a_level f_begun x3 x4 x5 (-1 : Int32) (0 : Int32) post))) → P73 x3 x4 x5) → P73 x3 x4 x5
def q_m_taught_33 (a_lands : Nat → Int32) (f_land : Int32) (f_singers : Int32) (a_at : Nat → Int32) (a_knows : Nat → Int32) (a_climbed : Nat → Int32) (a_level : Nat → Int32) (f_begun : Int32) (x2 : Int32) (x3 : Int32) (x4 : Int32) (x5 : Int32) (x6 : Int32) (post : Int32 → Prop) : Prop :=
  ∀ P33 : Int32 → Int32 → Prop, (∀ (x3 : Int32) (x6 : Int32), ((f_singers ≤ x6 → (q_m_taught_73 a_lands f_land f_singers a_at a_knows a_climbed a_level f_begun x3 x4 x5 post)) ∧ (¬ f_singers ≤ x6 → (vp_in x6 6 ∧ (q_m_has_0 (a_knows (Int32.toNatClampNeg x6)) x2 (fun r_1 => (r_1 = 0 → (q_m_taught_65 P33 a_lands f_land f_singers a_at a_knows a_climbed a_level f_begun x2 x4 x5 x6 x3 (0 : Int32) post)) ∧ (¬ r_1 = 0 → (q_m_taught_65 P33 a_lands f_land f_singers a_at a_knows a_climbed a_level f_begun x2 x4 x5 x6 x3 ((1 : Int32) <<< (x6 &&& 31)) post))))))) → P33 x3 x6) → P33 x3 x6
def q_m_taught_25 (a_lands : Nat → Int32) (f_land : Int32) (f_singers : Int32) (a_at : Nat → Int32) (a_knows : Nat → Int32) (a_climbed : Nat → Int32) (a_level : Nat → Int32) (f_begun : Int32) (x1 : Int32) (x2 : Int32) (x3 : Int32) (y0 : Int32) (post : Int32 → Prop) : Prop :=
  q_m_taught_33 a_lands f_land f_singers a_at a_knows a_climbed a_level f_begun x2 x3 y0 x1 (0 : Int32) post
def q_m_taught_0 (a_lands : Nat → Int32) (f_land : Int32) (f_singers : Int32) (a_at : Nat → Int32) (a_knows : Nat → Int32) (a_climbed : Nat → Int32) (a_level : Nat → Int32) (f_begun : Int32) (x1 : Int32) (x2 : Int32) (post : Int32 → Prop) : Prop :=
  q_m_has_0 f_begun x2 (fun r_1 => (r_1 = 0 → (q_m_taught_25 a_lands f_land f_singers a_at a_knows a_climbed a_level f_begun x1 x2 (0 : Int32) (1000000 : Int32) post)) ∧ (¬ r_1 = 0 → (vp_in x2 5 ∧ (q_m_taught_25 a_lands f_land f_singers a_at a_knows a_climbed a_level f_begun x1 x2 (0 : Int32) (a_level (Int32.toNatClampNeg x2)) post))))
set_option maxRecDepth 20000 in
theorem t_m_taught_65 {p : Program} {l : Launch} {e : Env} {s : State} {m : MethodId} {args : Array Value} {below : List Frame} {meth : Method} {c : Code} {E : zE} {q : Nat} {f_code : Int32} {a_tape : Nat → Int32} {a_size : Nat → Int32} {a_fault : Nat → Int32} {a_faultPlace : Nat → Int32} {a_many : Nat → Int32} {a_lands : Nat → Int32} {a_evenings : Nat → Int32} {a_sights : Nat → Int32} {a_choirs : Nat → Int32} {f_reached : Int32} {f_length : Int32} {f_begins : Int32} {f_sort : Int32} {f_value : Int32} {f_word : Int64} {f_wrongAt : Int32} {f_laterFault : Int32} {f_laterPlace : Int32} {a_told : Nat → Int32} {a_read : Nat → Int32} {f_farHut : Int32} {f_farSinger : Int32} {f_good : Int32} {f_land : Int32} {f_huts : Int32} {f_singers : Int32} {f_evening : Int32} {a_at : Nat → Int32} {a_knows : Nat → Int32} {a_climbed : Nat → Int32} {a_snow : Nat → Int32} {a_level : Nat → Int32} {f_begun : Int32} {f_minute : Int32} {f_avalanches : Int32} {a_run : Nat → Int32} {a_covers : Nat → Int32} {a_routes : Nat → Int32} {a_longest : Nat → Int32} {a_steep : Nat → Int32} {a_laid : Nat → Int32} {a_far : Nat → Int32} {f_sight : Int32} {a_runs : Nat → Int32} {f_choir : Int32} {f_voices : Int32} {a_rest : Nat → Int64} {a_wins : Nat → Int32} {f_seed : Int32} {a_other : Nat → Int32} {a_kept : Nat → Int32} {P33 : Int32 → Int32 → Prop} {post : Int32 → Prop} {x2 : Int32} {x4 : Int32} {x5 : Int32} {x6 : Int32} {y0 : Int32} {y1 : Int32} {ls : Array Slot}
    (zc : zC p s m args meth c cX11_taught 9 RX11 (some .int))
    (hK : zK E s)
    (hM : mW E q f_code a_tape a_size a_fault a_faultPlace a_many a_lands a_evenings a_sights a_choirs f_reached f_length f_begins f_sort f_value f_word f_wrongAt f_laterFault f_laterPlace a_told a_read f_farHut f_farSinger f_good f_land f_huts f_singers f_evening a_at a_knows a_climbed a_snow a_level f_begun f_minute f_avalanches a_run a_covers a_routes a_longest a_steep a_laid a_far f_sight a_runs f_choir f_voices a_rest a_wins f_seed a_other a_kept s.heap)
    (hP33 : ∀ (x3 : Int32) (x6 : Int32) (ls : Array Slot), P33 x3 x6 → lv_has ls 9 [(0, .ref q), (2, .int x2), (3, .int x3), (4, .int x4), (5, .int x5), (6, .int x6)] → W p l e rm_m_taught s m args below meth c s.heap [] 0 0 (MQ below (vp_Si post) args s 0 0 (fun _ => False)) (F0 m 33 ls []))
    (hl : lv_has ls 9 [(0, .ref q), (2, .int x2), (4, .int x4), (5, .int x5), (6, .int x6)])
    (hw : q_m_taught_65 P33 a_lands f_land f_singers a_at a_knows a_climbed a_level f_begun x2 x4 x5 x6 y0 y1 post) :
    W p l e rm_m_taught s m args below meth c s.heap [] 0 0 (MQ below (vp_Si post) args s 0 0 (fun _ => False)) (F0 m 65 ls [.int y1, .int y0]) := by
  have hx := zc.1
  have hb := zc.2.1
  refine lv_ior hx hb dX11_taught_65 ?_
  refine lv_topi (fun v_1 ev_1 => ?_)
  have hw := hw v_1 ev_1
  refine lv_istore_n (lv' := [(3, .int v_1), (0, .ref q), (2, .int x2), (4, .int x4), (5, .int x5), (6, .int x6)]) hx hb dX11_taught_66 rfl hl (by decide) rfl (fun ls hl => ?_)
  obtain ⟨v_2, ev_2⟩ : ∃ y : Int32, y = x6 + (1 : Int32) := ⟨_, rfl⟩
  have hw := hw v_2 ev_2
  refine lv_iinc (v := v_2) (k := 5) (lv' := [(6, .int v_2), (3, .int v_1), (0, .ref q), (2, .int x2), (4, .int x4), (5, .int x5)]) hx hb dX11_taught_67 hl rfl (by rw [ev_2]; rfl) (by decide) rfl (fun ls hl => ?_)
  refine lv_goto (tgt := 33) hx hb dX11_taught_70 (by decide) ?_
  exact hP33 _ _ _ hw (lv_sub hl [2, 3, 1, 4, 5, 0] rfl)
set_option maxRecDepth 20000 in
theorem t_m_taught_131 {p : Program} {l : Launch} {e : Env} {s : State} {m : MethodId} {args : Array Value} {below : List Frame} {meth : Method} {c : Code} {E : zE} {q : Nat} {f_code : Int32} {a_tape : Nat → Int32} {a_size : Nat → Int32} {a_fault : Nat → Int32} {a_faultPlace : Nat → Int32} {a_many : Nat → Int32} {a_lands : Nat → Int32} {a_evenings : Nat → Int32} {a_sights : Nat → Int32} {a_choirs : Nat → Int32} {f_reached : Int32} {f_length : Int32} {f_begins : Int32} {f_sort : Int32} {f_value : Int32} {f_word : Int64} {f_wrongAt : Int32} {f_laterFault : Int32} {f_laterPlace : Int32} {a_told : Nat → Int32} {a_read : Nat → Int32} {f_farHut : Int32} {f_farSinger : Int32} {f_good : Int32} {f_land : Int32} {f_huts : Int32} {f_singers : Int32} {f_evening : Int32} {a_at : Nat → Int32} {a_knows : Nat → Int32} {a_climbed : Nat → Int32} {a_snow : Nat → Int32} {a_level : Nat → Int32} {f_begun : Int32} {f_minute : Int32} {f_avalanches : Int32} {a_run : Nat → Int32} {a_covers : Nat → Int32} {a_routes : Nat → Int32} {a_longest : Nat → Int32} {a_steep : Nat → Int32} {a_laid : Nat → Int32} {a_far : Nat → Int32} {f_sight : Int32} {a_runs : Nat → Int32} {f_choir : Int32} {f_voices : Int32} {a_rest : Nat → Int64} {a_wins : Nat → Int32} {f_seed : Int32} {a_other : Nat → Int32} {a_kept : Nat → Int32} {P73 : Int32 → Int32 → Int32 → Prop} {P84 : Int32 → Int32 → Prop} {post : Int32 → Prop} {x3 : Int32} {x4 : Int32} {x5 : Int32} {x7 : Int32} {y0 : Int32} {ls : Array Slot}
    (zc : zC p s m args meth c cX11_taught 9 RX11 (some .int))
    (hK : zK E s)
    (hM : mW E q f_code a_tape a_size a_fault a_faultPlace a_many a_lands a_evenings a_sights a_choirs f_reached f_length f_begins f_sort f_value f_word f_wrongAt f_laterFault f_laterPlace a_told a_read f_farHut f_farSinger f_good f_land f_huts f_singers f_evening a_at a_knows a_climbed a_snow a_level f_begun f_minute f_avalanches a_run a_covers a_routes a_longest a_steep a_laid a_far f_sight a_runs f_choir f_voices a_rest a_wins f_seed a_other a_kept s.heap)
    (hP73 : ∀ (x3 : Int32) (x4 : Int32) (x5 : Int32) (ls : Array Slot), P73 x3 x4 x5 → lv_has ls 9 [(0, .ref q), (3, .int x3), (4, .int x4), (5, .int x5)] → W p l e rm_m_taught s m args below meth c s.heap [] 0 0 (MQ below (vp_Si post) args s 0 0 (fun _ => False)) (F0 m 73 ls []))
    (hP84 : ∀ (x6 : Int32) (x7 : Int32) (ls : Array Slot), P84 x6 x7 → lv_has ls 9 [(0, .ref q), (3, .int x3), (4, .int x4), (5, .int x5), (6, .int x6), (7, .int x7)] → W p l e rm_m_taught s m args below meth c s.heap [] 0 0 (MQ below (vp_Si post) args s 0 0 (fun _ => False)) (F0 m 84 ls []))
    (hl : lv_has ls 9 [(0, .ref q), (3, .int x3), (4, .int x4), (5, .int x5), (7, .int x7)])
    (hw : q_m_taught_131 P73 P84 a_lands f_land f_singers a_at a_knows a_climbed a_level f_begun x3 x4 x5 x7 y0 post) :
    W p l e rm_m_taught s m args below meth c s.heap [] 0 0 (MQ below (vp_Si post) args s 0 0 (fun _ => False)) (F0 m 131 ls [.int y0]) := by
  have hx := zc.1
  have hb := zc.2.1
  refine lv_istore (lv' := [(6, .int y0), (0, .ref q), (3, .int x3), (4, .int x4), (5, .int x5), (7, .int x7)]) hx hb dX11_taught_131 hl (by decide) rfl (fun ls hl => ?_)
  obtain ⟨v_1, ev_1⟩ : ∃ y : Int32, y = x7 + (1 : Int32) := ⟨_, rfl⟩
  have hw := hw v_1 ev_1
  refine lv_iinc (v := v_1) (k := 5) (lv' := [(7, .int v_1), (6, .int y0), (0, .ref q), (3, .int x3), (4, .int x4), (5, .int x5)]) hx hb dX11_taught_133 hl rfl (by rw [ev_1]; rfl) (by decide) rfl (fun ls hl => ?_)
  refine lv_goto (tgt := 84) hx hb dX11_taught_136 (by decide) ?_
  exact hP84 _ _ _ hw (lv_sub hl [2, 3, 4, 5, 1, 0] rfl)
set_option maxRecDepth 20000 in
theorem t_m_taught_124 {p : Program} {l : Launch} {e : Env} {s : State} {m : MethodId} {args : Array Value} {below : List Frame} {meth : Method} {c : Code} {E : zE} {q : Nat} {f_code : Int32} {a_tape : Nat → Int32} {a_size : Nat → Int32} {a_fault : Nat → Int32} {a_faultPlace : Nat → Int32} {a_many : Nat → Int32} {a_lands : Nat → Int32} {a_evenings : Nat → Int32} {a_sights : Nat → Int32} {a_choirs : Nat → Int32} {f_reached : Int32} {f_length : Int32} {f_begins : Int32} {f_sort : Int32} {f_value : Int32} {f_word : Int64} {f_wrongAt : Int32} {f_laterFault : Int32} {f_laterPlace : Int32} {a_told : Nat → Int32} {a_read : Nat → Int32} {f_farHut : Int32} {f_farSinger : Int32} {f_good : Int32} {f_land : Int32} {f_huts : Int32} {f_singers : Int32} {f_evening : Int32} {a_at : Nat → Int32} {a_knows : Nat → Int32} {a_climbed : Nat → Int32} {a_snow : Nat → Int32} {a_level : Nat → Int32} {f_begun : Int32} {f_minute : Int32} {f_avalanches : Int32} {a_run : Nat → Int32} {a_covers : Nat → Int32} {a_routes : Nat → Int32} {a_longest : Nat → Int32} {a_steep : Nat → Int32} {a_laid : Nat → Int32} {a_far : Nat → Int32} {f_sight : Int32} {a_runs : Nat → Int32} {f_choir : Int32} {f_voices : Int32} {a_rest : Nat → Int64} {a_wins : Nat → Int32} {f_seed : Int32} {a_other : Nat → Int32} {a_kept : Nat → Int32} {P73 : Int32 → Int32 → Int32 → Prop} {P84 : Int32 → Int32 → Prop} {post : Int32 → Prop} {x3 : Int32} {x4 : Int32} {x5 : Int32} {x7 : Int32} {ls : Array Slot}
    (zc : zC p s m args meth c cX11_taught 9 RX11 (some .int))
    (hK : zK E s)
    (hM : mW E q f_code a_tape a_size a_fault a_faultPlace a_many a_lands a_evenings a_sights a_choirs f_reached f_length f_begins f_sort f_value f_word f_wrongAt f_laterFault f_laterPlace a_told a_read f_farHut f_farSinger f_good f_land f_huts f_singers f_evening a_at a_knows a_climbed a_snow a_level f_begun f_minute f_avalanches a_run a_covers a_routes a_longest a_steep a_laid a_far f_sight a_runs f_choir f_voices a_rest a_wins f_seed a_other a_kept s.heap)
    (hP73 : ∀ (x3 : Int32) (x4 : Int32) (x5 : Int32) (ls : Array Slot), P73 x3 x4 x5 → lv_has ls 9 [(0, .ref q), (3, .int x3), (4, .int x4), (5, .int x5)] → W p l e rm_m_taught s m args below meth c s.heap [] 0 0 (MQ below (vp_Si post) args s 0 0 (fun _ => False)) (F0 m 73 ls []))
    (hP84 : ∀ (x6 : Int32) (x7 : Int32) (ls : Array Slot), P84 x6 x7 → lv_has ls 9 [(0, .ref q), (3, .int x3), (4, .int x4), (5, .int x5), (6, .int x6), (7, .int x7)] → W p l e rm_m_taught s m args below meth c s.heap [] 0 0 (MQ below (vp_Si post) args s 0 0 (fun _ => False)) (F0 m 84 ls []))
    (hl : lv_has ls 9 [(0, .ref q), (3, .int x3), (4, .int x4), (5, .int x5), (7, .int x7)])
    (hw : q_m_taught_124 P73 P84 a_lands f_land f_singers a_at a_knows a_climbed a_level f_begun x3 x4 x5 x7 post) :
    W p l e rm_m_taught s m args below meth c s.heap [] 0 0 (MQ below (vp_Si post) args s 0 0 (fun _ => False)) (F0 m 124 ls []) := by
  have hx := zc.1
  have hb := zc.2.1
  refine lv_iload hx hb dX11_taught_124 (lv_at hl 4 rfl) ?_
  refine lv_goto (tgt := 131) hx hb dX11_taught_126 (by decide) ?_
  exact t_m_taught_131 zc hK hM hP73 hP84 (lv_sub hl [0, 1, 2, 3, 4] rfl) hw
set_option maxRecDepth 20000 in
theorem t_m_taught_129 {p : Program} {l : Launch} {e : Env} {s : State} {m : MethodId} {args : Array Value} {below : List Frame} {meth : Method} {c : Code} {E : zE} {q : Nat} {f_code : Int32} {a_tape : Nat → Int32} {a_size : Nat → Int32} {a_fault : Nat → Int32} {a_faultPlace : Nat → Int32} {a_many : Nat → Int32} {a_lands : Nat → Int32} {a_evenings : Nat → Int32} {a_sights : Nat → Int32} {a_choirs : Nat → Int32} {f_reached : Int32} {f_length : Int32} {f_begins : Int32} {f_sort : Int32} {f_value : Int32} {f_word : Int64} {f_wrongAt : Int32} {f_laterFault : Int32} {f_laterPlace : Int32} {a_told : Nat → Int32} {a_read : Nat → Int32} {f_farHut : Int32} {f_farSinger : Int32} {f_good : Int32} {f_land : Int32} {f_huts : Int32} {f_singers : Int32} {f_evening : Int32} {a_at : Nat → Int32} {a_knows : Nat → Int32} {a_climbed : Nat → Int32} {a_snow : Nat → Int32} {a_level : Nat → Int32} {f_begun : Int32} {f_minute : Int32} {f_avalanches : Int32} {a_run : Nat → Int32} {a_covers : Nat → Int32} {a_routes : Nat → Int32} {a_longest : Nat → Int32} {a_steep : Nat → Int32} {a_laid : Nat → Int32} {a_far : Nat → Int32} {f_sight : Int32} {a_runs : Nat → Int32} {f_choir : Int32} {f_voices : Int32} {a_rest : Nat → Int64} {a_wins : Nat → Int32} {f_seed : Int32} {a_other : Nat → Int32} {a_kept : Nat → Int32} {P73 : Int32 → Int32 → Int32 → Prop} {P84 : Int32 → Int32 → Prop} {post : Int32 → Prop} {x3 : Int32} {x4 : Int32} {x5 : Int32} {x6 : Int32} {x7 : Int32} {ls : Array Slot}
    (zc : zC p s m args meth c cX11_taught 9 RX11 (some .int))
    (hK : zK E s)
    (hM : mW E q f_code a_tape a_size a_fault a_faultPlace a_many a_lands a_evenings a_sights a_choirs f_reached f_length f_begins f_sort f_value f_word f_wrongAt f_laterFault f_laterPlace a_told a_read f_farHut f_farSinger f_good f_land f_huts f_singers f_evening a_at a_knows a_climbed a_snow a_level f_begun f_minute f_avalanches a_run a_covers a_routes a_longest a_steep a_laid a_far f_sight a_runs f_choir f_voices a_rest a_wins f_seed a_other a_kept s.heap)
    (hP73 : ∀ (x3 : Int32) (x4 : Int32) (x5 : Int32) (ls : Array Slot), P73 x3 x4 x5 → lv_has ls 9 [(0, .ref q), (3, .int x3), (4, .int x4), (5, .int x5)] → W p l e rm_m_taught s m args below meth c s.heap [] 0 0 (MQ below (vp_Si post) args s 0 0 (fun _ => False)) (F0 m 73 ls []))
    (hP84 : ∀ (x6 : Int32) (x7 : Int32) (ls : Array Slot), P84 x6 x7 → lv_has ls 9 [(0, .ref q), (3, .int x3), (4, .int x4), (5, .int x5), (6, .int x6), (7, .int x7)] → W p l e rm_m_taught s m args below meth c s.heap [] 0 0 (MQ below (vp_Si post) args s 0 0 (fun _ => False)) (F0 m 84 ls []))
    (hl : lv_has ls 9 [(0, .ref q), (3, .int x3), (4, .int x4), (5, .int x5), (6, .int x6), (7, .int x7)])
    (hw : q_m_taught_129 P73 P84 a_lands f_land f_singers a_at a_knows a_climbed a_level f_begun x3 x4 x5 x6 x7 post) :
    W p l e rm_m_taught s m args below meth c s.heap [] 0 0 (MQ below (vp_Si post) args s 0 0 (fun _ => False)) (F0 m 129 ls []) := by
  have hx := zc.1
  have hb := zc.2.1
  refine lv_iload hx hb dX11_taught_129 (lv_at hl 4 rfl) ?_
  exact t_m_taught_131 zc hK hM hP73 hP84 (lv_sub hl [0, 1, 2, 3, 5] rfl) hw
set_option maxRecDepth 20000 in
theorem t_m_taught_243 {p : Program} {l : Launch} {e : Env} {s : State} {m : MethodId} {args : Array Value} {below : List Frame} {meth : Method} {c : Code} {E : zE} {q : Nat} {f_code : Int32} {a_tape : Nat → Int32} {a_size : Nat → Int32} {a_fault : Nat → Int32} {a_faultPlace : Nat → Int32} {a_many : Nat → Int32} {a_lands : Nat → Int32} {a_evenings : Nat → Int32} {a_sights : Nat → Int32} {a_choirs : Nat → Int32} {f_reached : Int32} {f_length : Int32} {f_begins : Int32} {f_sort : Int32} {f_value : Int32} {f_word : Int64} {f_wrongAt : Int32} {f_laterFault : Int32} {f_laterPlace : Int32} {a_told : Nat → Int32} {a_read : Nat → Int32} {f_farHut : Int32} {f_farSinger : Int32} {f_good : Int32} {f_land : Int32} {f_huts : Int32} {f_singers : Int32} {f_evening : Int32} {a_at : Nat → Int32} {a_knows : Nat → Int32} {a_climbed : Nat → Int32} {a_snow : Nat → Int32} {a_level : Nat → Int32} {f_begun : Int32} {f_minute : Int32} {f_avalanches : Int32} {a_run : Nat → Int32} {a_covers : Nat → Int32} {a_routes : Nat → Int32} {a_longest : Nat → Int32} {a_steep : Nat → Int32} {a_laid : Nat → Int32} {a_far : Nat → Int32} {f_sight : Int32} {a_runs : Nat → Int32} {f_choir : Int32} {f_voices : Int32} {a_rest : Nat → Int64} {a_wins : Nat → Int32} {f_seed : Int32} {a_other : Nat → Int32} {a_kept : Nat → Int32} {P73 : Int32 → Int32 → Int32 → Prop} {P210 : Int32 → Int32 → Prop} {post : Int32 → Prop} {x4 : Int32} {x5 : Int32} {x7 : Int32} {x8 : Int32} {y0 : Int32} {y1 : Int32} {ls : Array Slot}
    (zc : zC p s m args meth c cX11_taught 9 RX11 (some .int))
    (hK : zK E s)
    (hM : mW E q f_code a_tape a_size a_fault a_faultPlace a_many a_lands a_evenings a_sights a_choirs f_reached f_length f_begins f_sort f_value f_word f_wrongAt f_laterFault f_laterPlace a_told a_read f_farHut f_farSinger f_good f_land f_huts f_singers f_evening a_at a_knows a_climbed a_snow a_level f_begun f_minute f_avalanches a_run a_covers a_routes a_longest a_steep a_laid a_far f_sight a_runs f_choir f_voices a_rest a_wins f_seed a_other a_kept s.heap)
    (hP73 : ∀ (x3 : Int32) (x4 : Int32) (x5 : Int32) (ls : Array Slot), P73 x3 x4 x5 → lv_has ls 9 [(0, .ref q), (3, .int x3), (4, .int x4), (5, .int x5)] → W p l e rm_m_taught s m args below meth c s.heap [] 0 0 (MQ below (vp_Si post) args s 0 0 (fun _ => False)) (F0 m 73 ls []))
    (hP210 : ∀ (x3 : Int32) (x8 : Int32) (ls : Array Slot), P210 x3 x8 → lv_has ls 9 [(0, .ref q), (3, .int x3), (4, .int x4), (5, .int x5), (7, .int x7), (8, .int x8)] → W p l e rm_m_taught s m args below meth c s.heap [] 0 0 (MQ below (vp_Si post) args s 0 0 (fun _ => False)) (F0 m 210 ls []))
    (hl : lv_has ls 9 [(0, .ref q), (4, .int x4), (5, .int x5), (7, .int x7), (8, .int x8)])
    (hw : q_m_taught_243 P73 P210 a_lands f_land f_singers a_at a_knows a_climbed a_level f_begun x4 x5 x7 x8 y0 y1 post) :
    W p l e rm_m_taught s m args below meth c s.heap [] 0 0 (MQ below (vp_Si post) args s 0 0 (fun _ => False)) (F0 m 243 ls [.int y1, .int y0]) := by
  have hx := zc.1
  have hb := zc.2.1
  refine lv_ior hx hb dX11_taught_243 ?_
  refine lv_topi (fun v_1 ev_1 => ?_)
  have hw := hw v_1 ev_1
  refine lv_istore_n (lv' := [(3, .int v_1), (0, .ref q), (4, .int x4), (5, .int x5), (7, .int x7), (8, .int x8)]) hx hb dX11_taught_244 rfl hl (by decide) rfl (fun ls hl => ?_)
  obtain ⟨v_2, ev_2⟩ : ∃ y : Int32, y = x8 + (1 : Int32) := ⟨_, rfl⟩
  have hw := hw v_2 ev_2
  refine lv_iinc (v := v_2) (k := 5) (lv' := [(8, .int v_2), (3, .int v_1), (0, .ref q), (4, .int x4), (5, .int x5), (7, .int x7)]) hx hb dX11_taught_245 hl rfl (by rw [ev_2]; rfl) (by decide) rfl (fun ls hl => ?_)
  refine lv_goto (tgt := 210) hx hb dX11_taught_248 (by decide) ?_
  exact hP210 _ _ _ hw (lv_sub hl [2, 1, 3, 4, 5, 0] rfl)
set_option maxRecDepth 20000 in
theorem t_m_taught_210 {p : Program} {l : Launch} {e : Env} {s : State} {m : MethodId} {args : Array Value} {below : List Frame} {meth : Method} {c : Code} {E : zE} {q : Nat} {f_code : Int32} {a_tape : Nat → Int32} {a_size : Nat → Int32} {a_fault : Nat → Int32} {a_faultPlace : Nat → Int32} {a_many : Nat → Int32} {a_lands : Nat → Int32} {a_evenings : Nat → Int32} {a_sights : Nat → Int32} {a_choirs : Nat → Int32} {f_reached : Int32} {f_length : Int32} {f_begins : Int32} {f_sort : Int32} {f_value : Int32} {f_word : Int64} {f_wrongAt : Int32} {f_laterFault : Int32} {f_laterPlace : Int32} {a_told : Nat → Int32} {a_read : Nat → Int32} {f_farHut : Int32} {f_farSinger : Int32} {f_good : Int32} {f_land : Int32} {f_huts : Int32} {f_singers : Int32} {f_evening : Int32} {a_at : Nat → Int32} {a_knows : Nat → Int32} {a_climbed : Nat → Int32} {a_snow : Nat → Int32} {a_level : Nat → Int32} {f_begun : Int32} {f_minute : Int32} {f_avalanches : Int32} {a_run : Nat → Int32} {a_covers : Nat → Int32} {a_routes : Nat → Int32} {a_longest : Nat → Int32} {a_steep : Nat → Int32} {a_laid : Nat → Int32} {a_far : Nat → Int32} {f_sight : Int32} {a_runs : Nat → Int32} {f_choir : Int32} {f_voices : Int32} {a_rest : Nat → Int64} {a_wins : Nat → Int32} {f_seed : Int32} {a_other : Nat → Int32} {a_kept : Nat → Int32} {P73 : Int32 → Int32 → Int32 → Prop} {post : Int32 → Prop} {x3 : Int32} {x4 : Int32} {x5 : Int32} {x7 : Int32} {x8 : Int32} {ls : Array Slot}
    (zc : zC p s m args meth c cX11_taught 9 RX11 (some .int))
    (hK : zK E s)
    (hM : mW E q f_code a_tape a_size a_fault a_faultPlace a_many a_lands a_evenings a_sights a_choirs f_reached f_length f_begins f_sort f_value f_word f_wrongAt f_laterFault f_laterPlace a_told a_read f_farHut f_farSinger f_good f_land f_huts f_singers f_evening a_at a_knows a_climbed a_snow a_level f_begun f_minute f_avalanches a_run a_covers a_routes a_longest a_steep a_laid a_far f_sight a_runs f_choir f_voices a_rest a_wins f_seed a_other a_kept s.heap)
    (hP73 : ∀ (x3 : Int32) (x4 : Int32) (x5 : Int32) (ls : Array Slot), P73 x3 x4 x5 → lv_has ls 9 [(0, .ref q), (3, .int x3), (4, .int x4), (5, .int x5)] → W p l e rm_m_taught s m args below meth c s.heap [] 0 0 (MQ below (vp_Si post) args s 0 0 (fun _ => False)) (F0 m 73 ls []))
    (hl : lv_has ls 9 [(0, .ref q), (3, .int x3), (4, .int x4), (5, .int x5), (7, .int x7), (8, .int x8)])
    (hw : q_m_taught_210 P73 a_lands f_land f_singers a_at a_knows a_climbed a_level f_begun x3 x4 x5 x7 x8 post) :
    W p l e rm_m_taught s m args below meth c s.heap [] 0 0 (MQ below (vp_Si post) args s 0 0 (fun _ => False)) (F0 m 210 ls []) := by
  have hx := zc.1
  have hb := zc.2.1
  refine hw (fun x3 x8 => ∀ (ls : Array Slot), lv_has ls 9 [(0, .ref q), (3, .int x3), (4, .int x4), (5, .int x5), (7, .int x7), (8, .int x8)] → W p l e rm_m_taught s m args below meth c s.heap [] 0 0 (MQ below (vp_Si post) args s 0 0 (fun _ => False)) (F0 m 210 ls [])) ?_ _ hl
  intro x3 x8 hw ls hl
  refine lv_iload hx hb dX11_taught_210 (lv_at hl 5 rfl) ?_
  refine lv_aload_n hx hb dX11_taught_212 rfl (lv_at hl 0 rfl) ?_
  refine mg_11_310_0 zc hK hM dX11_taught_213 ?_
  refine lv_icmp_ge (tgt := 251) hx hb dX11_taught_216 (by decide) (fun hc => ?_) (fun hc => ?_)
  · have hw := hw.1 hc
    refine lv_goto (tgt := 73) hx hb dX11_taught_251 (by decide) ?_
    exact hP73 _ _ _ _ hw (lv_sub hl [0, 1, 2, 3] rfl)
  · have hw := hw.2 hc
    refine lv_iload_n hx hb dX11_taught_219 rfl (lv_at hl 1 rfl) ?_
    refine lv_iload hx hb dX11_taught_220 (lv_at hl 4 rfl) ?_
    refine lv_aload_n hx hb dX11_taught_222 rfl (lv_at hl 0 rfl) ?_
    refine mg_11_44_0 zc hK hM dX11_taught_223 ?_
    refine lv_iload hx hb dX11_taught_226 (lv_at hl 5 rfl) ?_
    refine mld_12 zc hK hM hw.1 dX11_taught_228 ?_
    have hw := hw.2
    refine zS_i [.int x7, .int (a_at (Int32.toNatClampNeg x8))] [.int x3] zc ky_X11_has kz_X11_has km_11_101 (c_m_has l hw) (zPre0 _) rfl rfl hl.1 (Nat.le_of_ble_eq_true rfl) ⟨rfl, rfl⟩ ⟨Nat.le_of_ble_eq_true rfl, Nat.le_of_ble_eq_true rfl⟩ ⟨(Nat.zero_le _), (Nat.zero_le _)⟩ dX11_taught_229 (fun r_1 hw => ?_)
    refine lv_if_eq (tgt := 242) hx hb dX11_taught_232 (by decide) (fun hc => ?_) (fun hc => ?_)
    · have hw := hw.1 hc
      refine lv_iconst (v := (0 : Int32)) hx hb dX11_taught_242 (by decide) ?_
      exact t_m_taught_243 zc hK hM hP73 (fun _ _ ls h hl => h ls hl) (lv_sub hl [0, 2, 3, 4, 5] rfl) hw
    · have hw := hw.2 hc
      refine lv_iconst (v := (1 : Int32)) hx hb dX11_taught_235 (by decide) ?_
      refine lv_iload hx hb dX11_taught_236 (lv_at hl 5 rfl) ?_
      refine lv_ishl hx hb dX11_taught_238 ?_
      refine lv_goto (tgt := 243) hx hb dX11_taught_239 (by decide) ?_
      exact t_m_taught_243 zc hK hM hP73 (fun _ _ ls h hl => h ls hl) (lv_sub hl [0, 2, 3, 4, 5] rfl) hw
set_option maxRecDepth 20000 in
theorem t_m_taught_84 {p : Program} {l : Launch} {e : Env} {s : State} {m : MethodId} {args : Array Value} {below : List Frame} {meth : Method} {c : Code} {E : zE} {q : Nat} {f_code : Int32} {a_tape : Nat → Int32} {a_size : Nat → Int32} {a_fault : Nat → Int32} {a_faultPlace : Nat → Int32} {a_many : Nat → Int32} {a_lands : Nat → Int32} {a_evenings : Nat → Int32} {a_sights : Nat → Int32} {a_choirs : Nat → Int32} {f_reached : Int32} {f_length : Int32} {f_begins : Int32} {f_sort : Int32} {f_value : Int32} {f_word : Int64} {f_wrongAt : Int32} {f_laterFault : Int32} {f_laterPlace : Int32} {a_told : Nat → Int32} {a_read : Nat → Int32} {f_farHut : Int32} {f_farSinger : Int32} {f_good : Int32} {f_land : Int32} {f_huts : Int32} {f_singers : Int32} {f_evening : Int32} {a_at : Nat → Int32} {a_knows : Nat → Int32} {a_climbed : Nat → Int32} {a_snow : Nat → Int32} {a_level : Nat → Int32} {f_begun : Int32} {f_minute : Int32} {f_avalanches : Int32} {a_run : Nat → Int32} {a_covers : Nat → Int32} {a_routes : Nat → Int32} {a_longest : Nat → Int32} {a_steep : Nat → Int32} {a_laid : Nat → Int32} {a_far : Nat → Int32} {f_sight : Int32} {a_runs : Nat → Int32} {f_choir : Int32} {f_voices : Int32} {a_rest : Nat → Int64} {a_wins : Nat → Int32} {f_seed : Int32} {a_other : Nat → Int32} {a_kept : Nat → Int32} {P73 : Int32 → Int32 → Int32 → Prop} {post : Int32 → Prop} {x3 : Int32} {x4 : Int32} {x5 : Int32} {x6 : Int32} {x7 : Int32} {ls : Array Slot}
    (zc : zC p s m args meth c cX11_taught 9 RX11 (some .int))
    (hK : zK E s)
    (hM : mW E q f_code a_tape a_size a_fault a_faultPlace a_many a_lands a_evenings a_sights a_choirs f_reached f_length f_begins f_sort f_value f_word f_wrongAt f_laterFault f_laterPlace a_told a_read f_farHut f_farSinger f_good f_land f_huts f_singers f_evening a_at a_knows a_climbed a_snow a_level f_begun f_minute f_avalanches a_run a_covers a_routes a_longest a_steep a_laid a_far f_sight a_runs f_choir f_voices a_rest a_wins f_seed a_other a_kept s.heap)
    (hP73 : ∀ (x3 : Int32) (x4 : Int32) (x5 : Int32) (ls : Array Slot), P73 x3 x4 x5 → lv_has ls 9 [(0, .ref q), (3, .int x3), (4, .int x4), (5, .int x5)] → W p l e rm_m_taught s m args below meth c s.heap [] 0 0 (MQ below (vp_Si post) args s 0 0 (fun _ => False)) (F0 m 73 ls []))
    (hl : lv_has ls 9 [(0, .ref q), (3, .int x3), (4, .int x4), (5, .int x5), (6, .int x6), (7, .int x7)])
    (hw : q_m_taught_84 P73 a_lands f_land f_singers a_at a_knows a_climbed a_level f_begun x3 x4 x5 x6 x7 post) :
    W p l e rm_m_taught s m args below meth c s.heap [] 0 0 (MQ below (vp_Si post) args s 0 0 (fun _ => False)) (F0 m 84 ls []) := by
  have hx := zc.1
  have hb := zc.2.1
  refine hw (fun x6 x7 => ∀ (ls : Array Slot), lv_has ls 9 [(0, .ref q), (3, .int x3), (4, .int x4), (5, .int x5), (6, .int x6), (7, .int x7)] → W p l e rm_m_taught s m args below meth c s.heap [] 0 0 (MQ below (vp_Si post) args s 0 0 (fun _ => False)) (F0 m 84 ls [])) ?_ _ hl
  intro x6 x7 hw ls hl
  refine lv_iload hx hb dX11_taught_84 (lv_at hl 5 rfl) ?_
  refine lv_aload_n hx hb dX11_taught_86 rfl (lv_at hl 0 rfl) ?_
  refine mg_11_310_0 zc hK hM dX11_taught_87 ?_
  refine lv_icmp_ge (tgt := 139) hx hb dX11_taught_90 (by decide) (fun hc => ?_) (fun hc => ?_)
  · have hw := hw.1 hc
    refine lv_iload_n hx hb dX11_taught_139 rfl (lv_at hl 1 rfl) ?_
    refine lv_iload hx hb dX11_taught_140 (lv_at hl 4 rfl) ?_
    refine zS_i [.int x3, .int x6] [] zc ky_X11_has kz_X11_has km_11_101 (c_m_has l hw) (zPre0 _) rfl rfl hl.1 (Nat.le_of_ble_eq_true rfl) ⟨rfl, rfl⟩ ⟨Nat.le_of_ble_eq_true rfl, Nat.le_of_ble_eq_true rfl⟩ ⟨(Nat.zero_le _), (Nat.zero_le _)⟩ dX11_taught_142 (fun r_1 hw => ?_)
    refine lv_if_eq (tgt := 173) hx hb dX11_taught_145 (by decide) (fun hc => ?_) (fun hc => ?_)
    · have hw := hw.1 hc
      refine lv_iconst (v := (-1 : Int32)) hx hb dX11_taught_173 (by decide) ?_
      exact zret_i zc hw dX11_taught_174
    · have hw := hw.2 hc
      refine lv_aload_n hx hb dX11_taught_148 rfl (lv_at hl 0 rfl) ?_
      refine lv_iload hx hb dX11_taught_149 (lv_at hl 4 rfl) ?_
      refine zV_i [.int x6] [] zc ky_X11_high kz_X11_high km_11_352 (c_m_high l hw) (mPreV0 hK hM) rfl rfl hl.1 (Nat.le_of_ble_eq_true rfl) ⟨rfl, rfl⟩ ⟨Nat.le_of_ble_eq_true rfl, Nat.le_of_ble_eq_true rfl⟩ ⟨(Nat.zero_le _), (Nat.zero_le _)⟩ dX11_taught_151 (fun r_2 hw => ?_)
      refine lv_iload hx hb dX11_taught_154 (lv_at hl 2 rfl) ?_
      refine lv_icmp_ge (tgt := 173) hx hb dX11_taught_156 (by decide) (fun hc => ?_) (fun hc => ?_)
      · have hw := hw.1 hc
        refine lv_iconst (v := (-1 : Int32)) hx hb dX11_taught_173 (by decide) ?_
        exact zret_i zc hw dX11_taught_174
      · have hw := hw.2 hc
        refine lv_aload_n hx hb dX11_taught_159 rfl (lv_at hl 0 rfl) ?_
        refine lv_aload_n hx hb dX11_taught_160 rfl (lv_at hl 0 rfl) ?_
        refine mg_11_44_0 zc hK hM dX11_taught_161 ?_
        refine lv_iload hx hb dX11_taught_164 (lv_at hl 4 rfl) ?_
        refine mld_12 zc hK hM hw.1 dX11_taught_166 ?_
        have hw := hw.2
        refine zV_i [.int (a_at (Int32.toNatClampNeg x6))] [] zc ky_X11_isDam kz_X11_isDam km_11_355 (c_m_isDam l hw) (mPreV0 hK hM) rfl rfl hl.1 (Nat.le_of_ble_eq_true rfl) ⟨rfl, rfl⟩ ⟨Nat.le_of_ble_eq_true rfl, Nat.le_of_ble_eq_true rfl⟩ ⟨(Nat.zero_le _), (Nat.zero_le _)⟩ dX11_taught_167 (fun r_3 hw => ?_)
        refine lv_if_eq (tgt := 175) hx hb dX11_taught_170 (by decide) (fun hc => ?_) (fun hc => ?_)
        · have hw := hw.1 hc
          refine lv_aload_n hx hb dX11_taught_175 rfl (lv_at hl 0 rfl) ?_
          refine lv_iload hx hb dX11_taught_176 (lv_at hl 4 rfl) ?_
          refine zV_i [.int x6] [] zc ky_X11_high kz_X11_high km_11_352 (c_m_high l hw) (mPreV0 hK hM) rfl rfl hl.1 (Nat.le_of_ble_eq_true rfl) ⟨rfl, rfl⟩ ⟨Nat.le_of_ble_eq_true rfl, Nat.le_of_ble_eq_true rfl⟩ ⟨(Nat.zero_le _), (Nat.zero_le _)⟩ dX11_taught_178 (fun r_4 hw => ?_)
          refine lv_istore (lv' := [(4, .int r_4), (0, .ref q), (3, .int x3), (5, .int x5), (6, .int x6), (7, .int x7)]) hx hb dX11_taught_181 hl (by decide) rfl (fun ls hl => ?_)
          refine lv_iload hx hb dX11_taught_183 (lv_at hl 3 rfl) ?_
          refine lv_iconst (v := (1 : Int32)) hx hb dX11_taught_185 (by decide) ?_
          refine lv_iload hx hb dX11_taught_186 (lv_at hl 4 rfl) ?_
          refine lv_ishl hx hb dX11_taught_188 ?_
          refine lv_iconst (v := (-1 : Int32)) hx hb dX11_taught_189 (by decide) ?_
          refine lv_ixor hx hb dX11_taught_190 ?_
          refine lv_iand hx hb dX11_taught_191 ?_
          refine lv_topi (fun v_1 ev_1 => ?_)
          have hw := hw v_1 ev_1
          refine lv_istore (lv' := [(5, .int v_1), (4, .int r_4), (0, .ref q), (3, .int x3), (6, .int x6), (7, .int x7)]) hx hb dX11_taught_192 hl (by decide) rfl (fun ls hl => ?_)
          refine lv_aload_n hx hb dX11_taught_194 rfl (lv_at hl 2 rfl) ?_
          refine lv_aload_n hx hb dX11_taught_195 rfl (lv_at hl 2 rfl) ?_
          refine mg_11_44_0 zc hK hM dX11_taught_196 ?_
          refine lv_iload hx hb dX11_taught_199 (lv_at hl 4 rfl) ?_
          refine mld_12 zc hK hM hw.1 dX11_taught_201 ?_
          have hw := hw.2
          refine zV_i [.int (a_at (Int32.toNatClampNeg x6))] [] zc ky_X11_hearing kz_X11_hearing km_11_349 (c_m_hearing l hw) (mPreV0 hK hM) rfl rfl hl.1 (Nat.le_of_ble_eq_true rfl) ⟨rfl, rfl⟩ ⟨Nat.le_of_ble_eq_true rfl, Nat.le_of_ble_eq_true rfl⟩ ⟨(Nat.zero_le _), (Nat.zero_le _)⟩ dX11_taught_202 (fun r_5 hw => ?_)
          refine lv_istore (lv' := [(7, .int r_5), (5, .int v_1), (4, .int r_4), (0, .ref q), (3, .int x3), (6, .int x6)]) hx hb dX11_taught_205 hl (by decide) rfl (fun ls hl => ?_)
          refine lv_iconst (v := (0 : Int32)) hx hb dX11_taught_207 (by decide) ?_
          refine lv_istore (lv' := [(8, .int (0 : Int32)), (7, .int r_5), (5, .int v_1), (4, .int r_4), (0, .ref q), (3, .int x3), (6, .int x6)]) hx hb dX11_taught_208 hl (by decide) rfl (fun ls hl => ?_)
          exact t_m_taught_210 zc hK hM hP73 (lv_sub hl [4, 5, 3, 2, 1, 0] rfl) hw
        · have hw := hw.2 hc
          refine lv_iconst (v := (-1 : Int32)) hx hb dX11_taught_173 (by decide) ?_
          exact zret_i zc hw dX11_taught_174
  · have hw := hw.2 hc
    refine lv_iload hx hb dX11_taught_93 (lv_at hl 3 rfl) ?_
    refine lv_iload hx hb dX11_taught_95 (lv_at hl 5 rfl) ?_
    refine zS_i [.int x5, .int x7] [] zc ky_X11_has kz_X11_has km_11_101 (c_m_has l hw) (zPre0 _) rfl rfl hl.1 (Nat.le_of_ble_eq_true rfl) ⟨rfl, rfl⟩ ⟨Nat.le_of_ble_eq_true rfl, Nat.le_of_ble_eq_true rfl⟩ ⟨(Nat.zero_le _), (Nat.zero_le _)⟩ dX11_taught_97 (fun r_6 hw => ?_)
    refine lv_if_eq (tgt := 129) hx hb dX11_taught_100 (by decide) (fun hc => ?_) (fun hc => ?_)
    · have hw := hw.1 hc
      exact t_m_taught_129 zc hK hM hP73 (fun _ _ ls h hl => h ls hl) (lv_sub hl [0, 1, 2, 3, 4, 5] rfl) hw
    · have hw := hw.2 hc
      refine lv_iload hx hb dX11_taught_103 (lv_at hl 4 rfl) ?_
      refine lv_iconst (v := (-1 : Int32)) hx hb dX11_taught_105 (by decide) ?_
      refine lv_icmp_eq (tgt := 124) hx hb dX11_taught_106 (by decide) (fun hc => ?_) (fun hc => ?_)
      · have hw := hw.1 hc
        exact t_m_taught_124 zc hK hM hP73 (fun _ _ ls h hl => h ls hl) (lv_sub hl [0, 1, 2, 3, 5] rfl) hw
      · have hw := hw.2 hc
        refine lv_aload_n hx hb dX11_taught_109 rfl (lv_at hl 0 rfl) ?_
        refine lv_iload hx hb dX11_taught_110 (lv_at hl 5 rfl) ?_
        refine zV_i [.int x7] [] zc ky_X11_high kz_X11_high km_11_352 (c_m_high l hw) (mPreV0 hK hM) rfl rfl hl.1 (Nat.le_of_ble_eq_true rfl) ⟨rfl, rfl⟩ ⟨Nat.le_of_ble_eq_true rfl, Nat.le_of_ble_eq_true rfl⟩ ⟨(Nat.zero_le _), (Nat.zero_le _)⟩ dX11_taught_112 (fun r_7 hw => ?_)
        refine lv_aload_n hx hb dX11_taught_115 rfl (lv_at hl 0 rfl) ?_
        refine lv_iload hx hb dX11_taught_116 (lv_at hl 4 rfl) ?_
        refine zV_i [.int x6] [.int r_7] zc ky_X11_high kz_X11_high km_11_352 (c_m_high l hw) (mPreV0 hK hM) rfl rfl hl.1 (Nat.le_of_ble_eq_true rfl) ⟨rfl, rfl⟩ ⟨Nat.le_of_ble_eq_true rfl, Nat.le_of_ble_eq_true rfl⟩ ⟨(Nat.zero_le _), (Nat.zero_le _)⟩ dX11_taught_118 (fun r_8 hw => ?_)
        refine lv_icmp_le (tgt := 129) hx hb dX11_taught_121 (by decide) (fun hc => ?_) (fun hc => ?_)
        · have hw := hw.1 hc
          exact t_m_taught_129 zc hK hM hP73 (fun _ _ ls h hl => h ls hl) (lv_sub hl [0, 1, 2, 3, 4, 5] rfl) hw
        · have hw := hw.2 hc
          exact t_m_taught_124 zc hK hM hP73 (fun _ _ ls h hl => h ls hl) (lv_sub hl [0, 1, 2, 3, 5] rfl) hw
set_option maxRecDepth 20000 in
theorem t_m_taught_73 {p : Program} {l : Launch} {e : Env} {s : State} {m : MethodId} {args : Array Value} {below : List Frame} {meth : Method} {c : Code} {E : zE} {q : Nat} {f_code : Int32} {a_tape : Nat → Int32} {a_size : Nat → Int32} {a_fault : Nat → Int32} {a_faultPlace : Nat → Int32} {a_many : Nat → Int32} {a_lands : Nat → Int32} {a_evenings : Nat → Int32} {a_sights : Nat → Int32} {a_choirs : Nat → Int32} {f_reached : Int32} {f_length : Int32} {f_begins : Int32} {f_sort : Int32} {f_value : Int32} {f_word : Int64} {f_wrongAt : Int32} {f_laterFault : Int32} {f_laterPlace : Int32} {a_told : Nat → Int32} {a_read : Nat → Int32} {f_farHut : Int32} {f_farSinger : Int32} {f_good : Int32} {f_land : Int32} {f_huts : Int32} {f_singers : Int32} {f_evening : Int32} {a_at : Nat → Int32} {a_knows : Nat → Int32} {a_climbed : Nat → Int32} {a_snow : Nat → Int32} {a_level : Nat → Int32} {f_begun : Int32} {f_minute : Int32} {f_avalanches : Int32} {a_run : Nat → Int32} {a_covers : Nat → Int32} {a_routes : Nat → Int32} {a_longest : Nat → Int32} {a_steep : Nat → Int32} {a_laid : Nat → Int32} {a_far : Nat → Int32} {f_sight : Int32} {a_runs : Nat → Int32} {f_choir : Int32} {f_voices : Int32} {a_rest : Nat → Int64} {a_wins : Nat → Int32} {f_seed : Int32} {a_other : Nat → Int32} {a_kept : Nat → Int32} {post : Int32 → Prop} {x3 : Int32} {x4 : Int32} {x5 : Int32} {ls : Array Slot}
    (zc : zC p s m args meth c cX11_taught 9 RX11 (some .int))
    (hK : zK E s)
    (hM : mW E q f_code a_tape a_size a_fault a_faultPlace a_many a_lands a_evenings a_sights a_choirs f_reached f_length f_begins f_sort f_value f_word f_wrongAt f_laterFault f_laterPlace a_told a_read f_farHut f_farSinger f_good f_land f_huts f_singers f_evening a_at a_knows a_climbed a_snow a_level f_begun f_minute f_avalanches a_run a_covers a_routes a_longest a_steep a_laid a_far f_sight a_runs f_choir f_voices a_rest a_wins f_seed a_other a_kept s.heap)
    (hl : lv_has ls 9 [(0, .ref q), (3, .int x3), (4, .int x4), (5, .int x5)])
    (hw : q_m_taught_73 a_lands f_land f_singers a_at a_knows a_climbed a_level f_begun x3 x4 x5 post) :
    W p l e rm_m_taught s m args below meth c s.heap [] 0 0 (MQ below (vp_Si post) args s 0 0 (fun _ => False)) (F0 m 73 ls []) := by
  have hx := zc.1
  have hb := zc.2.1
  refine hw (fun x3 x4 x5 => ∀ (ls : Array Slot), lv_has ls 9 [(0, .ref q), (3, .int x3), (4, .int x4), (5, .int x5)] → W p l e rm_m_taught s m args below meth c s.heap [] 0 0 (MQ below (vp_Si post) args s 0 0 (fun _ => False)) (F0 m 73 ls [])) ?_ _ hl
  intro x3 x4 x5 hw ls hl
  refine lv_iload hx hb dX11_taught_73 (lv_at hl 3 rfl) ?_
  refine lv_if_eq (tgt := 254) hx hb dX11_taught_75 (by decide) (fun hc => ?_) (fun hc => ?_)
  · have hw := hw.1 hc
    refine lv_iload_n hx hb dX11_taught_254 rfl (lv_at hl 1 rfl) ?_
    exact zret_i zc hw dX11_taught_255
  · have hw := hw.2 hc
    refine lv_iconst (v := (-1 : Int32)) hx hb dX11_taught_78 (by decide) ?_
    refine lv_istore (lv' := [(6, .int (-1 : Int32)), (0, .ref q), (3, .int x3), (4, .int x4), (5, .int x5)]) hx hb dX11_taught_79 hl (by decide) rfl (fun ls hl => ?_)
    refine lv_iconst (v := (0 : Int32)) hx hb dX11_taught_81 (by decide) ?_
    refine lv_istore (lv' := [(7, .int (0 : Int32)), (6, .int (-1 : Int32)), (0, .ref q), (3, .int x3), (4, .int x4), (5, .int x5)]) hx hb dX11_taught_82 hl (by decide) rfl (fun ls hl => ?_)
    exact t_m_taught_84 zc hK hM (fun _ _ _ ls h hl => h ls hl) (lv_sub hl [2, 3, 4, 5, 1, 0] rfl) hw
set_option maxRecDepth 20000 in
theorem t_m_taught_33 {p : Program} {l : Launch} {e : Env} {s : State} {m : MethodId} {args : Array Value} {below : List Frame} {meth : Method} {c : Code} {E : zE} {q : Nat} {f_code : Int32} {a_tape : Nat → Int32} {a_size : Nat → Int32} {a_fault : Nat → Int32} {a_faultPlace : Nat → Int32} {a_many : Nat → Int32} {a_lands : Nat → Int32} {a_evenings : Nat → Int32} {a_sights : Nat → Int32} {a_choirs : Nat → Int32} {f_reached : Int32} {f_length : Int32} {f_begins : Int32} {f_sort : Int32} {f_value : Int32} {f_word : Int64} {f_wrongAt : Int32} {f_laterFault : Int32} {f_laterPlace : Int32} {a_told : Nat → Int32} {a_read : Nat → Int32} {f_farHut : Int32} {f_farSinger : Int32} {f_good : Int32} {f_land : Int32} {f_huts : Int32} {f_singers : Int32} {f_evening : Int32} {a_at : Nat → Int32} {a_knows : Nat → Int32} {a_climbed : Nat → Int32} {a_snow : Nat → Int32} {a_level : Nat → Int32} {f_begun : Int32} {f_minute : Int32} {f_avalanches : Int32} {a_run : Nat → Int32} {a_covers : Nat → Int32} {a_routes : Nat → Int32} {a_longest : Nat → Int32} {a_steep : Nat → Int32} {a_laid : Nat → Int32} {a_far : Nat → Int32} {f_sight : Int32} {a_runs : Nat → Int32} {f_choir : Int32} {f_voices : Int32} {a_rest : Nat → Int64} {a_wins : Nat → Int32} {f_seed : Int32} {a_other : Nat → Int32} {a_kept : Nat → Int32} {post : Int32 → Prop} {x2 : Int32} {x3 : Int32} {x4 : Int32} {x5 : Int32} {x6 : Int32} {ls : Array Slot}
    (zc : zC p s m args meth c cX11_taught 9 RX11 (some .int))
    (hK : zK E s)
    (hM : mW E q f_code a_tape a_size a_fault a_faultPlace a_many a_lands a_evenings a_sights a_choirs f_reached f_length f_begins f_sort f_value f_word f_wrongAt f_laterFault f_laterPlace a_told a_read f_farHut f_farSinger f_good f_land f_huts f_singers f_evening a_at a_knows a_climbed a_snow a_level f_begun f_minute f_avalanches a_run a_covers a_routes a_longest a_steep a_laid a_far f_sight a_runs f_choir f_voices a_rest a_wins f_seed a_other a_kept s.heap)
    (hl : lv_has ls 9 [(0, .ref q), (2, .int x2), (3, .int x3), (4, .int x4), (5, .int x5), (6, .int x6)])
    (hw : q_m_taught_33 a_lands f_land f_singers a_at a_knows a_climbed a_level f_begun x2 x3 x4 x5 x6 post) :
    W p l e rm_m_taught s m args below meth c s.heap [] 0 0 (MQ below (vp_Si post) args s 0 0 (fun _ => False)) (F0 m 33 ls []) := by
  have hx := zc.1
  have hb := zc.2.1
  refine hw (fun x3 x6 => ∀ (ls : Array Slot), lv_has ls 9 [(0, .ref q), (2, .int x2), (3, .int x3), (4, .int x4), (5, .int x5), (6, .int x6)] → W p l e rm_m_taught s m args below meth c s.heap [] 0 0 (MQ below (vp_Si post) args s 0 0 (fun _ => False)) (F0 m 33 ls [])) ?_ _ hl
  intro x3 x6 hw ls hl
  refine lv_iload hx hb dX11_taught_33 (lv_at hl 5 rfl) ?_
  refine lv_aload_n hx hb dX11_taught_35 rfl (lv_at hl 0 rfl) ?_
  refine mg_11_310_0 zc hK hM dX11_taught_36 ?_
  refine lv_icmp_ge (tgt := 73) hx hb dX11_taught_39 (by decide) (fun hc => ?_) (fun hc => ?_)
  · have hw := hw.1 hc
    exact t_m_taught_73 zc hK hM  (lv_sub hl [0, 2, 3, 4] rfl) hw
  · have hw := hw.2 hc
    refine lv_iload_n hx hb dX11_taught_42 rfl (lv_at hl 2 rfl) ?_
    refine lv_aload_n hx hb dX11_taught_43 rfl (lv_at hl 0 rfl) ?_
    refine mg_11_47_0 zc hK hM dX11_taught_44 ?_
    refine lv_iload hx hb dX11_taught_47 (lv_at hl 5 rfl) ?_
    refine mld_13 zc hK hM hw.1 dX11_taught_49 ?_
    have hw := hw.2
    refine lv_iload_n hx hb dX11_taught_50 rfl (lv_at hl 1 rfl) ?_
    refine zS_i [.int (a_knows (Int32.toNatClampNeg x6)), .int x2] [.int x3] zc ky_X11_has kz_X11_has km_11_101 (c_m_has l hw) (zPre0 _) rfl rfl hl.1 (Nat.le_of_ble_eq_true rfl) ⟨rfl, rfl⟩ ⟨Nat.le_of_ble_eq_true rfl, Nat.le_of_ble_eq_true rfl⟩ ⟨(Nat.zero_le _), (Nat.zero_le _)⟩ dX11_taught_51 (fun r_1 hw => ?_)
    refine lv_if_eq (tgt := 64) hx hb dX11_taught_54 (by decide) (fun hc => ?_) (fun hc => ?_)
    · have hw := hw.1 hc
      refine lv_iconst (v := (0 : Int32)) hx hb dX11_taught_64 (by decide) ?_
      exact t_m_taught_65 zc hK hM (fun _ _ ls h hl => h ls hl) (lv_sub hl [0, 1, 3, 4, 5] rfl) hw
    · have hw := hw.2 hc
      refine lv_iconst (v := (1 : Int32)) hx hb dX11_taught_57 (by decide) ?_
      refine lv_iload hx hb dX11_taught_58 (lv_at hl 5 rfl) ?_
      refine lv_ishl hx hb dX11_taught_60 ?_
      refine lv_goto (tgt := 65) hx hb dX11_taught_61 (by decide) ?_
      exact t_m_taught_65 zc hK hM (fun _ _ ls h hl => h ls hl) (lv_sub hl [0, 1, 3, 4, 5] rfl) hw
set_option maxRecDepth 20000 in
theorem t_m_taught_25 {p : Program} {l : Launch} {e : Env} {s : State} {m : MethodId} {args : Array Value} {below : List Frame} {meth : Method} {c : Code} {E : zE} {q : Nat} {f_code : Int32} {a_tape : Nat → Int32} {a_size : Nat → Int32} {a_fault : Nat → Int32} {a_faultPlace : Nat → Int32} {a_many : Nat → Int32} {a_lands : Nat → Int32} {a_evenings : Nat → Int32} {a_sights : Nat → Int32} {a_choirs : Nat → Int32} {f_reached : Int32} {f_length : Int32} {f_begins : Int32} {f_sort : Int32} {f_value : Int32} {f_word : Int64} {f_wrongAt : Int32} {f_laterFault : Int32} {f_laterPlace : Int32} {a_told : Nat → Int32} {a_read : Nat → Int32} {f_farHut : Int32} {f_farSinger : Int32} {f_good : Int32} {f_land : Int32} {f_huts : Int32} {f_singers : Int32} {f_evening : Int32} {a_at : Nat → Int32} {a_knows : Nat → Int32} {a_climbed : Nat → Int32} {a_snow : Nat → Int32} {a_level : Nat → Int32} {f_begun : Int32} {f_minute : Int32} {f_avalanches : Int32} {a_run : Nat → Int32} {a_covers : Nat → Int32} {a_routes : Nat → Int32} {a_longest : Nat → Int32} {a_steep : Nat → Int32} {a_laid : Nat → Int32} {a_far : Nat → Int32} {f_sight : Int32} {a_runs : Nat → Int32} {f_choir : Int32} {f_voices : Int32} {a_rest : Nat → Int64} {a_wins : Nat → Int32} {f_seed : Int32} {a_other : Nat → Int32} {a_kept : Nat → Int32} {post : Int32 → Prop} {x1 : Int32} {x2 : Int32} {x3 : Int32} {y0 : Int32} {ls : Array Slot}
    (zc : zC p s m args meth c cX11_taught 9 RX11 (some .int))
    (hK : zK E s)
    (hM : mW E q f_code a_tape a_size a_fault a_faultPlace a_many a_lands a_evenings a_sights a_choirs f_reached f_length f_begins f_sort f_value f_word f_wrongAt f_laterFault f_laterPlace a_told a_read f_farHut f_farSinger f_good f_land f_huts f_singers f_evening a_at a_knows a_climbed a_snow a_level f_begun f_minute f_avalanches a_run a_covers a_routes a_longest a_steep a_laid a_far f_sight a_runs f_choir f_voices a_rest a_wins f_seed a_other a_kept s.heap)
    (hl : lv_has ls 9 [(0, .ref q), (1, .int x1), (2, .int x2), (3, .int x3)])
    (hw : q_m_taught_25 a_lands f_land f_singers a_at a_knows a_climbed a_level f_begun x1 x2 x3 y0 post) :
    W p l e rm_m_taught s m args below meth c s.heap [] 0 0 (MQ below (vp_Si post) args s 0 0 (fun _ => False)) (F0 m 25 ls [.int y0]) := by
  have hx := zc.1
  have hb := zc.2.1
  refine lv_istore (lv' := [(4, .int y0), (0, .ref q), (1, .int x1), (2, .int x2), (3, .int x3)]) hx hb dX11_taught_25 hl (by decide) rfl (fun ls hl => ?_)
  refine lv_iload_n hx hb dX11_taught_27 rfl (lv_at hl 2 rfl) ?_
  refine lv_istore (lv' := [(5, .int x1), (4, .int y0), (0, .ref q), (1, .int x1), (2, .int x2), (3, .int x3)]) hx hb dX11_taught_28 hl (by decide) rfl (fun ls hl => ?_)
  refine lv_iconst (v := (0 : Int32)) hx hb dX11_taught_30 (by decide) ?_
  refine lv_istore (lv' := [(6, .int (0 : Int32)), (5, .int x1), (4, .int y0), (0, .ref q), (1, .int x1), (2, .int x2), (3, .int x3)]) hx hb dX11_taught_31 hl (by decide) rfl (fun ls hl => ?_)
  exact t_m_taught_33 zc hK hM  (lv_sub hl [3, 5, 6, 2, 1, 0] rfl) hw
set_option maxRecDepth 20000 in
theorem t_m_taught_0 {p : Program} {l : Launch} {e : Env} {s : State} {m : MethodId} {args : Array Value} {below : List Frame} {meth : Method} {c : Code} {E : zE} {q : Nat} {f_code : Int32} {a_tape : Nat → Int32} {a_size : Nat → Int32} {a_fault : Nat → Int32} {a_faultPlace : Nat → Int32} {a_many : Nat → Int32} {a_lands : Nat → Int32} {a_evenings : Nat → Int32} {a_sights : Nat → Int32} {a_choirs : Nat → Int32} {f_reached : Int32} {f_length : Int32} {f_begins : Int32} {f_sort : Int32} {f_value : Int32} {f_word : Int64} {f_wrongAt : Int32} {f_laterFault : Int32} {f_laterPlace : Int32} {a_told : Nat → Int32} {a_read : Nat → Int32} {f_farHut : Int32} {f_farSinger : Int32} {f_good : Int32} {f_land : Int32} {f_huts : Int32} {f_singers : Int32} {f_evening : Int32} {a_at : Nat → Int32} {a_knows : Nat → Int32} {a_climbed : Nat → Int32} {a_snow : Nat → Int32} {a_level : Nat → Int32} {f_begun : Int32} {f_minute : Int32} {f_avalanches : Int32} {a_run : Nat → Int32} {a_covers : Nat → Int32} {a_routes : Nat → Int32} {a_longest : Nat → Int32} {a_steep : Nat → Int32} {a_laid : Nat → Int32} {a_far : Nat → Int32} {f_sight : Int32} {a_runs : Nat → Int32} {f_choir : Int32} {f_voices : Int32} {a_rest : Nat → Int64} {a_wins : Nat → Int32} {f_seed : Int32} {a_other : Nat → Int32} {a_kept : Nat → Int32} {post : Int32 → Prop} {x1 : Int32} {x2 : Int32} {ls : Array Slot}
    (zc : zC p s m args meth c cX11_taught 9 RX11 (some .int))
    (hK : zK E s)
    (hM : mW E q f_code a_tape a_size a_fault a_faultPlace a_many a_lands a_evenings a_sights a_choirs f_reached f_length f_begins f_sort f_value f_word f_wrongAt f_laterFault f_laterPlace a_told a_read f_farHut f_farSinger f_good f_land f_huts f_singers f_evening a_at a_knows a_climbed a_snow a_level f_begun f_minute f_avalanches a_run a_covers a_routes a_longest a_steep a_laid a_far f_sight a_runs f_choir f_voices a_rest a_wins f_seed a_other a_kept s.heap)
    (hl : lv_has ls 9 [(0, .ref q), (1, .int x1), (2, .int x2)])
    (hw : q_m_taught_0 a_lands f_land f_singers a_at a_knows a_climbed a_level f_begun x1 x2 post) :
    W p l e rm_m_taught s m args below meth c s.heap [] 0 0 (MQ below (vp_Si post) args s 0 0 (fun _ => False)) (F0 m 0 ls []) := by
  have hx := zc.1
  have hb := zc.2.1
  refine lv_iconst (v := (0 : Int32)) hx hb dX11_taught_0 (by decide) ?_
  refine lv_istore_n (lv' := [(3, .int (0 : Int32)), (0, .ref q), (1, .int x1), (2, .int x2)]) hx hb dX11_taught_1 rfl hl (by decide) rfl (fun ls hl => ?_)
  refine lv_aload_n hx hb dX11_taught_2 rfl (lv_at hl 1 rfl) ?_
  refine mg_11_340_0 zc hK hM dX11_taught_3 ?_
  refine lv_iload_n hx hb dX11_taught_6 rfl (lv_at hl 3 rfl) ?_
  refine zS_i [.int f_begun, .int x2] [] zc ky_X11_has kz_X11_has km_11_101 (c_m_has l hw) (zPre0 _) rfl rfl hl.1 (Nat.le_of_ble_eq_true rfl) ⟨rfl, rfl⟩ ⟨Nat.le_of_ble_eq_true rfl, Nat.le_of_ble_eq_true rfl⟩ ⟨(Nat.zero_le _), (Nat.zero_le _)⟩ dX11_taught_7 (fun r_1 hw => ?_)
  refine lv_if_eq (tgt := 22) hx hb dX11_taught_10 (by decide) (fun hc => ?_) (fun hc => ?_)
  · have hw := hw.1 hc
    refine lv_ldcw (v := (1000000 : Int32)) hx hb zc.2.2.2.1 (zc.2.2.2.2.1 _ kc_11_410) dX11_taught_22 ?_
    exact t_m_taught_25 zc hK hM  (lv_sub hl [1, 2, 3, 0] rfl) hw
  · have hw := hw.2 hc
    refine lv_aload_n hx hb dX11_taught_13 rfl (lv_at hl 1 rfl) ?_
    refine mg_11_56_0 zc hK hM dX11_taught_14 ?_
    refine lv_iload_n hx hb dX11_taught_17 rfl (lv_at hl 3 rfl) ?_
    refine mld_16 zc hK hM hw.1 dX11_taught_18 ?_
    have hw := hw.2
    refine lv_goto (tgt := 25) hx hb dX11_taught_19 (by decide) ?_
    exact t_m_taught_25 zc hK hM  (lv_sub hl [1, 2, 3, 0] rfl) hw
set_option maxRecDepth 20000 in
theorem c_m_taught (l : Launch) {E : zE} {q : Nat} {f_code : Int32} {a_tape : Nat → Int32} {a_size : Nat → Int32} {a_fault : Nat → Int32} {a_faultPlace : Nat → Int32} {a_many : Nat → Int32} {a_lands : Nat → Int32} {a_evenings : Nat → Int32} {a_sights : Nat → Int32} {a_choirs : Nat → Int32} {f_reached : Int32} {f_length : Int32} {f_begins : Int32} {f_sort : Int32} {f_value : Int32} {f_word : Int64} {f_wrongAt : Int32} {f_laterFault : Int32} {f_laterPlace : Int32} {a_told : Nat → Int32} {a_read : Nat → Int32} {f_farHut : Int32} {f_farSinger : Int32} {f_good : Int32} {f_land : Int32} {f_huts : Int32} {f_singers : Int32} {f_evening : Int32} {a_at : Nat → Int32} {a_knows : Nat → Int32} {a_climbed : Nat → Int32} {a_snow : Nat → Int32} {a_level : Nat → Int32} {f_begun : Int32} {f_minute : Int32} {f_avalanches : Int32} {a_run : Nat → Int32} {a_covers : Nat → Int32} {a_routes : Nat → Int32} {a_longest : Nat → Int32} {a_steep : Nat → Int32} {a_laid : Nat → Int32} {a_far : Nat → Int32} {f_sight : Int32} {a_runs : Nat → Int32} {f_choir : Int32} {f_voices : Int32} {a_rest : Nat → Int64} {a_wins : Nat → Int32} {f_seed : Int32} {a_other : Nat → Int32} {a_kept : Nat → Int32} {x1 : Int32} {x2 : Int32} {post : Int32 → Prop} (hw : q_m_taught_0 a_lands f_land f_singers a_at a_knows a_climbed a_level f_begun x1 x2 post) : Met l yX11_taught (Cond.code yX11_taught cX11_taught 9 (some .int) :: zb) rm_m_taught (va_Pc [.ref q, .int x1, .int x2] (fun U => mW E q f_code a_tape a_size a_fault a_faultPlace a_many a_lands a_evenings a_sights a_choirs f_reached f_length f_begins f_sort f_value f_word f_wrongAt f_laterFault f_laterPlace a_told a_read f_farHut f_farSinger f_good f_land f_huts f_singers f_evening a_at a_knows a_climbed a_snow a_level f_begun f_minute f_avalanches a_run a_covers a_routes a_longest a_steep a_laid a_far f_sight a_runs f_choir f_voices a_rest a_wins f_seed a_other a_kept U.heap ∧ zK E U)) (vp_Si post) 0 0 (fun _ => False) := by
  refine Met.ofW (cc := cX11_taught) (maxL := 9) (ret := (some .int)) (by decide) rfl ?_
  intro p e s m args below meth c s₁ B hml hv
  obtain ⟨rfl, hM, hK⟩ := hv
  have zc := zc_of B hml
  have hl := lv_entry ([.ref q, .int x1, .int x2]) (n := 9) (Nat.le_of_ble_eq_true rfl)
  rw [lg_entry_eq]
  generalize (lg_sl ([.ref q, .int x1, .int x2]) ++ List.replicate (9 - (lg_sl ([.ref q, .int x1, .int x2])).length) Slot.unset).toArray = ls at hl ⊢
  have hl : lv_has ls 9 [(0, .ref q), (1, .int x1), (2, .int x2)] := hl
  exact t_m_taught_0 zc hK hM (lv_sub hl [0, 1, 2] rfl) hw
end
section
-- m_teach
abbrev rm_m_teach : Room := { frames := 7, cells := 0, slots := 0, locals := 156 }
def q_m_teach_121 (P53 : Int32 → Int32 → Prop) (f_code : Int32) (a_many : Nat → Int32) (a_lands : Nat → Int32) (a_evenings : Nat → Int32) (f_land : Int32) (f_huts : Int32) (f_singers : Int32) (f_evening : Int32) (a_at : Nat → Int32) (a_knows : Nat → Int32) (a_climbed : Nat → Int32) (a_snow : Nat → Int32) (a_level : Nat → Int32) (f_begun : Int32) (f_minute : Int32) (f_avalanches : Int32) (x4 : Int32) (x6 : Int32) (y0 : Int32) (post : Int32 → (Int32) → (Int32) → (Int32) → (Int32) → (Int32) → (Nat → Int32) → (Nat → Int32) → (Nat → Int32) → (Nat → Int32) → (Nat → Int32) → (Int32) → (Int32) → (Int32) → Prop) : Prop :=
  ∀ v_1 : Int32, v_1 = x6 + (1 : Int32) → (P53 y0 v_1)
def q_m_teach_111 (P53 : Int32 → Int32 → Prop) (f_code : Int32) (a_many : Nat → Int32) (a_lands : Nat → Int32) (a_evenings : Nat → Int32) (f_land : Int32) (f_huts : Int32) (f_singers : Int32) (f_evening : Int32) (a_at : Nat → Int32) (a_knows : Nat → Int32) (a_climbed : Nat → Int32) (a_snow : Nat → Int32) (a_level : Nat → Int32) (f_begun : Int32) (f_minute : Int32) (f_avalanches : Int32) (x4 : Int32) (x6 : Int32) (post : Int32 → (Int32) → (Int32) → (Int32) → (Int32) → (Int32) → (Nat → Int32) → (Nat → Int32) → (Nat → Int32) → (Nat → Int32) → (Nat → Int32) → (Int32) → (Int32) → (Int32) → Prop) : Prop :=
  q_m_ones_0 x6 (fun r_1 => q_m_teach_121 P53 f_code a_many a_lands a_evenings f_land f_huts f_singers f_evening a_at a_knows a_climbed a_snow a_level f_begun f_minute f_avalanches x4 x6 r_1 post)
def q_m_teach_119 (P53 : Int32 → Int32 → Prop) (f_code : Int32) (a_many : Nat → Int32) (a_lands : Nat → Int32) (a_evenings : Nat → Int32) (f_land : Int32) (f_huts : Int32) (f_singers : Int32) (f_evening : Int32) (a_at : Nat → Int32) (a_knows : Nat → Int32) (a_climbed : Nat → Int32) (a_snow : Nat → Int32) (a_level : Nat → Int32) (f_begun : Int32) (f_minute : Int32) (f_avalanches : Int32) (x4 : Int32) (x5 : Int32) (x6 : Int32) (post : Int32 → (Int32) → (Int32) → (Int32) → (Int32) → (Int32) → (Nat → Int32) → (Nat → Int32) → (Nat → Int32) → (Nat → Int32) → (Nat → Int32) → (Int32) → (Int32) → (Int32) → Prop) : Prop :=
  q_m_teach_121 P53 f_code a_many a_lands a_evenings f_land f_huts f_singers f_evening a_at a_knows a_climbed a_snow a_level f_begun f_minute f_avalanches x4 x6 x5 post
def q_m_teach_88 (P53 : Int32 → Int32 → Prop) (f_code : Int32) (a_many : Nat → Int32) (a_lands : Nat → Int32) (a_evenings : Nat → Int32) (f_land : Int32) (f_huts : Int32) (f_singers : Int32) (f_evening : Int32) (a_at : Nat → Int32) (a_knows : Nat → Int32) (a_climbed : Nat → Int32) (a_snow : Nat → Int32) (a_level : Nat → Int32) (f_begun : Int32) (f_minute : Int32) (f_avalanches : Int32) (x4 : Int32) (x5 : Int32) (x6 : Int32) (y0 : Int32) (post : Int32 → (Int32) → (Int32) → (Int32) → (Int32) → (Int32) → (Nat → Int32) → (Nat → Int32) → (Nat → Int32) → (Nat → Int32) → (Nat → Int32) → (Int32) → (Int32) → (Int32) → Prop) : Prop :=
  (y0 = 0 → (q_m_teach_119 P53 f_code a_many a_lands a_evenings f_land f_huts f_singers f_evening a_at a_knows a_climbed a_snow a_level f_begun f_minute f_avalanches x4 x5 x6 post)) ∧ (¬ y0 = 0 → ((x5 = (-1 : Int32) → (q_m_teach_111 P53 f_code a_many a_lands a_evenings f_land f_huts f_singers f_evening a_at a_knows a_climbed a_snow a_level f_begun f_minute f_avalanches x4 x6 post)) ∧ (¬ x5 = (-1 : Int32) → (q_m_ones_0 x6 (fun r_1 => (x5 ≤ r_1 → (q_m_teach_119 P53 f_code a_many a_lands a_evenings f_land f_huts f_singers f_evening a_at a_knows a_climbed a_snow a_level f_begun f_minute f_avalanches x4 x5 x6 post)) ∧ (¬ x5 ≤ r_1 → (q_m_teach_111 P53 f_code a_many a_lands a_evenings f_land f_huts f_singers f_evening a_at a_knows a_climbed a_snow a_level f_begun f_minute f_avalanches x4 x6 post)))))))
def q_m_teach_53 (f_code : Int32) (a_many : Nat → Int32) (a_lands : Nat → Int32) (a_evenings : Nat → Int32) (f_land : Int32) (f_huts : Int32) (f_singers : Int32) (f_evening : Int32) (a_at : Nat → Int32) (a_knows : Nat → Int32) (a_climbed : Nat → Int32) (a_snow : Nat → Int32) (a_level : Nat → Int32) (f_begun : Int32) (f_minute : Int32) (f_avalanches : Int32) (x4 : Int32) (x5 : Int32) (x6 : Int32) (post : Int32 → (Int32) → (Int32) → (Int32) → (Int32) → (Int32) → (Nat → Int32) → (Nat → Int32) → (Nat → Int32) → (Nat → Int32) → (Nat → Int32) → (Int32) → (Int32) → (Int32) → Prop) : Prop :=
  ∀ P53 : Int32 → Int32 → Prop, (∀ (x5 : Int32) (x6 : Int32), ((((1 : Int32) <<< (f_singers &&& 31)) ≤ x6 → (post x5 f_code f_land f_huts f_singers f_evening a_at a_knows a_climbed a_snow a_level f_begun f_minute f_avalanches)) ∧ (¬ ((1 : Int32) <<< (f_singers &&& 31)) ≤ x6 → (q_m_taught_0 a_lands f_land f_singers a_at a_knows a_climbed a_level f_begun x6 x4 (fun r_1 => (¬ r_1 = (((1 : Int32) <<< (f_singers &&& 31)) - (1 : Int32)) → (q_m_teach_88 P53 f_code a_many a_lands a_evenings f_land f_huts f_singers f_evening a_at a_knows a_climbed a_snow a_level f_begun f_minute f_avalanches x4 x5 x6 (0 : Int32) post)) ∧ (r_1 = (((1 : Int32) <<< (f_singers &&& 31)) - (1 : Int32)) → (q_m_teach_88 P53 f_code a_many a_lands a_evenings f_land f_huts f_singers f_evening a_at a_knows a_climbed a_snow a_level f_begun f_minute f_avalanches x4 x5 x6 (1 : Int32) post)))))) → P53 x5 x6) → P53 x5 x6
def q_m_teach_0 (f_code : Int32) (a_many : Nat → Int32) (a_lands : Nat → Int32) (a_evenings : Nat → Int32) (f_land : Int32) (f_huts : Int32) (f_singers : Int32) (f_evening : Int32) (a_at : Nat → Int32) (a_knows : Nat → Int32) (a_climbed : Nat → Int32) (a_snow : Nat → Int32) (a_level : Nat → Int32) (f_begun : Int32) (f_minute : Int32) (f_avalanches : Int32) (x1 : Int32) (x2 : Int32) (x3 : Int32) (x4 : Int32) (post : Int32 → (Int32) → (Int32) → (Int32) → (Int32) → (Int32) → (Nat → Int32) → (Nat → Int32) → (Nat → Int32) → (Nat → Int32) → (Nat → Int32) → (Int32) → (Int32) → (Int32) → Prop) : Prop :=
  q_m_layAll_0 a_many a_lands f_land f_huts f_singers f_evening x1 x2 (fun r_1 f_land_1 f_huts_1 f_singers_1 f_evening_1 => (r_1 = 0 → (post (-1 : Int32) (0 : Int32) f_land_1 f_huts_1 f_singers_1 f_evening_1 a_at a_knows a_climbed a_snow a_level f_begun f_minute f_avalanches)) ∧ (¬ r_1 = 0 → (q_m_deeds_0 a_evenings f_evening_1 (fun r_2 => q_m_in_0 x3 (0 : Int32) r_2 (fun r_3 => (r_3 = 0 → (post (-1 : Int32) (0 : Int32) f_land_1 f_huts_1 f_singers_1 f_evening_1 a_at a_knows a_climbed a_snow a_level f_begun f_minute f_avalanches)) ∧ (¬ r_3 = 0 → (q_m_play_0 a_lands a_evenings f_land_1 f_huts_1 f_singers_1 f_evening_1 a_at a_knows a_climbed a_snow a_level f_begun f_minute f_avalanches x3 (fun r_4 a_at_1 a_knows_1 a_climbed_1 a_snow_1 a_level_1 f_begun_1 f_minute_1 f_avalanches_1 => (r_4 < x3 → (post (-1 : Int32) (0 : Int32) f_land_1 f_huts_1 f_singers_1 f_evening_1 a_at_1 a_knows_1 a_climbed_1 a_snow_1 a_level_1 f_begun_1 f_minute_1 f_avalanches_1)) ∧ (¬ r_4 < x3 → (q_m_in_0 x4 (0 : Int32) (4 : Int32) (fun r_5 => (¬ r_5 = 0 → (q_m_teach_53 (0 : Int32) a_many a_lands a_evenings f_land_1 f_huts_1 f_singers_1 f_evening_1 a_at_1 a_knows_1 a_climbed_1 a_snow_1 a_level_1 f_begun_1 f_minute_1 f_avalanches_1 x4 (-1 : Int32) (0 : Int32) post)) ∧ (r_5 = 0 → (post (-1 : Int32) (0 : Int32) f_land_1 f_huts_1 f_singers_1 f_evening_1 a_at_1 a_knows_1 a_climbed_1 a_snow_1 a_level_1 f_begun_1 f_minute_1 f_avalanches_1)))))))))))))
set_option maxRecDepth 20000 in
theorem t_m_teach_121 {p : Program} {l : Launch} {e : Env} {s : State} {m : MethodId} {args : Array Value} {below : List Frame} {meth : Method} {c : Code} {E : zE} {q : Nat} {f_code : Int32} {a_tape : Nat → Int32} {a_size : Nat → Int32} {a_fault : Nat → Int32} {a_faultPlace : Nat → Int32} {a_many : Nat → Int32} {a_lands : Nat → Int32} {a_evenings : Nat → Int32} {a_sights : Nat → Int32} {a_choirs : Nat → Int32} {f_reached : Int32} {f_length : Int32} {f_begins : Int32} {f_sort : Int32} {f_value : Int32} {f_word : Int64} {f_wrongAt : Int32} {f_laterFault : Int32} {f_laterPlace : Int32} {a_told : Nat → Int32} {a_read : Nat → Int32} {f_farHut : Int32} {f_farSinger : Int32} {f_good : Int32} {f_land : Int32} {f_huts : Int32} {f_singers : Int32} {f_evening : Int32} {a_at : Nat → Int32} {a_knows : Nat → Int32} {a_climbed : Nat → Int32} {a_snow : Nat → Int32} {a_level : Nat → Int32} {f_begun : Int32} {f_minute : Int32} {f_avalanches : Int32} {a_run : Nat → Int32} {a_covers : Nat → Int32} {a_routes : Nat → Int32} {a_longest : Nat → Int32} {a_steep : Nat → Int32} {a_laid : Nat → Int32} {a_far : Nat → Int32} {f_sight : Int32} {a_runs : Nat → Int32} {f_choir : Int32} {f_voices : Int32} {a_rest : Nat → Int64} {a_wins : Nat → Int32} {f_seed : Int32} {a_other : Nat → Int32} {a_kept : Nat → Int32} {P53 : Int32 → Int32 → Prop} {post : Int32 → (Int32) → (Int32) → (Int32) → (Int32) → (Int32) → (Nat → Int32) → (Nat → Int32) → (Nat → Int32) → (Nat → Int32) → (Nat → Int32) → (Int32) → (Int32) → (Int32) → Prop} {x4 : Int32} {x6 : Int32} {y0 : Int32} {ls : Array Slot} {H : Heap} {locs : List Loc}
    (zc : zC p s m args meth c cX11_teach 8 RX11 (some .int))
    (hK : zK E s)
    (hM : mW E q f_code a_tape a_size a_fault a_faultPlace a_many a_lands a_evenings a_sights a_choirs f_reached f_length f_begins f_sort f_value f_word f_wrongAt f_laterFault f_laterPlace a_told a_read f_farHut f_farSinger f_good f_land f_huts f_singers f_evening a_at a_knows a_climbed a_snow a_level f_begun f_minute f_avalanches a_run a_covers a_routes a_longest a_steep a_laid a_far f_sight a_runs f_choir f_voices a_rest a_wins f_seed a_other a_kept H)
    (hS : va_S (mA q) s.heap H locs)
    (hP53 : ∀ (x5 : Int32) (x6 : Int32) (H : Heap) (locs : List Loc) (ls : Array Slot), P53 x5 x6 → lv_has ls 8 [(0, .ref q), (4, .int x4), (5, .int x5), (6, .int x6)] → mW E q f_code a_tape a_size a_fault a_faultPlace a_many a_lands a_evenings a_sights a_choirs f_reached f_length f_begins f_sort f_value f_word f_wrongAt f_laterFault f_laterPlace a_told a_read f_farHut f_farSinger f_good f_land f_huts f_singers f_evening a_at a_knows a_climbed a_snow a_level f_begun f_minute f_avalanches a_run a_covers a_routes a_longest a_steep a_laid a_far f_sight a_runs f_choir f_voices a_rest a_wins f_seed a_other a_kept H → va_S (mA q) s.heap H locs → W p l e rm_m_teach s m args below meth c H locs 0 0 (MQ below (zQi (S := (Int32) × (Int32) × (Int32) × (Int32) × (Int32) × (Nat → Int32) × (Nat → Int32) × (Nat → Int32) × (Nat → Int32) × (Nat → Int32) × (Int32) × (Int32) × (Int32)) (fun r u => post r u.1 u.2.1 u.2.2.1 u.2.2.2.1 u.2.2.2.2.1 u.2.2.2.2.2.1 u.2.2.2.2.2.2.1 u.2.2.2.2.2.2.2.1 u.2.2.2.2.2.2.2.2.1 u.2.2.2.2.2.2.2.2.2.1 u.2.2.2.2.2.2.2.2.2.2.1 u.2.2.2.2.2.2.2.2.2.2.2.1 u.2.2.2.2.2.2.2.2.2.2.2.2) (fun u H => mW E q u.1 a_tape a_size a_fault a_faultPlace a_many a_lands a_evenings a_sights a_choirs f_reached f_length f_begins f_sort f_value f_word f_wrongAt f_laterFault f_laterPlace a_told a_read f_farHut f_farSinger f_good u.2.1 u.2.2.1 u.2.2.2.1 u.2.2.2.2.1 u.2.2.2.2.2.1 u.2.2.2.2.2.2.1 u.2.2.2.2.2.2.2.1 u.2.2.2.2.2.2.2.2.1 u.2.2.2.2.2.2.2.2.2.1 u.2.2.2.2.2.2.2.2.2.2.1 u.2.2.2.2.2.2.2.2.2.2.2.1 u.2.2.2.2.2.2.2.2.2.2.2.2 a_run a_covers a_routes a_longest a_steep a_laid a_far f_sight a_runs f_choir f_voices a_rest a_wins f_seed a_other a_kept H) (mA q)) args s 0 0 (mA q)) (F0 m 53 ls []))
    (hl : lv_has ls 8 [(0, .ref q), (4, .int x4), (6, .int x6)])
    (hw : q_m_teach_121 P53 f_code a_many a_lands a_evenings f_land f_huts f_singers f_evening a_at a_knows a_climbed a_snow a_level f_begun f_minute f_avalanches x4 x6 y0 post) :
    W p l e rm_m_teach s m args below meth c H locs 0 0 (MQ below (zQi (S := (Int32) × (Int32) × (Int32) × (Int32) × (Int32) × (Nat → Int32) × (Nat → Int32) × (Nat → Int32) × (Nat → Int32) × (Nat → Int32) × (Int32) × (Int32) × (Int32)) (fun r u => post r u.1 u.2.1 u.2.2.1 u.2.2.2.1 u.2.2.2.2.1 u.2.2.2.2.2.1 u.2.2.2.2.2.2.1 u.2.2.2.2.2.2.2.1 u.2.2.2.2.2.2.2.2.1 u.2.2.2.2.2.2.2.2.2.1 u.2.2.2.2.2.2.2.2.2.2.1 u.2.2.2.2.2.2.2.2.2.2.2.1 u.2.2.2.2.2.2.2.2.2.2.2.2) (fun u H => mW E q u.1 a_tape a_size a_fault a_faultPlace a_many a_lands a_evenings a_sights a_choirs f_reached f_length f_begins f_sort f_value f_word f_wrongAt f_laterFault f_laterPlace a_told a_read f_farHut f_farSinger f_good u.2.1 u.2.2.1 u.2.2.2.1 u.2.2.2.2.1 u.2.2.2.2.2.1 u.2.2.2.2.2.2.1 u.2.2.2.2.2.2.2.1 u.2.2.2.2.2.2.2.2.1 u.2.2.2.2.2.2.2.2.2.1 u.2.2.2.2.2.2.2.2.2.2.1 u.2.2.2.2.2.2.2.2.2.2.2.1 u.2.2.2.2.2.2.2.2.2.2.2.2 a_run a_covers a_routes a_longest a_steep a_laid a_far f_sight a_runs f_choir f_voices a_rest a_wins f_seed a_other a_kept H) (mA q)) args s 0 0 (mA q)) (F0 m 121 ls [.int y0]) := by
  have hx := zc.1
  have hb := zc.2.1
  refine lv_istore (lv' := [(5, .int y0), (0, .ref q), (4, .int x4), (6, .int x6)]) hx hb dX11_teach_121 hl (by decide) rfl (fun ls hl => ?_)
  obtain ⟨v_1, ev_1⟩ : ∃ y : Int32, y = x6 + (1 : Int32) := ⟨_, rfl⟩
  have hw := hw v_1 ev_1
  refine lv_iinc (v := v_1) (k := 3) (lv' := [(6, .int v_1), (5, .int y0), (0, .ref q), (4, .int x4)]) hx hb dX11_teach_123 hl rfl (by rw [ev_1]; rfl) (by decide) rfl (fun ls hl => ?_)
  refine lv_goto (tgt := 53) hx hb dX11_teach_126 (by decide) ?_
  exact hP53 _ _ _ _ _ hw (lv_sub hl [2, 3, 1, 0] rfl) hM hS
set_option maxRecDepth 20000 in
theorem t_m_teach_111 {p : Program} {l : Launch} {e : Env} {s : State} {m : MethodId} {args : Array Value} {below : List Frame} {meth : Method} {c : Code} {E : zE} {q : Nat} {f_code : Int32} {a_tape : Nat → Int32} {a_size : Nat → Int32} {a_fault : Nat → Int32} {a_faultPlace : Nat → Int32} {a_many : Nat → Int32} {a_lands : Nat → Int32} {a_evenings : Nat → Int32} {a_sights : Nat → Int32} {a_choirs : Nat → Int32} {f_reached : Int32} {f_length : Int32} {f_begins : Int32} {f_sort : Int32} {f_value : Int32} {f_word : Int64} {f_wrongAt : Int32} {f_laterFault : Int32} {f_laterPlace : Int32} {a_told : Nat → Int32} {a_read : Nat → Int32} {f_farHut : Int32} {f_farSinger : Int32} {f_good : Int32} {f_land : Int32} {f_huts : Int32} {f_singers : Int32} {f_evening : Int32} {a_at : Nat → Int32} {a_knows : Nat → Int32} {a_climbed : Nat → Int32} {a_snow : Nat → Int32} {a_level : Nat → Int32} {f_begun : Int32} {f_minute : Int32} {f_avalanches : Int32} {a_run : Nat → Int32} {a_covers : Nat → Int32} {a_routes : Nat → Int32} {a_longest : Nat → Int32} {a_steep : Nat → Int32} {a_laid : Nat → Int32} {a_far : Nat → Int32} {f_sight : Int32} {a_runs : Nat → Int32} {f_choir : Int32} {f_voices : Int32} {a_rest : Nat → Int64} {a_wins : Nat → Int32} {f_seed : Int32} {a_other : Nat → Int32} {a_kept : Nat → Int32} {P53 : Int32 → Int32 → Prop} {post : Int32 → (Int32) → (Int32) → (Int32) → (Int32) → (Int32) → (Nat → Int32) → (Nat → Int32) → (Nat → Int32) → (Nat → Int32) → (Nat → Int32) → (Int32) → (Int32) → (Int32) → Prop} {x4 : Int32} {x6 : Int32} {ls : Array Slot} {H : Heap} {locs : List Loc}
    (zc : zC p s m args meth c cX11_teach 8 RX11 (some .int))
    (hK : zK E s)
    (hM : mW E q f_code a_tape a_size a_fault a_faultPlace a_many a_lands a_evenings a_sights a_choirs f_reached f_length f_begins f_sort f_value f_word f_wrongAt f_laterFault f_laterPlace a_told a_read f_farHut f_farSinger f_good f_land f_huts f_singers f_evening a_at a_knows a_climbed a_snow a_level f_begun f_minute f_avalanches a_run a_covers a_routes a_longest a_steep a_laid a_far f_sight a_runs f_choir f_voices a_rest a_wins f_seed a_other a_kept H)
    (hS : va_S (mA q) s.heap H locs)
    (hP53 : ∀ (x5 : Int32) (x6 : Int32) (H : Heap) (locs : List Loc) (ls : Array Slot), P53 x5 x6 → lv_has ls 8 [(0, .ref q), (4, .int x4), (5, .int x5), (6, .int x6)] → mW E q f_code a_tape a_size a_fault a_faultPlace a_many a_lands a_evenings a_sights a_choirs f_reached f_length f_begins f_sort f_value f_word f_wrongAt f_laterFault f_laterPlace a_told a_read f_farHut f_farSinger f_good f_land f_huts f_singers f_evening a_at a_knows a_climbed a_snow a_level f_begun f_minute f_avalanches a_run a_covers a_routes a_longest a_steep a_laid a_far f_sight a_runs f_choir f_voices a_rest a_wins f_seed a_other a_kept H → va_S (mA q) s.heap H locs → W p l e rm_m_teach s m args below meth c H locs 0 0 (MQ below (zQi (S := (Int32) × (Int32) × (Int32) × (Int32) × (Int32) × (Nat → Int32) × (Nat → Int32) × (Nat → Int32) × (Nat → Int32) × (Nat → Int32) × (Int32) × (Int32) × (Int32)) (fun r u => post r u.1 u.2.1 u.2.2.1 u.2.2.2.1 u.2.2.2.2.1 u.2.2.2.2.2.1 u.2.2.2.2.2.2.1 u.2.2.2.2.2.2.2.1 u.2.2.2.2.2.2.2.2.1 u.2.2.2.2.2.2.2.2.2.1 u.2.2.2.2.2.2.2.2.2.2.1 u.2.2.2.2.2.2.2.2.2.2.2.1 u.2.2.2.2.2.2.2.2.2.2.2.2) (fun u H => mW E q u.1 a_tape a_size a_fault a_faultPlace a_many a_lands a_evenings a_sights a_choirs f_reached f_length f_begins f_sort f_value f_word f_wrongAt f_laterFault f_laterPlace a_told a_read f_farHut f_farSinger f_good u.2.1 u.2.2.1 u.2.2.2.1 u.2.2.2.2.1 u.2.2.2.2.2.1 u.2.2.2.2.2.2.1 u.2.2.2.2.2.2.2.1 u.2.2.2.2.2.2.2.2.1 u.2.2.2.2.2.2.2.2.2.1 u.2.2.2.2.2.2.2.2.2.2.1 u.2.2.2.2.2.2.2.2.2.2.2.1 u.2.2.2.2.2.2.2.2.2.2.2.2 a_run a_covers a_routes a_longest a_steep a_laid a_far f_sight a_runs f_choir f_voices a_rest a_wins f_seed a_other a_kept H) (mA q)) args s 0 0 (mA q)) (F0 m 53 ls []))
    (hl : lv_has ls 8 [(0, .ref q), (4, .int x4), (6, .int x6)])
    (hw : q_m_teach_111 P53 f_code a_many a_lands a_evenings f_land f_huts f_singers f_evening a_at a_knows a_climbed a_snow a_level f_begun f_minute f_avalanches x4 x6 post) :
    W p l e rm_m_teach s m args below meth c H locs 0 0 (MQ below (zQi (S := (Int32) × (Int32) × (Int32) × (Int32) × (Int32) × (Nat → Int32) × (Nat → Int32) × (Nat → Int32) × (Nat → Int32) × (Nat → Int32) × (Int32) × (Int32) × (Int32)) (fun r u => post r u.1 u.2.1 u.2.2.1 u.2.2.2.1 u.2.2.2.2.1 u.2.2.2.2.2.1 u.2.2.2.2.2.2.1 u.2.2.2.2.2.2.2.1 u.2.2.2.2.2.2.2.2.1 u.2.2.2.2.2.2.2.2.2.1 u.2.2.2.2.2.2.2.2.2.2.1 u.2.2.2.2.2.2.2.2.2.2.2.1 u.2.2.2.2.2.2.2.2.2.2.2.2) (fun u H => mW E q u.1 a_tape a_size a_fault a_faultPlace a_many a_lands a_evenings a_sights a_choirs f_reached f_length f_begins f_sort f_value f_word f_wrongAt f_laterFault f_laterPlace a_told a_read f_farHut f_farSinger f_good u.2.1 u.2.2.1 u.2.2.2.1 u.2.2.2.2.1 u.2.2.2.2.2.1 u.2.2.2.2.2.2.1 u.2.2.2.2.2.2.2.1 u.2.2.2.2.2.2.2.2.1 u.2.2.2.2.2.2.2.2.2.1 u.2.2.2.2.2.2.2.2.2.2.1 u.2.2.2.2.2.2.2.2.2.2.2.1 u.2.2.2.2.2.2.2.2.2.2.2.2 a_run a_covers a_routes a_longest a_steep a_laid a_far f_sight a_runs f_choir f_voices a_rest a_wins f_seed a_other a_kept H) (mA q)) args s 0 0 (mA q)) (F0 m 111 ls []) := by
  have hx := zc.1
  have hb := zc.2.1
  refine lv_iload hx hb dX11_teach_111 (lv_at hl 2 rfl) ?_
  refine zS_i [.int x6] [] zc ky_X11_ones kz_X11_ones km_11_429 (c_m_ones l hw) (zPre0 _) rfl rfl hl.1 (Nat.le_of_ble_eq_true rfl) ⟨rfl, rfl⟩ ⟨Nat.le_of_ble_eq_true rfl, Nat.le_of_ble_eq_true rfl⟩ ⟨(Nat.zero_le _), (Nat.zero_le _)⟩ dX11_teach_113 (fun r_1 hw => ?_)
  refine lv_goto (tgt := 121) hx hb dX11_teach_116 (by decide) ?_
  exact t_m_teach_121 zc hK hM hS hP53 (lv_sub hl [0, 1, 2] rfl) hw
set_option maxRecDepth 20000 in
theorem t_m_teach_119 {p : Program} {l : Launch} {e : Env} {s : State} {m : MethodId} {args : Array Value} {below : List Frame} {meth : Method} {c : Code} {E : zE} {q : Nat} {f_code : Int32} {a_tape : Nat → Int32} {a_size : Nat → Int32} {a_fault : Nat → Int32} {a_faultPlace : Nat → Int32} {a_many : Nat → Int32} {a_lands : Nat → Int32} {a_evenings : Nat → Int32} {a_sights : Nat → Int32} {a_choirs : Nat → Int32} {f_reached : Int32} {f_length : Int32} {f_begins : Int32} {f_sort : Int32} {f_value : Int32} {f_word : Int64} {f_wrongAt : Int32} {f_laterFault : Int32} {f_laterPlace : Int32} {a_told : Nat → Int32} {a_read : Nat → Int32} {f_farHut : Int32} {f_farSinger : Int32} {f_good : Int32} {f_land : Int32} {f_huts : Int32} {f_singers : Int32} {f_evening : Int32} {a_at : Nat → Int32} {a_knows : Nat → Int32} {a_climbed : Nat → Int32} {a_snow : Nat → Int32} {a_level : Nat → Int32} {f_begun : Int32} {f_minute : Int32} {f_avalanches : Int32} {a_run : Nat → Int32} {a_covers : Nat → Int32} {a_routes : Nat → Int32} {a_longest : Nat → Int32} {a_steep : Nat → Int32} {a_laid : Nat → Int32} {a_far : Nat → Int32} {f_sight : Int32} {a_runs : Nat → Int32} {f_choir : Int32} {f_voices : Int32} {a_rest : Nat → Int64} {a_wins : Nat → Int32} {f_seed : Int32} {a_other : Nat → Int32} {a_kept : Nat → Int32} {P53 : Int32 → Int32 → Prop} {post : Int32 → (Int32) → (Int32) → (Int32) → (Int32) → (Int32) → (Nat → Int32) → (Nat → Int32) → (Nat → Int32) → (Nat → Int32) → (Nat → Int32) → (Int32) → (Int32) → (Int32) → Prop} {x4 : Int32} {x5 : Int32} {x6 : Int32} {ls : Array Slot} {H : Heap} {locs : List Loc}
    (zc : zC p s m args meth c cX11_teach 8 RX11 (some .int))
    (hK : zK E s)
    (hM : mW E q f_code a_tape a_size a_fault a_faultPlace a_many a_lands a_evenings a_sights a_choirs f_reached f_length f_begins f_sort f_value f_word f_wrongAt f_laterFault f_laterPlace a_told a_read f_farHut f_farSinger f_good f_land f_huts f_singers f_evening a_at a_knows a_climbed a_snow a_level f_begun f_minute f_avalanches a_run a_covers a_routes a_longest a_steep a_laid a_far f_sight a_runs f_choir f_voices a_rest a_wins f_seed a_other a_kept H)
    (hS : va_S (mA q) s.heap H locs)
    (hP53 : ∀ (x5 : Int32) (x6 : Int32) (H : Heap) (locs : List Loc) (ls : Array Slot), P53 x5 x6 → lv_has ls 8 [(0, .ref q), (4, .int x4), (5, .int x5), (6, .int x6)] → mW E q f_code a_tape a_size a_fault a_faultPlace a_many a_lands a_evenings a_sights a_choirs f_reached f_length f_begins f_sort f_value f_word f_wrongAt f_laterFault f_laterPlace a_told a_read f_farHut f_farSinger f_good f_land f_huts f_singers f_evening a_at a_knows a_climbed a_snow a_level f_begun f_minute f_avalanches a_run a_covers a_routes a_longest a_steep a_laid a_far f_sight a_runs f_choir f_voices a_rest a_wins f_seed a_other a_kept H → va_S (mA q) s.heap H locs → W p l e rm_m_teach s m args below meth c H locs 0 0 (MQ below (zQi (S := (Int32) × (Int32) × (Int32) × (Int32) × (Int32) × (Nat → Int32) × (Nat → Int32) × (Nat → Int32) × (Nat → Int32) × (Nat → Int32) × (Int32) × (Int32) × (Int32)) (fun r u => post r u.1 u.2.1 u.2.2.1 u.2.2.2.1 u.2.2.2.2.1 u.2.2.2.2.2.1 u.2.2.2.2.2.2.1 u.2.2.2.2.2.2.2.1 u.2.2.2.2.2.2.2.2.1 u.2.2.2.2.2.2.2.2.2.1 u.2.2.2.2.2.2.2.2.2.2.1 u.2.2.2.2.2.2.2.2.2.2.2.1 u.2.2.2.2.2.2.2.2.2.2.2.2) (fun u H => mW E q u.1 a_tape a_size a_fault a_faultPlace a_many a_lands a_evenings a_sights a_choirs f_reached f_length f_begins f_sort f_value f_word f_wrongAt f_laterFault f_laterPlace a_told a_read f_farHut f_farSinger f_good u.2.1 u.2.2.1 u.2.2.2.1 u.2.2.2.2.1 u.2.2.2.2.2.1 u.2.2.2.2.2.2.1 u.2.2.2.2.2.2.2.1 u.2.2.2.2.2.2.2.2.1 u.2.2.2.2.2.2.2.2.2.1 u.2.2.2.2.2.2.2.2.2.2.1 u.2.2.2.2.2.2.2.2.2.2.2.1 u.2.2.2.2.2.2.2.2.2.2.2.2 a_run a_covers a_routes a_longest a_steep a_laid a_far f_sight a_runs f_choir f_voices a_rest a_wins f_seed a_other a_kept H) (mA q)) args s 0 0 (mA q)) (F0 m 53 ls []))
    (hl : lv_has ls 8 [(0, .ref q), (4, .int x4), (5, .int x5), (6, .int x6)])
    (hw : q_m_teach_119 P53 f_code a_many a_lands a_evenings f_land f_huts f_singers f_evening a_at a_knows a_climbed a_snow a_level f_begun f_minute f_avalanches x4 x5 x6 post) :
    W p l e rm_m_teach s m args below meth c H locs 0 0 (MQ below (zQi (S := (Int32) × (Int32) × (Int32) × (Int32) × (Int32) × (Nat → Int32) × (Nat → Int32) × (Nat → Int32) × (Nat → Int32) × (Nat → Int32) × (Int32) × (Int32) × (Int32)) (fun r u => post r u.1 u.2.1 u.2.2.1 u.2.2.2.1 u.2.2.2.2.1 u.2.2.2.2.2.1 u.2.2.2.2.2.2.1 u.2.2.2.2.2.2.2.1 u.2.2.2.2.2.2.2.2.1 u.2.2.2.2.2.2.2.2.2.1 u.2.2.2.2.2.2.2.2.2.2.1 u.2.2.2.2.2.2.2.2.2.2.2.1 u.2.2.2.2.2.2.2.2.2.2.2.2) (fun u H => mW E q u.1 a_tape a_size a_fault a_faultPlace a_many a_lands a_evenings a_sights a_choirs f_reached f_length f_begins f_sort f_value f_word f_wrongAt f_laterFault f_laterPlace a_told a_read f_farHut f_farSinger f_good u.2.1 u.2.2.1 u.2.2.2.1 u.2.2.2.2.1 u.2.2.2.2.2.1 u.2.2.2.2.2.2.1 u.2.2.2.2.2.2.2.1 u.2.2.2.2.2.2.2.2.1 u.2.2.2.2.2.2.2.2.2.1 u.2.2.2.2.2.2.2.2.2.2.1 u.2.2.2.2.2.2.2.2.2.2.2.1 u.2.2.2.2.2.2.2.2.2.2.2.2 a_run a_covers a_routes a_longest a_steep a_laid a_far f_sight a_runs f_choir f_voices a_rest a_wins f_seed a_other a_kept H) (mA q)) args s 0 0 (mA q)) (F0 m 119 ls []) := by
  have hx := zc.1
  have hb := zc.2.1
  refine lv_iload hx hb dX11_teach_119 (lv_at hl 2 rfl) ?_
  exact t_m_teach_121 zc hK hM hS hP53 (lv_sub hl [0, 1, 3] rfl) hw
set_option maxRecDepth 20000 in
theorem t_m_teach_88 {p : Program} {l : Launch} {e : Env} {s : State} {m : MethodId} {args : Array Value} {below : List Frame} {meth : Method} {c : Code} {E : zE} {q : Nat} {f_code : Int32} {a_tape : Nat → Int32} {a_size : Nat → Int32} {a_fault : Nat → Int32} {a_faultPlace : Nat → Int32} {a_many : Nat → Int32} {a_lands : Nat → Int32} {a_evenings : Nat → Int32} {a_sights : Nat → Int32} {a_choirs : Nat → Int32} {f_reached : Int32} {f_length : Int32} {f_begins : Int32} {f_sort : Int32} {f_value : Int32} {f_word : Int64} {f_wrongAt : Int32} {f_laterFault : Int32} {f_laterPlace : Int32} {a_told : Nat → Int32} {a_read : Nat → Int32} {f_farHut : Int32} {f_farSinger : Int32} {f_good : Int32} {f_land : Int32} {f_huts : Int32} {f_singers : Int32} {f_evening : Int32} {a_at : Nat → Int32} {a_knows : Nat → Int32} {a_climbed : Nat → Int32} {a_snow : Nat → Int32} {a_level : Nat → Int32} {f_begun : Int32} {f_minute : Int32} {f_avalanches : Int32} {a_run : Nat → Int32} {a_covers : Nat → Int32} {a_routes : Nat → Int32} {a_longest : Nat → Int32} {a_steep : Nat → Int32} {a_laid : Nat → Int32} {a_far : Nat → Int32} {f_sight : Int32} {a_runs : Nat → Int32} {f_choir : Int32} {f_voices : Int32} {a_rest : Nat → Int64} {a_wins : Nat → Int32} {f_seed : Int32} {a_other : Nat → Int32} {a_kept : Nat → Int32} {P53 : Int32 → Int32 → Prop} {post : Int32 → (Int32) → (Int32) → (Int32) → (Int32) → (Int32) → (Nat → Int32) → (Nat → Int32) → (Nat → Int32) → (Nat → Int32) → (Nat → Int32) → (Int32) → (Int32) → (Int32) → Prop} {x4 : Int32} {x5 : Int32} {x6 : Int32} {y0 : Int32} {ls : Array Slot} {H : Heap} {locs : List Loc}
    (zc : zC p s m args meth c cX11_teach 8 RX11 (some .int))
    (hK : zK E s)
    (hM : mW E q f_code a_tape a_size a_fault a_faultPlace a_many a_lands a_evenings a_sights a_choirs f_reached f_length f_begins f_sort f_value f_word f_wrongAt f_laterFault f_laterPlace a_told a_read f_farHut f_farSinger f_good f_land f_huts f_singers f_evening a_at a_knows a_climbed a_snow a_level f_begun f_minute f_avalanches a_run a_covers a_routes a_longest a_steep a_laid a_far f_sight a_runs f_choir f_voices a_rest a_wins f_seed a_other a_kept H)
    (hS : va_S (mA q) s.heap H locs)
    (hP53 : ∀ (x5 : Int32) (x6 : Int32) (H : Heap) (locs : List Loc) (ls : Array Slot), P53 x5 x6 → lv_has ls 8 [(0, .ref q), (4, .int x4), (5, .int x5), (6, .int x6)] → mW E q f_code a_tape a_size a_fault a_faultPlace a_many a_lands a_evenings a_sights a_choirs f_reached f_length f_begins f_sort f_value f_word f_wrongAt f_laterFault f_laterPlace a_told a_read f_farHut f_farSinger f_good f_land f_huts f_singers f_evening a_at a_knows a_climbed a_snow a_level f_begun f_minute f_avalanches a_run a_covers a_routes a_longest a_steep a_laid a_far f_sight a_runs f_choir f_voices a_rest a_wins f_seed a_other a_kept H → va_S (mA q) s.heap H locs → W p l e rm_m_teach s m args below meth c H locs 0 0 (MQ below (zQi (S := (Int32) × (Int32) × (Int32) × (Int32) × (Int32) × (Nat → Int32) × (Nat → Int32) × (Nat → Int32) × (Nat → Int32) × (Nat → Int32) × (Int32) × (Int32) × (Int32)) (fun r u => post r u.1 u.2.1 u.2.2.1 u.2.2.2.1 u.2.2.2.2.1 u.2.2.2.2.2.1 u.2.2.2.2.2.2.1 u.2.2.2.2.2.2.2.1 u.2.2.2.2.2.2.2.2.1 u.2.2.2.2.2.2.2.2.2.1 u.2.2.2.2.2.2.2.2.2.2.1 u.2.2.2.2.2.2.2.2.2.2.2.1 u.2.2.2.2.2.2.2.2.2.2.2.2) (fun u H => mW E q u.1 a_tape a_size a_fault a_faultPlace a_many a_lands a_evenings a_sights a_choirs f_reached f_length f_begins f_sort f_value f_word f_wrongAt f_laterFault f_laterPlace a_told a_read f_farHut f_farSinger f_good u.2.1 u.2.2.1 u.2.2.2.1 u.2.2.2.2.1 u.2.2.2.2.2.1 u.2.2.2.2.2.2.1 u.2.2.2.2.2.2.2.1 u.2.2.2.2.2.2.2.2.1 u.2.2.2.2.2.2.2.2.2.1 u.2.2.2.2.2.2.2.2.2.2.1 u.2.2.2.2.2.2.2.2.2.2.2.1 u.2.2.2.2.2.2.2.2.2.2.2.2 a_run a_covers a_routes a_longest a_steep a_laid a_far f_sight a_runs f_choir f_voices a_rest a_wins f_seed a_other a_kept H) (mA q)) args s 0 0 (mA q)) (F0 m 53 ls []))
    (hl : lv_has ls 8 [(0, .ref q), (4, .int x4), (5, .int x5), (6, .int x6)])
    (hw : q_m_teach_88 P53 f_code a_many a_lands a_evenings f_land f_huts f_singers f_evening a_at a_knows a_climbed a_snow a_level f_begun f_minute f_avalanches x4 x5 x6 y0 post) :
    W p l e rm_m_teach s m args below meth c H locs 0 0 (MQ below (zQi (S := (Int32) × (Int32) × (Int32) × (Int32) × (Int32) × (Nat → Int32) × (Nat → Int32) × (Nat → Int32) × (Nat → Int32) × (Nat → Int32) × (Int32) × (Int32) × (Int32)) (fun r u => post r u.1 u.2.1 u.2.2.1 u.2.2.2.1 u.2.2.2.2.1 u.2.2.2.2.2.1 u.2.2.2.2.2.2.1 u.2.2.2.2.2.2.2.1 u.2.2.2.2.2.2.2.2.1 u.2.2.2.2.2.2.2.2.2.1 u.2.2.2.2.2.2.2.2.2.2.1 u.2.2.2.2.2.2.2.2.2.2.2.1 u.2.2.2.2.2.2.2.2.2.2.2.2) (fun u H => mW E q u.1 a_tape a_size a_fault a_faultPlace a_many a_lands a_evenings a_sights a_choirs f_reached f_length f_begins f_sort f_value f_word f_wrongAt f_laterFault f_laterPlace a_told a_read f_farHut f_farSinger f_good u.2.1 u.2.2.1 u.2.2.2.1 u.2.2.2.2.1 u.2.2.2.2.2.1 u.2.2.2.2.2.2.1 u.2.2.2.2.2.2.2.1 u.2.2.2.2.2.2.2.2.1 u.2.2.2.2.2.2.2.2.2.1 u.2.2.2.2.2.2.2.2.2.2.1 u.2.2.2.2.2.2.2.2.2.2.2.1 u.2.2.2.2.2.2.2.2.2.2.2.2 a_run a_covers a_routes a_longest a_steep a_laid a_far f_sight a_runs f_choir f_voices a_rest a_wins f_seed a_other a_kept H) (mA q)) args s 0 0 (mA q)) (F0 m 88 ls [.int y0]) := by
  have hx := zc.1
  have hb := zc.2.1
  refine lv_istore (lv' := [(7, .int y0), (0, .ref q), (4, .int x4), (5, .int x5), (6, .int x6)]) hx hb dX11_teach_88 hl (by decide) rfl (fun ls hl => ?_)
  refine lv_iload hx hb dX11_teach_90 (lv_at hl 0 rfl) ?_
  refine lv_if_eq (tgt := 119) hx hb dX11_teach_92 (by decide) (fun hc => ?_) (fun hc => ?_)
  · have hw := hw.1 hc
    exact t_m_teach_119 zc hK hM hS hP53 (lv_sub hl [1, 2, 3, 4] rfl) hw
  · have hw := hw.2 hc
    refine lv_iload hx hb dX11_teach_95 (lv_at hl 3 rfl) ?_
    refine lv_iconst (v := (-1 : Int32)) hx hb dX11_teach_97 (by decide) ?_
    refine lv_icmp_eq (tgt := 111) hx hb dX11_teach_98 (by decide) (fun hc => ?_) (fun hc => ?_)
    · have hw := hw.1 hc
      exact t_m_teach_111 zc hK hM hS hP53 (lv_sub hl [1, 2, 4] rfl) hw
    · have hw := hw.2 hc
      refine lv_iload hx hb dX11_teach_101 (lv_at hl 4 rfl) ?_
      refine zS_i [.int x6] [] zc ky_X11_ones kz_X11_ones km_11_429 (c_m_ones l hw) (zPre0 _) rfl rfl hl.1 (Nat.le_of_ble_eq_true rfl) ⟨rfl, rfl⟩ ⟨Nat.le_of_ble_eq_true rfl, Nat.le_of_ble_eq_true rfl⟩ ⟨(Nat.zero_le _), (Nat.zero_le _)⟩ dX11_teach_103 (fun r_1 hw => ?_)
      refine lv_iload hx hb dX11_teach_106 (lv_at hl 3 rfl) ?_
      refine lv_icmp_ge (tgt := 119) hx hb dX11_teach_108 (by decide) (fun hc => ?_) (fun hc => ?_)
      · have hw := hw.1 hc
        exact t_m_teach_119 zc hK hM hS hP53 (lv_sub hl [1, 2, 3, 4] rfl) hw
      · have hw := hw.2 hc
        exact t_m_teach_111 zc hK hM hS hP53 (lv_sub hl [1, 2, 4] rfl) hw
set_option maxRecDepth 20000 in
theorem t_m_teach_53 {p : Program} {l : Launch} {e : Env} {s : State} {m : MethodId} {args : Array Value} {below : List Frame} {meth : Method} {c : Code} {E : zE} {q : Nat} {f_code : Int32} {a_tape : Nat → Int32} {a_size : Nat → Int32} {a_fault : Nat → Int32} {a_faultPlace : Nat → Int32} {a_many : Nat → Int32} {a_lands : Nat → Int32} {a_evenings : Nat → Int32} {a_sights : Nat → Int32} {a_choirs : Nat → Int32} {f_reached : Int32} {f_length : Int32} {f_begins : Int32} {f_sort : Int32} {f_value : Int32} {f_word : Int64} {f_wrongAt : Int32} {f_laterFault : Int32} {f_laterPlace : Int32} {a_told : Nat → Int32} {a_read : Nat → Int32} {f_farHut : Int32} {f_farSinger : Int32} {f_good : Int32} {f_land : Int32} {f_huts : Int32} {f_singers : Int32} {f_evening : Int32} {a_at : Nat → Int32} {a_knows : Nat → Int32} {a_climbed : Nat → Int32} {a_snow : Nat → Int32} {a_level : Nat → Int32} {f_begun : Int32} {f_minute : Int32} {f_avalanches : Int32} {a_run : Nat → Int32} {a_covers : Nat → Int32} {a_routes : Nat → Int32} {a_longest : Nat → Int32} {a_steep : Nat → Int32} {a_laid : Nat → Int32} {a_far : Nat → Int32} {f_sight : Int32} {a_runs : Nat → Int32} {f_choir : Int32} {f_voices : Int32} {a_rest : Nat → Int64} {a_wins : Nat → Int32} {f_seed : Int32} {a_other : Nat → Int32} {a_kept : Nat → Int32} {post : Int32 → (Int32) → (Int32) → (Int32) → (Int32) → (Int32) → (Nat → Int32) → (Nat → Int32) → (Nat → Int32) → (Nat → Int32) → (Nat → Int32) → (Int32) → (Int32) → (Int32) → Prop} {x4 : Int32} {x5 : Int32} {x6 : Int32} {ls : Array Slot} {H : Heap} {locs : List Loc}
    (zc : zC p s m args meth c cX11_teach 8 RX11 (some .int))
    (hK : zK E s)
    (hM : mW E q f_code a_tape a_size a_fault a_faultPlace a_many a_lands a_evenings a_sights a_choirs f_reached f_length f_begins f_sort f_value f_word f_wrongAt f_laterFault f_laterPlace a_told a_read f_farHut f_farSinger f_good f_land f_huts f_singers f_evening a_at a_knows a_climbed a_snow a_level f_begun f_minute f_avalanches a_run a_covers a_routes a_longest a_steep a_laid a_far f_sight a_runs f_choir f_voices a_rest a_wins f_seed a_other a_kept H)
    (hS : va_S (mA q) s.heap H locs)
    (hl : lv_has ls 8 [(0, .ref q), (4, .int x4), (5, .int x5), (6, .int x6)])
    (hw : q_m_teach_53 f_code a_many a_lands a_evenings f_land f_huts f_singers f_evening a_at a_knows a_climbed a_snow a_level f_begun f_minute f_avalanches x4 x5 x6 post) :
    W p l e rm_m_teach s m args below meth c H locs 0 0 (MQ below (zQi (S := (Int32) × (Int32) × (Int32) × (Int32) × (Int32) × (Nat → Int32) × (Nat → Int32) × (Nat → Int32) × (Nat → Int32) × (Nat → Int32) × (Int32) × (Int32) × (Int32)) (fun r u => post r u.1 u.2.1 u.2.2.1 u.2.2.2.1 u.2.2.2.2.1 u.2.2.2.2.2.1 u.2.2.2.2.2.2.1 u.2.2.2.2.2.2.2.1 u.2.2.2.2.2.2.2.2.1 u.2.2.2.2.2.2.2.2.2.1 u.2.2.2.2.2.2.2.2.2.2.1 u.2.2.2.2.2.2.2.2.2.2.2.1 u.2.2.2.2.2.2.2.2.2.2.2.2) (fun u H => mW E q u.1 a_tape a_size a_fault a_faultPlace a_many a_lands a_evenings a_sights a_choirs f_reached f_length f_begins f_sort f_value f_word f_wrongAt f_laterFault f_laterPlace a_told a_read f_farHut f_farSinger f_good u.2.1 u.2.2.1 u.2.2.2.1 u.2.2.2.2.1 u.2.2.2.2.2.1 u.2.2.2.2.2.2.1 u.2.2.2.2.2.2.2.1 u.2.2.2.2.2.2.2.2.1 u.2.2.2.2.2.2.2.2.2.1 u.2.2.2.2.2.2.2.2.2.2.1 u.2.2.2.2.2.2.2.2.2.2.2.1 u.2.2.2.2.2.2.2.2.2.2.2.2 a_run a_covers a_routes a_longest a_steep a_laid a_far f_sight a_runs f_choir f_voices a_rest a_wins f_seed a_other a_kept H) (mA q)) args s 0 0 (mA q)) (F0 m 53 ls []) := by
  have hx := zc.1
  have hb := zc.2.1
  refine hw (fun x5 x6 => ∀ (H : Heap) (locs : List Loc) (ls : Array Slot), lv_has ls 8 [(0, .ref q), (4, .int x4), (5, .int x5), (6, .int x6)] → mW E q f_code a_tape a_size a_fault a_faultPlace a_many a_lands a_evenings a_sights a_choirs f_reached f_length f_begins f_sort f_value f_word f_wrongAt f_laterFault f_laterPlace a_told a_read f_farHut f_farSinger f_good f_land f_huts f_singers f_evening a_at a_knows a_climbed a_snow a_level f_begun f_minute f_avalanches a_run a_covers a_routes a_longest a_steep a_laid a_far f_sight a_runs f_choir f_voices a_rest a_wins f_seed a_other a_kept H → va_S (mA q) s.heap H locs → W p l e rm_m_teach s m args below meth c H locs 0 0 (MQ below (zQi (S := (Int32) × (Int32) × (Int32) × (Int32) × (Int32) × (Nat → Int32) × (Nat → Int32) × (Nat → Int32) × (Nat → Int32) × (Nat → Int32) × (Int32) × (Int32) × (Int32)) (fun r u => post r u.1 u.2.1 u.2.2.1 u.2.2.2.1 u.2.2.2.2.1 u.2.2.2.2.2.1 u.2.2.2.2.2.2.1 u.2.2.2.2.2.2.2.1 u.2.2.2.2.2.2.2.2.1 u.2.2.2.2.2.2.2.2.2.1 u.2.2.2.2.2.2.2.2.2.2.1 u.2.2.2.2.2.2.2.2.2.2.2.1 u.2.2.2.2.2.2.2.2.2.2.2.2) (fun u H => mW E q u.1 a_tape a_size a_fault a_faultPlace a_many a_lands a_evenings a_sights a_choirs f_reached f_length f_begins f_sort f_value f_word f_wrongAt f_laterFault f_laterPlace a_told a_read f_farHut f_farSinger f_good u.2.1 u.2.2.1 u.2.2.2.1 u.2.2.2.2.1 u.2.2.2.2.2.1 u.2.2.2.2.2.2.1 u.2.2.2.2.2.2.2.1 u.2.2.2.2.2.2.2.2.1 u.2.2.2.2.2.2.2.2.2.1 u.2.2.2.2.2.2.2.2.2.2.1 u.2.2.2.2.2.2.2.2.2.2.2.1 u.2.2.2.2.2.2.2.2.2.2.2.2 a_run a_covers a_routes a_longest a_steep a_laid a_far f_sight a_runs f_choir f_voices a_rest a_wins f_seed a_other a_kept H) (mA q)) args s 0 0 (mA q)) (F0 m 53 ls [])) ?_ _ _ _ hl hM hS
  intro x5 x6 hw H locs ls hl hM hS
  refine lv_iload hx hb dX11_teach_53 (lv_at hl 3 rfl) ?_
  refine lv_iconst (v := (1 : Int32)) hx hb dX11_teach_55 (by decide) ?_
  refine lv_aload_n hx hb dX11_teach_56 rfl (lv_at hl 0 rfl) ?_
  refine mg_11_310_0 zc hK hM dX11_teach_57 ?_
  refine lv_ishl hx hb dX11_teach_60 ?_
  refine lv_icmp_ge (tgt := 129) hx hb dX11_teach_61 (by decide) (fun hc => ?_) (fun hc => ?_)
  · have hw := hw.1 hc
    refine lv_iload hx hb dX11_teach_129 (lv_at hl 2 rfl) ?_
    exact zret_iw ⟨f_code, f_land, f_huts, f_singers, f_evening, a_at, a_knows, a_climbed, a_snow, a_level, f_begun, f_minute, f_avalanches⟩ zc hS hw hM dX11_teach_131
  · have hw := hw.2 hc
    refine lv_aload_n hx hb dX11_teach_64 rfl (lv_at hl 0 rfl) ?_
    refine lv_iload hx hb dX11_teach_65 (lv_at hl 3 rfl) ?_
    refine lv_iload hx hb dX11_teach_67 (lv_at hl 1 rfl) ?_
    refine zV_i [.int x6, .int x4] [] zc ky_X11_taught kz_X11_taught km_11_525 (c_m_taught l hw) (mPreV0 hK hM) rfl rfl hl.1 (Nat.le_of_ble_eq_true rfl) ⟨rfl, rfl⟩ ⟨Nat.le_of_ble_eq_true rfl, Nat.le_of_ble_eq_true rfl⟩ ⟨(Nat.zero_le _), (Nat.zero_le _)⟩ dX11_teach_69 (fun r_1 hw => ?_)
    refine lv_iconst (v := (1 : Int32)) hx hb dX11_teach_72 (by decide) ?_
    refine lv_aload_n hx hb dX11_teach_73 rfl (lv_at hl 0 rfl) ?_
    refine mg_11_310_0 zc hK hM dX11_teach_74 ?_
    refine lv_ishl hx hb dX11_teach_77 ?_
    refine lv_iconst (v := (1 : Int32)) hx hb dX11_teach_78 (by decide) ?_
    refine lv_isub hx hb dX11_teach_79 ?_
    refine lv_icmp_ne (tgt := 87) hx hb dX11_teach_80 (by decide) (fun hc => ?_) (fun hc => ?_)
    · have hw := hw.1 hc
      refine lv_iconst (v := (0 : Int32)) hx hb dX11_teach_87 (by decide) ?_
      exact t_m_teach_88 zc hK hM hS (fun _ _ H locs ls h hl hM hS => h H locs ls hl hM hS) (lv_sub hl [0, 1, 2, 3] rfl) hw
    · have hw := hw.2 hc
      refine lv_iconst (v := (1 : Int32)) hx hb dX11_teach_83 (by decide) ?_
      refine lv_goto (tgt := 88) hx hb dX11_teach_84 (by decide) ?_
      exact t_m_teach_88 zc hK hM hS (fun _ _ H locs ls h hl hM hS => h H locs ls hl hM hS) (lv_sub hl [0, 1, 2, 3] rfl) hw
set_option maxRecDepth 20000 in
theorem t_m_teach_0 {p : Program} {l : Launch} {e : Env} {s : State} {m : MethodId} {args : Array Value} {below : List Frame} {meth : Method} {c : Code} {E : zE} {q : Nat} {f_code : Int32} {a_tape : Nat → Int32} {a_size : Nat → Int32} {a_fault : Nat → Int32} {a_faultPlace : Nat → Int32} {a_many : Nat → Int32} {a_lands : Nat → Int32} {a_evenings : Nat → Int32} {a_sights : Nat → Int32} {a_choirs : Nat → Int32} {f_reached : Int32} {f_length : Int32} {f_begins : Int32} {f_sort : Int32} {f_value : Int32} {f_word : Int64} {f_wrongAt : Int32} {f_laterFault : Int32} {f_laterPlace : Int32} {a_told : Nat → Int32} {a_read : Nat → Int32} {f_farHut : Int32} {f_farSinger : Int32} {f_good : Int32} {f_land : Int32} {f_huts : Int32} {f_singers : Int32} {f_evening : Int32} {a_at : Nat → Int32} {a_knows : Nat → Int32} {a_climbed : Nat → Int32} {a_snow : Nat → Int32} {a_level : Nat → Int32} {f_begun : Int32} {f_minute : Int32} {f_avalanches : Int32} {a_run : Nat → Int32} {a_covers : Nat → Int32} {a_routes : Nat → Int32} {a_longest : Nat → Int32} {a_steep : Nat → Int32} {a_laid : Nat → Int32} {a_far : Nat → Int32} {f_sight : Int32} {a_runs : Nat → Int32} {f_choir : Int32} {f_voices : Int32} {a_rest : Nat → Int64} {a_wins : Nat → Int32} {f_seed : Int32} {a_other : Nat → Int32} {a_kept : Nat → Int32} {post : Int32 → (Int32) → (Int32) → (Int32) → (Int32) → (Int32) → (Nat → Int32) → (Nat → Int32) → (Nat → Int32) → (Nat → Int32) → (Nat → Int32) → (Int32) → (Int32) → (Int32) → Prop} {x1 : Int32} {x2 : Int32} {x3 : Int32} {x4 : Int32} {ls : Array Slot} {H : Heap} {locs : List Loc}
    (zc : zC p s m args meth c cX11_teach 8 RX11 (some .int))
    (hK : zK E s)
    (hM : mW E q f_code a_tape a_size a_fault a_faultPlace a_many a_lands a_evenings a_sights a_choirs f_reached f_length f_begins f_sort f_value f_word f_wrongAt f_laterFault f_laterPlace a_told a_read f_farHut f_farSinger f_good f_land f_huts f_singers f_evening a_at a_knows a_climbed a_snow a_level f_begun f_minute f_avalanches a_run a_covers a_routes a_longest a_steep a_laid a_far f_sight a_runs f_choir f_voices a_rest a_wins f_seed a_other a_kept H)
    (hS : va_S (mA q) s.heap H locs)
    (hl : lv_has ls 8 [(0, .ref q), (1, .int x1), (2, .int x2), (3, .int x3), (4, .int x4)])
    (hw : q_m_teach_0 f_code a_many a_lands a_evenings f_land f_huts f_singers f_evening a_at a_knows a_climbed a_snow a_level f_begun f_minute f_avalanches x1 x2 x3 x4 post) :
    W p l e rm_m_teach s m args below meth c H locs 0 0 (MQ below (zQi (S := (Int32) × (Int32) × (Int32) × (Int32) × (Int32) × (Nat → Int32) × (Nat → Int32) × (Nat → Int32) × (Nat → Int32) × (Nat → Int32) × (Int32) × (Int32) × (Int32)) (fun r u => post r u.1 u.2.1 u.2.2.1 u.2.2.2.1 u.2.2.2.2.1 u.2.2.2.2.2.1 u.2.2.2.2.2.2.1 u.2.2.2.2.2.2.2.1 u.2.2.2.2.2.2.2.2.1 u.2.2.2.2.2.2.2.2.2.1 u.2.2.2.2.2.2.2.2.2.2.1 u.2.2.2.2.2.2.2.2.2.2.2.1 u.2.2.2.2.2.2.2.2.2.2.2.2) (fun u H => mW E q u.1 a_tape a_size a_fault a_faultPlace a_many a_lands a_evenings a_sights a_choirs f_reached f_length f_begins f_sort f_value f_word f_wrongAt f_laterFault f_laterPlace a_told a_read f_farHut f_farSinger f_good u.2.1 u.2.2.1 u.2.2.2.1 u.2.2.2.2.1 u.2.2.2.2.2.1 u.2.2.2.2.2.2.1 u.2.2.2.2.2.2.2.1 u.2.2.2.2.2.2.2.2.1 u.2.2.2.2.2.2.2.2.2.1 u.2.2.2.2.2.2.2.2.2.2.1 u.2.2.2.2.2.2.2.2.2.2.2.1 u.2.2.2.2.2.2.2.2.2.2.2.2 a_run a_covers a_routes a_longest a_steep a_laid a_far f_sight a_runs f_choir f_voices a_rest a_wins f_seed a_other a_kept H) (mA q)) args s 0 0 (mA q)) (F0 m 0 ls []) := by
  have hx := zc.1
  have hb := zc.2.1
  refine lv_aload_n hx hb dX11_teach_0 rfl (lv_at hl 0 rfl) ?_
  refine lv_iconst (v := (0 : Int32)) hx hb dX11_teach_1 (by decide) ?_
  refine mp_11_97_0 zc hK hM hS dX11_teach_2 (fun H locs hM hS => ?_)
  refine lv_aload_n hx hb dX11_teach_5 rfl (lv_at hl 0 rfl) ?_
  refine lv_iload_n hx hb dX11_teach_6 rfl (lv_at hl 1 rfl) ?_
  refine lv_iload_n hx hb dX11_teach_7 rfl (lv_at hl 2 rfl) ?_
  refine zVw_i [.int x1, .int x2] [] zc ky_X11_layAll kz_X11_layAll km_11_383 (c_m_layAll l hw) (mPreV0 hK hM) hS rfl rfl hl.1 (Nat.le_of_ble_eq_true rfl) ⟨rfl, rfl⟩ ⟨Nat.le_of_ble_eq_true rfl, Nat.le_of_ble_eq_true rfl⟩ ⟨(Nat.zero_le _), (Nat.zero_le _)⟩ dX11_teach_8 (fun r_1 u H locs hw hM hS => ?_)
  obtain ⟨f_land_1, f_huts_1, f_singers_1, f_evening_1⟩ := u
  refine lv_if_eq (tgt := 45) hx hb dX11_teach_11 (by decide) (fun hc => ?_) (fun hc => ?_)
  · have hw := hw.1 hc
    refine lv_iconst (v := (-1 : Int32)) hx hb dX11_teach_45 (by decide) ?_
    exact zret_iw ⟨(0 : Int32), f_land_1, f_huts_1, f_singers_1, f_evening_1, a_at, a_knows, a_climbed, a_snow, a_level, f_begun, f_minute, f_avalanches⟩ zc hS hw hM dX11_teach_46
  · have hw := hw.2 hc
    refine lv_iload_n hx hb dX11_teach_14 rfl (lv_at hl 3 rfl) ?_
    refine lv_iconst (v := (0 : Int32)) hx hb dX11_teach_15 (by decide) ?_
    refine lv_aload_n hx hb dX11_teach_16 rfl (lv_at hl 0 rfl) ?_
    refine zV_i [] [.int (0 : Int32), .int x3] zc ky_X11_deeds kz_X11_deeds km_11_334 (c_m_deeds l hw) (mPreV0 hK hM) rfl rfl hl.1 (Nat.le_of_ble_eq_true rfl) ⟨rfl, rfl⟩ ⟨Nat.le_of_ble_eq_true rfl, Nat.le_of_ble_eq_true rfl⟩ ⟨(Nat.zero_le _), (Nat.zero_le _)⟩ dX11_teach_17 (fun r_2 hw => ?_)
    refine zS_i [.int x3, .int (0 : Int32), .int r_2] [] zc ky_X11_in kz_X11_in km_11_109 (c_m_in l hw) (zPre0 _) rfl rfl hl.1 (Nat.le_of_ble_eq_true rfl) ⟨rfl, rfl⟩ ⟨Nat.le_of_ble_eq_true rfl, Nat.le_of_ble_eq_true rfl⟩ ⟨(Nat.zero_le _), (Nat.zero_le _)⟩ dX11_teach_20 (fun r_3 hw => ?_)
    refine lv_if_eq (tgt := 45) hx hb dX11_teach_23 (by decide) (fun hc => ?_) (fun hc => ?_)
    · have hw := hw.1 hc
      refine lv_iconst (v := (-1 : Int32)) hx hb dX11_teach_45 (by decide) ?_
      exact zret_iw ⟨(0 : Int32), f_land_1, f_huts_1, f_singers_1, f_evening_1, a_at, a_knows, a_climbed, a_snow, a_level, f_begun, f_minute, f_avalanches⟩ zc hS hw hM dX11_teach_46
    · have hw := hw.2 hc
      refine lv_aload_n hx hb dX11_teach_26 rfl (lv_at hl 0 rfl) ?_
      refine lv_iload_n hx hb dX11_teach_27 rfl (lv_at hl 3 rfl) ?_
      refine zVw_i [.int x3] [] zc ky_X11_play kz_X11_play km_11_386 (c_m_play l hw) (mPreV0 hK hM) hS rfl rfl hl.1 (Nat.le_of_ble_eq_true rfl) ⟨rfl, rfl⟩ ⟨Nat.le_of_ble_eq_true rfl, Nat.le_of_ble_eq_true rfl⟩ ⟨(Nat.zero_le _), (Nat.zero_le _)⟩ dX11_teach_28 (fun r_4 u H locs hw hM hS => ?_)
      obtain ⟨a_at_1, a_knows_1, a_climbed_1, a_snow_1, a_level_1, f_begun_1, f_minute_1, f_avalanches_1⟩ := u
      refine lv_iload_n hx hb dX11_teach_31 rfl (lv_at hl 3 rfl) ?_
      refine lv_icmp_lt (tgt := 45) hx hb dX11_teach_32 (by decide) (fun hc => ?_) (fun hc => ?_)
      · have hw := hw.1 hc
        refine lv_iconst (v := (-1 : Int32)) hx hb dX11_teach_45 (by decide) ?_
        exact zret_iw ⟨(0 : Int32), f_land_1, f_huts_1, f_singers_1, f_evening_1, a_at_1, a_knows_1, a_climbed_1, a_snow_1, a_level_1, f_begun_1, f_minute_1, f_avalanches_1⟩ zc hS hw hM dX11_teach_46
      · have hw := hw.2 hc
        refine lv_iload hx hb dX11_teach_35 (lv_at hl 4 rfl) ?_
        refine lv_iconst (v := (0 : Int32)) hx hb dX11_teach_37 (by decide) ?_
        refine lv_iconst (v := (4 : Int32)) hx hb dX11_teach_38 (by decide) ?_
        refine zS_i [.int x4, .int (0 : Int32), .int (4 : Int32)] [] zc ky_X11_in kz_X11_in km_11_109 (c_m_in l hw) (zPre0 _) rfl rfl hl.1 (Nat.le_of_ble_eq_true rfl) ⟨rfl, rfl⟩ ⟨Nat.le_of_ble_eq_true rfl, Nat.le_of_ble_eq_true rfl⟩ ⟨(Nat.zero_le _), (Nat.zero_le _)⟩ dX11_teach_39 (fun r_5 hw => ?_)
        refine lv_if_ne (tgt := 47) hx hb dX11_teach_42 (by decide) (fun hc => ?_) (fun hc => ?_)
        · have hw := hw.1 hc
          refine lv_iconst (v := (-1 : Int32)) hx hb dX11_teach_47 (by decide) ?_
          refine lv_istore (lv' := [(5, .int (-1 : Int32)), (0, .ref q), (1, .int x1), (2, .int x2), (3, .int x3), (4, .int x4)]) hx hb dX11_teach_48 hl (by decide) rfl (fun ls hl => ?_)
          refine lv_iconst (v := (0 : Int32)) hx hb dX11_teach_50 (by decide) ?_
          refine lv_istore (lv' := [(6, .int (0 : Int32)), (5, .int (-1 : Int32)), (0, .ref q), (1, .int x1), (2, .int x2), (3, .int x3), (4, .int x4)]) hx hb dX11_teach_51 hl (by decide) rfl (fun ls hl => ?_)
          exact t_m_teach_53 zc hK hM hS  (lv_sub hl [2, 6, 1, 0] rfl) hw
        · have hw := hw.2 hc
          refine lv_iconst (v := (-1 : Int32)) hx hb dX11_teach_45 (by decide) ?_
          exact zret_iw ⟨(0 : Int32), f_land_1, f_huts_1, f_singers_1, f_evening_1, a_at_1, a_knows_1, a_climbed_1, a_snow_1, a_level_1, f_begun_1, f_minute_1, f_avalanches_1⟩ zc hS hw hM dX11_teach_46
set_option maxRecDepth 20000 in
theorem c_m_teach (l : Launch) {E : zE} {q : Nat} {f_code : Int32} {a_tape : Nat → Int32} {a_size : Nat → Int32} {a_fault : Nat → Int32} {a_faultPlace : Nat → Int32} {a_many : Nat → Int32} {a_lands : Nat → Int32} {a_evenings : Nat → Int32} {a_sights : Nat → Int32} {a_choirs : Nat → Int32} {f_reached : Int32} {f_length : Int32} {f_begins : Int32} {f_sort : Int32} {f_value : Int32} {f_word : Int64} {f_wrongAt : Int32} {f_laterFault : Int32} {f_laterPlace : Int32} {a_told : Nat → Int32} {a_read : Nat → Int32} {f_farHut : Int32} {f_farSinger : Int32} {f_good : Int32} {f_land : Int32} {f_huts : Int32} {f_singers : Int32} {f_evening : Int32} {a_at : Nat → Int32} {a_knows : Nat → Int32} {a_climbed : Nat → Int32} {a_snow : Nat → Int32} {a_level : Nat → Int32} {f_begun : Int32} {f_minute : Int32} {f_avalanches : Int32} {a_run : Nat → Int32} {a_covers : Nat → Int32} {a_routes : Nat → Int32} {a_longest : Nat → Int32} {a_steep : Nat → Int32} {a_laid : Nat → Int32} {a_far : Nat → Int32} {f_sight : Int32} {a_runs : Nat → Int32} {f_choir : Int32} {f_voices : Int32} {a_rest : Nat → Int64} {a_wins : Nat → Int32} {f_seed : Int32} {a_other : Nat → Int32} {a_kept : Nat → Int32} {x1 : Int32} {x2 : Int32} {x3 : Int32} {x4 : Int32} {post : Int32 → (Int32) → (Int32) → (Int32) → (Int32) → (Int32) → (Nat → Int32) → (Nat → Int32) → (Nat → Int32) → (Nat → Int32) → (Nat → Int32) → (Int32) → (Int32) → (Int32) → Prop} (hw : q_m_teach_0 f_code a_many a_lands a_evenings f_land f_huts f_singers f_evening a_at a_knows a_climbed a_snow a_level f_begun f_minute f_avalanches x1 x2 x3 x4 post) : Met l yX11_teach (Cond.code yX11_teach cX11_teach 8 (some .int) :: zb) rm_m_teach (va_Pc [.ref q, .int x1, .int x2, .int x3, .int x4] (fun U => mW E q f_code a_tape a_size a_fault a_faultPlace a_many a_lands a_evenings a_sights a_choirs f_reached f_length f_begins f_sort f_value f_word f_wrongAt f_laterFault f_laterPlace a_told a_read f_farHut f_farSinger f_good f_land f_huts f_singers f_evening a_at a_knows a_climbed a_snow a_level f_begun f_minute f_avalanches a_run a_covers a_routes a_longest a_steep a_laid a_far f_sight a_runs f_choir f_voices a_rest a_wins f_seed a_other a_kept U.heap ∧ zK E U)) (zQi (S := (Int32) × (Int32) × (Int32) × (Int32) × (Int32) × (Nat → Int32) × (Nat → Int32) × (Nat → Int32) × (Nat → Int32) × (Nat → Int32) × (Int32) × (Int32) × (Int32)) (fun r u => post r u.1 u.2.1 u.2.2.1 u.2.2.2.1 u.2.2.2.2.1 u.2.2.2.2.2.1 u.2.2.2.2.2.2.1 u.2.2.2.2.2.2.2.1 u.2.2.2.2.2.2.2.2.1 u.2.2.2.2.2.2.2.2.2.1 u.2.2.2.2.2.2.2.2.2.2.1 u.2.2.2.2.2.2.2.2.2.2.2.1 u.2.2.2.2.2.2.2.2.2.2.2.2) (fun u H => mW E q u.1 a_tape a_size a_fault a_faultPlace a_many a_lands a_evenings a_sights a_choirs f_reached f_length f_begins f_sort f_value f_word f_wrongAt f_laterFault f_laterPlace a_told a_read f_farHut f_farSinger f_good u.2.1 u.2.2.1 u.2.2.2.1 u.2.2.2.2.1 u.2.2.2.2.2.1 u.2.2.2.2.2.2.1 u.2.2.2.2.2.2.2.1 u.2.2.2.2.2.2.2.2.1 u.2.2.2.2.2.2.2.2.2.1 u.2.2.2.2.2.2.2.2.2.2.1 u.2.2.2.2.2.2.2.2.2.2.2.1 u.2.2.2.2.2.2.2.2.2.2.2.2 a_run a_covers a_routes a_longest a_steep a_laid a_far f_sight a_runs f_choir f_voices a_rest a_wins f_seed a_other a_kept H) (mA q)) 0 0 (mA q) := by
  refine Met.ofW (cc := cX11_teach) (maxL := 8) (ret := (some .int)) (by decide) rfl ?_
  intro p e s m args below meth c s₁ B hml hv
  obtain ⟨rfl, hM, hK⟩ := hv
  have zc := zc_of B hml
  have hl := lv_entry ([.ref q, .int x1, .int x2, .int x3, .int x4]) (n := 8) (Nat.le_of_ble_eq_true rfl)
  rw [lg_entry_eq]
  generalize (lg_sl ([.ref q, .int x1, .int x2, .int x3, .int x4]) ++ List.replicate (8 - (lg_sl ([.ref q, .int x1, .int x2, .int x3, .int x4])).length) Slot.unset).toArray = ls at hl ⊢
  have hl : lv_has ls 8 [(0, .ref q), (1, .int x1), (2, .int x2), (3, .int x3), (4, .int x4)] := hl
  exact t_m_teach_0 zc hK hM va_S.rf (lv_sub hl [0, 1, 2, 3, 4] rfl) hw
-- m_count
abbrev rm_m_count : Room := { frames := 1, cells := 0, slots := 0, locals := 22 }
def q_m_count_0 (f_code : Int32) (a_many : Nat → Int32) (x1 : Int32) (post : Int32 → (Int32) → Prop) : Prop :=
  q_m_in_0 x1 (0 : Int32) (3 : Int32) (fun r_1 => (r_1 = 0 → (post (-2 : Int32) (0 : Int32))) ∧ (¬ r_1 = 0 → (vp_in x1 16 ∧ (post (a_many (Int32.toNatClampNeg x1)) (0 : Int32)))))
set_option maxRecDepth 20000 in
theorem t_m_count_0 {p : Program} {l : Launch} {e : Env} {s : State} {m : MethodId} {args : Array Value} {below : List Frame} {meth : Method} {c : Code} {E : zE} {q : Nat} {f_code : Int32} {a_tape : Nat → Int32} {a_size : Nat → Int32} {a_fault : Nat → Int32} {a_faultPlace : Nat → Int32} {a_many : Nat → Int32} {a_lands : Nat → Int32} {a_evenings : Nat → Int32} {a_sights : Nat → Int32} {a_choirs : Nat → Int32} {f_reached : Int32} {f_length : Int32} {f_begins : Int32} {f_sort : Int32} {f_value : Int32} {f_word : Int64} {f_wrongAt : Int32} {f_laterFault : Int32} {f_laterPlace : Int32} {a_told : Nat → Int32} {a_read : Nat → Int32} {f_farHut : Int32} {f_farSinger : Int32} {f_good : Int32} {f_land : Int32} {f_huts : Int32} {f_singers : Int32} {f_evening : Int32} {a_at : Nat → Int32} {a_knows : Nat → Int32} {a_climbed : Nat → Int32} {a_snow : Nat → Int32} {a_level : Nat → Int32} {f_begun : Int32} {f_minute : Int32} {f_avalanches : Int32} {a_run : Nat → Int32} {a_covers : Nat → Int32} {a_routes : Nat → Int32} {a_longest : Nat → Int32} {a_steep : Nat → Int32} {a_laid : Nat → Int32} {a_far : Nat → Int32} {f_sight : Int32} {a_runs : Nat → Int32} {f_choir : Int32} {f_voices : Int32} {a_rest : Nat → Int64} {a_wins : Nat → Int32} {f_seed : Int32} {a_other : Nat → Int32} {a_kept : Nat → Int32} {post : Int32 → (Int32) → Prop} {x1 : Int32} {ls : Array Slot} {H : Heap} {locs : List Loc}
    (zc : zC p s m args meth c cX11_count 2 RX11 (some .int))
    (hK : zK E s)
    (hM : mW E q f_code a_tape a_size a_fault a_faultPlace a_many a_lands a_evenings a_sights a_choirs f_reached f_length f_begins f_sort f_value f_word f_wrongAt f_laterFault f_laterPlace a_told a_read f_farHut f_farSinger f_good f_land f_huts f_singers f_evening a_at a_knows a_climbed a_snow a_level f_begun f_minute f_avalanches a_run a_covers a_routes a_longest a_steep a_laid a_far f_sight a_runs f_choir f_voices a_rest a_wins f_seed a_other a_kept H)
    (hS : va_S (mA q) s.heap H locs)
    (hl : lv_has ls 2 [(0, .ref q), (1, .int x1)])
    (hw : q_m_count_0 f_code a_many x1 post) :
    W p l e rm_m_count s m args below meth c H locs 0 0 (MQ below (zQi (S := (Int32)) (fun r u => post r u) (fun u H => mW E q u a_tape a_size a_fault a_faultPlace a_many a_lands a_evenings a_sights a_choirs f_reached f_length f_begins f_sort f_value f_word f_wrongAt f_laterFault f_laterPlace a_told a_read f_farHut f_farSinger f_good f_land f_huts f_singers f_evening a_at a_knows a_climbed a_snow a_level f_begun f_minute f_avalanches a_run a_covers a_routes a_longest a_steep a_laid a_far f_sight a_runs f_choir f_voices a_rest a_wins f_seed a_other a_kept H) (mA q)) args s 0 0 (mA q)) (F0 m 0 ls []) := by
  have hx := zc.1
  have hb := zc.2.1
  refine lv_aload_n hx hb dX11_count_0 rfl (lv_at hl 0 rfl) ?_
  refine lv_iconst (v := (0 : Int32)) hx hb dX11_count_1 (by decide) ?_
  refine mp_11_97_0 zc hK hM hS dX11_count_2 (fun H locs hM hS => ?_)
  refine lv_iload_n hx hb dX11_count_5 rfl (lv_at hl 1 rfl) ?_
  refine lv_iconst (v := (0 : Int32)) hx hb dX11_count_6 (by decide) ?_
  refine lv_iconst (v := (3 : Int32)) hx hb dX11_count_7 (by decide) ?_
  refine zS_i [.int x1, .int (0 : Int32), .int (3 : Int32)] [] zc ky_X11_in kz_X11_in km_11_109 (c_m_in l hw) (zPre0 _) rfl rfl hl.1 (Nat.le_of_ble_eq_true rfl) ⟨rfl, rfl⟩ ⟨Nat.le_of_ble_eq_true rfl, Nat.le_of_ble_eq_true rfl⟩ ⟨(Nat.zero_le _), (Nat.zero_le _)⟩ dX11_count_8 (fun r_1 hw => ?_)
  refine lv_if_eq (tgt := 23) hx hb dX11_count_11 (by decide) (fun hc => ?_) (fun hc => ?_)
  · have hw := hw.1 hc
    refine lv_bipush (v := (-2 : Int32)) hx hb dX11_count_23 (by decide) ?_
    exact zret_iw (0 : Int32) zc hS hw hM dX11_count_25
  · have hw := hw.2 hc
    refine lv_aload_n hx hb dX11_count_14 rfl (lv_at hl 0 rfl) ?_
    refine mg_11_23_0 zc hK hM dX11_count_15 ?_
    refine lv_iload_n hx hb dX11_count_18 rfl (lv_at hl 1 rfl) ?_
    refine mld_5 zc hK hM hw.1 dX11_count_19 ?_
    have hw := hw.2
    refine lv_goto (tgt := 25) hx hb dX11_count_20 (by decide) ?_
    exact zret_iw (0 : Int32) zc hS hw hM dX11_count_25
set_option maxRecDepth 20000 in
theorem c_m_count (l : Launch) {E : zE} {q : Nat} {f_code : Int32} {a_tape : Nat → Int32} {a_size : Nat → Int32} {a_fault : Nat → Int32} {a_faultPlace : Nat → Int32} {a_many : Nat → Int32} {a_lands : Nat → Int32} {a_evenings : Nat → Int32} {a_sights : Nat → Int32} {a_choirs : Nat → Int32} {f_reached : Int32} {f_length : Int32} {f_begins : Int32} {f_sort : Int32} {f_value : Int32} {f_word : Int64} {f_wrongAt : Int32} {f_laterFault : Int32} {f_laterPlace : Int32} {a_told : Nat → Int32} {a_read : Nat → Int32} {f_farHut : Int32} {f_farSinger : Int32} {f_good : Int32} {f_land : Int32} {f_huts : Int32} {f_singers : Int32} {f_evening : Int32} {a_at : Nat → Int32} {a_knows : Nat → Int32} {a_climbed : Nat → Int32} {a_snow : Nat → Int32} {a_level : Nat → Int32} {f_begun : Int32} {f_minute : Int32} {f_avalanches : Int32} {a_run : Nat → Int32} {a_covers : Nat → Int32} {a_routes : Nat → Int32} {a_longest : Nat → Int32} {a_steep : Nat → Int32} {a_laid : Nat → Int32} {a_far : Nat → Int32} {f_sight : Int32} {a_runs : Nat → Int32} {f_choir : Int32} {f_voices : Int32} {a_rest : Nat → Int64} {a_wins : Nat → Int32} {f_seed : Int32} {a_other : Nat → Int32} {a_kept : Nat → Int32} {x1 : Int32} {post : Int32 → (Int32) → Prop} (hw : q_m_count_0 f_code a_many x1 post) : Met l yX11_count (Cond.code yX11_count cX11_count 2 (some .int) :: zb) rm_m_count (va_Pc [.ref q, .int x1] (fun U => mW E q f_code a_tape a_size a_fault a_faultPlace a_many a_lands a_evenings a_sights a_choirs f_reached f_length f_begins f_sort f_value f_word f_wrongAt f_laterFault f_laterPlace a_told a_read f_farHut f_farSinger f_good f_land f_huts f_singers f_evening a_at a_knows a_climbed a_snow a_level f_begun f_minute f_avalanches a_run a_covers a_routes a_longest a_steep a_laid a_far f_sight a_runs f_choir f_voices a_rest a_wins f_seed a_other a_kept U.heap ∧ zK E U)) (zQi (S := (Int32)) (fun r u => post r u) (fun u H => mW E q u a_tape a_size a_fault a_faultPlace a_many a_lands a_evenings a_sights a_choirs f_reached f_length f_begins f_sort f_value f_word f_wrongAt f_laterFault f_laterPlace a_told a_read f_farHut f_farSinger f_good f_land f_huts f_singers f_evening a_at a_knows a_climbed a_snow a_level f_begun f_minute f_avalanches a_run a_covers a_routes a_longest a_steep a_laid a_far f_sight a_runs f_choir f_voices a_rest a_wins f_seed a_other a_kept H) (mA q)) 0 0 (mA q) := by
  refine Met.ofW (cc := cX11_count) (maxL := 2) (ret := (some .int)) (by decide) rfl ?_
  intro p e s m args below meth c s₁ B hml hv
  obtain ⟨rfl, hM, hK⟩ := hv
  have zc := zc_of B hml
  have hl := lv_entry ([.ref q, .int x1]) (n := 2) (Nat.le_of_ble_eq_true rfl)
  rw [lg_entry_eq]
  generalize (lg_sl ([.ref q, .int x1]) ++ List.replicate (2 - (lg_sl ([.ref q, .int x1])).length) Slot.unset).toArray = ls at hl ⊢
  have hl : lv_has ls 2 [(0, .ref q), (1, .int x1)] := hl
  exact t_m_count_0 zc hK hM va_S.rf (lv_sub hl [0, 1] rfl) hw
-- m_image
abbrev rm_m_image : Room := { frames := 2, cells := 0, slots := 0, locals := 47 }
def q_m_image_0 (f_code : Int32) (a_tape : Nat → Int32) (a_size : Nat → Int32) (a_fault : Nat → Int32) (a_faultPlace : Nat → Int32) (a_many : Nat → Int32) (a_lands : Nat → Int32) (a_evenings : Nat → Int32) (a_sights : Nat → Int32) (a_choirs : Nat → Int32) (a_kept : Nat → Int32) (x1 : Int32) (post : Int32 → (Int32) → (Nat → Int32) → (Nat → Int32) → (Nat → Int32) → (Nat → Int32) → (Nat → Int32) → (Nat → Int32) → (Nat → Int32) → (Nat → Int32) → (Nat → Int32) → (Nat → Int32) → Prop) : Prop :=
  q_m_in_0 x1 (0 : Int32) (2 : Int32) (fun r_1 => (¬ r_1 = 0 → (q_m_copyAll_0 a_tape a_size a_fault a_faultPlace a_many a_lands a_evenings a_sights a_choirs (0 : Int32) (x1 + (1 : Int32)) (fun a_tape_1 a_size_1 a_fault_1 a_faultPlace_1 a_many_1 a_lands_1 a_evenings_1 a_sights_1 a_choirs_1 => vp_in x1 3 ∧ (∀ a_kept_1 : Nat → Int32, a_kept_1 = upd a_kept (Int32.toNatClampNeg x1) (vp_nar .boolean (1 : Int32)) → (post (1 : Int32) (0 : Int32) a_tape_1 a_size_1 a_fault_1 a_faultPlace_1 a_many_1 a_lands_1 a_evenings_1 a_sights_1 a_choirs_1 a_kept_1))))) ∧ (r_1 = 0 → (post (0 : Int32) (0 : Int32) a_tape a_size a_fault a_faultPlace a_many a_lands a_evenings a_sights a_choirs a_kept)))
set_option maxRecDepth 20000 in
theorem t_m_image_0 {p : Program} {l : Launch} {e : Env} {s : State} {m : MethodId} {args : Array Value} {below : List Frame} {meth : Method} {c : Code} {E : zE} {q : Nat} {f_code : Int32} {a_tape : Nat → Int32} {a_size : Nat → Int32} {a_fault : Nat → Int32} {a_faultPlace : Nat → Int32} {a_many : Nat → Int32} {a_lands : Nat → Int32} {a_evenings : Nat → Int32} {a_sights : Nat → Int32} {a_choirs : Nat → Int32} {f_reached : Int32} {f_length : Int32} {f_begins : Int32} {f_sort : Int32} {f_value : Int32} {f_word : Int64} {f_wrongAt : Int32} {f_laterFault : Int32} {f_laterPlace : Int32} {a_told : Nat → Int32} {a_read : Nat → Int32} {f_farHut : Int32} {f_farSinger : Int32} {f_good : Int32} {f_land : Int32} {f_huts : Int32} {f_singers : Int32} {f_evening : Int32} {a_at : Nat → Int32} {a_knows : Nat → Int32} {a_climbed : Nat → Int32} {a_snow : Nat → Int32} {a_level : Nat → Int32} {f_begun : Int32} {f_minute : Int32} {f_avalanches : Int32} {a_run : Nat → Int32} {a_covers : Nat → Int32} {a_routes : Nat → Int32} {a_longest : Nat → Int32} {a_steep : Nat → Int32} {a_laid : Nat → Int32} {a_far : Nat → Int32} {f_sight : Int32} {a_runs : Nat → Int32} {f_choir : Int32} {f_voices : Int32} {a_rest : Nat → Int64} {a_wins : Nat → Int32} {f_seed : Int32} {a_other : Nat → Int32} {a_kept : Nat → Int32} {post : Int32 → (Int32) → (Nat → Int32) → (Nat → Int32) → (Nat → Int32) → (Nat → Int32) → (Nat → Int32) → (Nat → Int32) → (Nat → Int32) → (Nat → Int32) → (Nat → Int32) → (Nat → Int32) → Prop} {x1 : Int32} {ls : Array Slot} {H : Heap} {locs : List Loc}
    (zc : zC p s m args meth c cX11_image 2 RX11 (some .boolean))
    (hK : zK E s)
    (hM : mW E q f_code a_tape a_size a_fault a_faultPlace a_many a_lands a_evenings a_sights a_choirs f_reached f_length f_begins f_sort f_value f_word f_wrongAt f_laterFault f_laterPlace a_told a_read f_farHut f_farSinger f_good f_land f_huts f_singers f_evening a_at a_knows a_climbed a_snow a_level f_begun f_minute f_avalanches a_run a_covers a_routes a_longest a_steep a_laid a_far f_sight a_runs f_choir f_voices a_rest a_wins f_seed a_other a_kept H)
    (hS : va_S (mA q) s.heap H locs)
    (hl : lv_has ls 2 [(0, .ref q), (1, .int x1)])
    (hw : q_m_image_0 f_code a_tape a_size a_fault a_faultPlace a_many a_lands a_evenings a_sights a_choirs a_kept x1 post) :
    W p l e rm_m_image s m args below meth c H locs 0 0 (MQ below (zQi (S := (Int32) × (Nat → Int32) × (Nat → Int32) × (Nat → Int32) × (Nat → Int32) × (Nat → Int32) × (Nat → Int32) × (Nat → Int32) × (Nat → Int32) × (Nat → Int32) × (Nat → Int32)) (fun r u => post r u.1 u.2.1 u.2.2.1 u.2.2.2.1 u.2.2.2.2.1 u.2.2.2.2.2.1 u.2.2.2.2.2.2.1 u.2.2.2.2.2.2.2.1 u.2.2.2.2.2.2.2.2.1 u.2.2.2.2.2.2.2.2.2.1 u.2.2.2.2.2.2.2.2.2.2) (fun u H => mW E q u.1 u.2.1 u.2.2.1 u.2.2.2.1 u.2.2.2.2.1 u.2.2.2.2.2.1 u.2.2.2.2.2.2.1 u.2.2.2.2.2.2.2.1 u.2.2.2.2.2.2.2.2.1 u.2.2.2.2.2.2.2.2.2.1 f_reached f_length f_begins f_sort f_value f_word f_wrongAt f_laterFault f_laterPlace a_told a_read f_farHut f_farSinger f_good f_land f_huts f_singers f_evening a_at a_knows a_climbed a_snow a_level f_begun f_minute f_avalanches a_run a_covers a_routes a_longest a_steep a_laid a_far f_sight a_runs f_choir f_voices a_rest a_wins f_seed a_other u.2.2.2.2.2.2.2.2.2.2 H) (mA q)) args s 0 0 (mA q)) (F0 m 0 ls []) := by
  have hx := zc.1
  have hb := zc.2.1
  refine lv_aload_n hx hb dX11_image_0 rfl (lv_at hl 0 rfl) ?_
  refine lv_iconst (v := (0 : Int32)) hx hb dX11_image_1 (by decide) ?_
  refine mp_11_97_0 zc hK hM hS dX11_image_2 (fun H locs hM hS => ?_)
  refine lv_iload_n hx hb dX11_image_5 rfl (lv_at hl 1 rfl) ?_
  refine lv_iconst (v := (0 : Int32)) hx hb dX11_image_6 (by decide) ?_
  refine lv_iconst (v := (2 : Int32)) hx hb dX11_image_7 (by decide) ?_
  refine zS_i [.int x1, .int (0 : Int32), .int (2 : Int32)] [] zc ky_X11_in kz_X11_in km_11_109 (c_m_in l hw) (zPre0 _) rfl rfl hl.1 (Nat.le_of_ble_eq_true rfl) ⟨rfl, rfl⟩ ⟨Nat.le_of_ble_eq_true rfl, Nat.le_of_ble_eq_true rfl⟩ ⟨(Nat.zero_le _), (Nat.zero_le _)⟩ dX11_image_8 (fun r_1 hw => ?_)
  refine lv_if_ne (tgt := 16) hx hb dX11_image_11 (by decide) (fun hc => ?_) (fun hc => ?_)
  · have hw := hw.1 hc
    refine lv_aload_n hx hb dX11_image_16 rfl (lv_at hl 0 rfl) ?_
    refine lv_iconst (v := (0 : Int32)) hx hb dX11_image_17 (by decide) ?_
    refine lv_iload_n hx hb dX11_image_18 rfl (lv_at hl 1 rfl) ?_
    refine lv_iconst (v := (1 : Int32)) hx hb dX11_image_19 (by decide) ?_
    refine lv_iadd hx hb dX11_image_20 ?_
    refine zVw_v [.int (0 : Int32), .int (x1 + (1 : Int32))] [] zc ky_X11_copyAll kz_X11_copyAll km_11_528 (c_m_copyAll l hw) (mPreV0 hK hM) hS rfl rfl hl.1 (Nat.le_of_ble_eq_true rfl) ⟨rfl, rfl⟩ ⟨Nat.le_of_ble_eq_true rfl, Nat.le_of_ble_eq_true rfl⟩ ⟨(Nat.zero_le _), (Nat.zero_le _)⟩ dX11_image_21 (fun u H locs hw hM hS => ?_)
    obtain ⟨a_tape_1, a_size_1, a_fault_1, a_faultPlace_1, a_many_1, a_lands_1, a_evenings_1, a_sights_1, a_choirs_1⟩ := u
    refine lv_aload_n hx hb dX11_image_24 rfl (lv_at hl 0 rfl) ?_
    refine mg_11_94_0 zc hK hM dX11_image_25 ?_
    refine lv_iload_n hx hb dX11_image_28 rfl (lv_at hl 1 rfl) ?_
    refine lv_iconst (v := (1 : Int32)) hx hb dX11_image_29 (by decide) ?_
    refine mst_28 zc hK hM hS hw.1 dX11_image_30 (fun a_kept_1 H locs ea_kept_1 hM hS => ?_)
    have hw := hw.2 a_kept_1 ea_kept_1
    refine lv_iconst (v := (1 : Int32)) hx hb dX11_image_31 (by decide) ?_
    exact zret_zw ⟨(0 : Int32), a_tape_1, a_size_1, a_fault_1, a_faultPlace_1, a_many_1, a_lands_1, a_evenings_1, a_sights_1, a_choirs_1, a_kept_1⟩ zc hS rfl hw hM dX11_image_32
  · have hw := hw.2 hc
    refine lv_iconst (v := (0 : Int32)) hx hb dX11_image_14 (by decide) ?_
    exact zret_zw ⟨(0 : Int32), a_tape, a_size, a_fault, a_faultPlace, a_many, a_lands, a_evenings, a_sights, a_choirs, a_kept⟩ zc hS rfl hw hM dX11_image_15
set_option maxRecDepth 20000 in
theorem c_m_image (l : Launch) {E : zE} {q : Nat} {f_code : Int32} {a_tape : Nat → Int32} {a_size : Nat → Int32} {a_fault : Nat → Int32} {a_faultPlace : Nat → Int32} {a_many : Nat → Int32} {a_lands : Nat → Int32} {a_evenings : Nat → Int32} {a_sights : Nat → Int32} {a_choirs : Nat → Int32} {f_reached : Int32} {f_length : Int32} {f_begins : Int32} {f_sort : Int32} {f_value : Int32} {f_word : Int64} {f_wrongAt : Int32} {f_laterFault : Int32} {f_laterPlace : Int32} {a_told : Nat → Int32} {a_read : Nat → Int32} {f_farHut : Int32} {f_farSinger : Int32} {f_good : Int32} {f_land : Int32} {f_huts : Int32} {f_singers : Int32} {f_evening : Int32} {a_at : Nat → Int32} {a_knows : Nat → Int32} {a_climbed : Nat → Int32} {a_snow : Nat → Int32} {a_level : Nat → Int32} {f_begun : Int32} {f_minute : Int32} {f_avalanches : Int32} {a_run : Nat → Int32} {a_covers : Nat → Int32} {a_routes : Nat → Int32} {a_longest : Nat → Int32} {a_steep : Nat → Int32} {a_laid : Nat → Int32} {a_far : Nat → Int32} {f_sight : Int32} {a_runs : Nat → Int32} {f_choir : Int32} {f_voices : Int32} {a_rest : Nat → Int64} {a_wins : Nat → Int32} {f_seed : Int32} {a_other : Nat → Int32} {a_kept : Nat → Int32} {x1 : Int32} {post : Int32 → (Int32) → (Nat → Int32) → (Nat → Int32) → (Nat → Int32) → (Nat → Int32) → (Nat → Int32) → (Nat → Int32) → (Nat → Int32) → (Nat → Int32) → (Nat → Int32) → (Nat → Int32) → Prop} (hw : q_m_image_0 f_code a_tape a_size a_fault a_faultPlace a_many a_lands a_evenings a_sights a_choirs a_kept x1 post) : Met l yX11_image (Cond.code yX11_image cX11_image 2 (some .boolean) :: zb) rm_m_image (va_Pc [.ref q, .int x1] (fun U => mW E q f_code a_tape a_size a_fault a_faultPlace a_many a_lands a_evenings a_sights a_choirs f_reached f_length f_begins f_sort f_value f_word f_wrongAt f_laterFault f_laterPlace a_told a_read f_farHut f_farSinger f_good f_land f_huts f_singers f_evening a_at a_knows a_climbed a_snow a_level f_begun f_minute f_avalanches a_run a_covers a_routes a_longest a_steep a_laid a_far f_sight a_runs f_choir f_voices a_rest a_wins f_seed a_other a_kept U.heap ∧ zK E U)) (zQi (S := (Int32) × (Nat → Int32) × (Nat → Int32) × (Nat → Int32) × (Nat → Int32) × (Nat → Int32) × (Nat → Int32) × (Nat → Int32) × (Nat → Int32) × (Nat → Int32) × (Nat → Int32)) (fun r u => post r u.1 u.2.1 u.2.2.1 u.2.2.2.1 u.2.2.2.2.1 u.2.2.2.2.2.1 u.2.2.2.2.2.2.1 u.2.2.2.2.2.2.2.1 u.2.2.2.2.2.2.2.2.1 u.2.2.2.2.2.2.2.2.2.1 u.2.2.2.2.2.2.2.2.2.2) (fun u H => mW E q u.1 u.2.1 u.2.2.1 u.2.2.2.1 u.2.2.2.2.1 u.2.2.2.2.2.1 u.2.2.2.2.2.2.1 u.2.2.2.2.2.2.2.1 u.2.2.2.2.2.2.2.2.1 u.2.2.2.2.2.2.2.2.2.1 f_reached f_length f_begins f_sort f_value f_word f_wrongAt f_laterFault f_laterPlace a_told a_read f_farHut f_farSinger f_good f_land f_huts f_singers f_evening a_at a_knows a_climbed a_snow a_level f_begun f_minute f_avalanches a_run a_covers a_routes a_longest a_steep a_laid a_far f_sight a_runs f_choir f_voices a_rest a_wins f_seed a_other u.2.2.2.2.2.2.2.2.2.2 H) (mA q)) 0 0 (mA q) := by
  refine Met.ofW (cc := cX11_image) (maxL := 2) (ret := (some .boolean)) (by decide) rfl ?_
  intro p e s m args below meth c s₁ B hml hv
  obtain ⟨rfl, hM, hK⟩ := hv
  have zc := zc_of B hml
  have hl := lv_entry ([.ref q, .int x1]) (n := 2) (Nat.le_of_ble_eq_true rfl)
  rw [lg_entry_eq]
  generalize (lg_sl ([.ref q, .int x1]) ++ List.replicate (2 - (lg_sl ([.ref q, .int x1])).length) Slot.unset).toArray = ls at hl ⊢
  have hl : lv_has ls 2 [(0, .ref q), (1, .int x1)] := hl
  exact t_m_image_0 zc hK hM va_S.rf (lv_sub hl [0, 1] rfl) hw
-- m_again
abbrev rm_m_again : Room := { frames := 2, cells := 0, slots := 0, locals := 47 }
def q_m_again_0 (f_code : Int32) (a_tape : Nat → Int32) (a_size : Nat → Int32) (a_fault : Nat → Int32) (a_faultPlace : Nat → Int32) (a_many : Nat → Int32) (a_lands : Nat → Int32) (a_evenings : Nat → Int32) (a_sights : Nat → Int32) (a_choirs : Nat → Int32) (a_kept : Nat → Int32) (x1 : Int32) (post : Int32 → (Int32) → (Nat → Int32) → (Nat → Int32) → (Nat → Int32) → (Nat → Int32) → (Nat → Int32) → (Nat → Int32) → (Nat → Int32) → (Nat → Int32) → (Nat → Int32) → Prop) : Prop :=
  q_m_in_0 x1 (0 : Int32) (2 : Int32) (fun r_1 => (r_1 = 0 → (post (0 : Int32) (0 : Int32) a_tape a_size a_fault a_faultPlace a_many a_lands a_evenings a_sights a_choirs)) ∧ (¬ r_1 = 0 → (vp_in x1 3 ∧ ((¬ (a_kept (Int32.toNatClampNeg x1)) = 0 → (q_m_copyAll_0 a_tape a_size a_fault a_faultPlace a_many a_lands a_evenings a_sights a_choirs (x1 + (1 : Int32)) (0 : Int32) (fun a_tape_1 a_size_1 a_fault_1 a_faultPlace_1 a_many_1 a_lands_1 a_evenings_1 a_sights_1 a_choirs_1 => post (1 : Int32) (0 : Int32) a_tape_1 a_size_1 a_fault_1 a_faultPlace_1 a_many_1 a_lands_1 a_evenings_1 a_sights_1 a_choirs_1))) ∧ ((a_kept (Int32.toNatClampNeg x1)) = 0 → (post (0 : Int32) (0 : Int32) a_tape a_size a_fault a_faultPlace a_many a_lands a_evenings a_sights a_choirs))))))
set_option maxRecDepth 20000 in
theorem t_m_again_0 {p : Program} {l : Launch} {e : Env} {s : State} {m : MethodId} {args : Array Value} {below : List Frame} {meth : Method} {c : Code} {E : zE} {q : Nat} {f_code : Int32} {a_tape : Nat → Int32} {a_size : Nat → Int32} {a_fault : Nat → Int32} {a_faultPlace : Nat → Int32} {a_many : Nat → Int32} {a_lands : Nat → Int32} {a_evenings : Nat → Int32} {a_sights : Nat → Int32} {a_choirs : Nat → Int32} {f_reached : Int32} {f_length : Int32} {f_begins : Int32} {f_sort : Int32} {f_value : Int32} {f_word : Int64} {f_wrongAt : Int32} {f_laterFault : Int32} {f_laterPlace : Int32} {a_told : Nat → Int32} {a_read : Nat → Int32} {f_farHut : Int32} {f_farSinger : Int32} {f_good : Int32} {f_land : Int32} {f_huts : Int32} {f_singers : Int32} {f_evening : Int32} {a_at : Nat → Int32} {a_knows : Nat → Int32} {a_climbed : Nat → Int32} {a_snow : Nat → Int32} {a_level : Nat → Int32} {f_begun : Int32} {f_minute : Int32} {f_avalanches : Int32} {a_run : Nat → Int32} {a_covers : Nat → Int32} {a_routes : Nat → Int32} {a_longest : Nat → Int32} {a_steep : Nat → Int32} {a_laid : Nat → Int32} {a_far : Nat → Int32} {f_sight : Int32} {a_runs : Nat → Int32} {f_choir : Int32} {f_voices : Int32} {a_rest : Nat → Int64} {a_wins : Nat → Int32} {f_seed : Int32} {a_other : Nat → Int32} {a_kept : Nat → Int32} {post : Int32 → (Int32) → (Nat → Int32) → (Nat → Int32) → (Nat → Int32) → (Nat → Int32) → (Nat → Int32) → (Nat → Int32) → (Nat → Int32) → (Nat → Int32) → (Nat → Int32) → Prop} {x1 : Int32} {ls : Array Slot} {H : Heap} {locs : List Loc}
    (zc : zC p s m args meth c cX11_again 2 RX11 (some .boolean))
    (hK : zK E s)
    (hM : mW E q f_code a_tape a_size a_fault a_faultPlace a_many a_lands a_evenings a_sights a_choirs f_reached f_length f_begins f_sort f_value f_word f_wrongAt f_laterFault f_laterPlace a_told a_read f_farHut f_farSinger f_good f_land f_huts f_singers f_evening a_at a_knows a_climbed a_snow a_level f_begun f_minute f_avalanches a_run a_covers a_routes a_longest a_steep a_laid a_far f_sight a_runs f_choir f_voices a_rest a_wins f_seed a_other a_kept H)
    (hS : va_S (mA q) s.heap H locs)
    (hl : lv_has ls 2 [(0, .ref q), (1, .int x1)])
    (hw : q_m_again_0 f_code a_tape a_size a_fault a_faultPlace a_many a_lands a_evenings a_sights a_choirs a_kept x1 post) :
    W p l e rm_m_again s m args below meth c H locs 0 0 (MQ below (zQi (S := (Int32) × (Nat → Int32) × (Nat → Int32) × (Nat → Int32) × (Nat → Int32) × (Nat → Int32) × (Nat → Int32) × (Nat → Int32) × (Nat → Int32) × (Nat → Int32)) (fun r u => post r u.1 u.2.1 u.2.2.1 u.2.2.2.1 u.2.2.2.2.1 u.2.2.2.2.2.1 u.2.2.2.2.2.2.1 u.2.2.2.2.2.2.2.1 u.2.2.2.2.2.2.2.2.1 u.2.2.2.2.2.2.2.2.2) (fun u H => mW E q u.1 u.2.1 u.2.2.1 u.2.2.2.1 u.2.2.2.2.1 u.2.2.2.2.2.1 u.2.2.2.2.2.2.1 u.2.2.2.2.2.2.2.1 u.2.2.2.2.2.2.2.2.1 u.2.2.2.2.2.2.2.2.2 f_reached f_length f_begins f_sort f_value f_word f_wrongAt f_laterFault f_laterPlace a_told a_read f_farHut f_farSinger f_good f_land f_huts f_singers f_evening a_at a_knows a_climbed a_snow a_level f_begun f_minute f_avalanches a_run a_covers a_routes a_longest a_steep a_laid a_far f_sight a_runs f_choir f_voices a_rest a_wins f_seed a_other a_kept H) (mA q)) args s 0 0 (mA q)) (F0 m 0 ls []) := by
  have hx := zc.1
  have hb := zc.2.1
  refine lv_aload_n hx hb dX11_again_0 rfl (lv_at hl 0 rfl) ?_
  refine lv_iconst (v := (0 : Int32)) hx hb dX11_again_1 (by decide) ?_
  refine mp_11_97_0 zc hK hM hS dX11_again_2 (fun H locs hM hS => ?_)
  refine lv_iload_n hx hb dX11_again_5 rfl (lv_at hl 1 rfl) ?_
  refine lv_iconst (v := (0 : Int32)) hx hb dX11_again_6 (by decide) ?_
  refine lv_iconst (v := (2 : Int32)) hx hb dX11_again_7 (by decide) ?_
  refine zS_i [.int x1, .int (0 : Int32), .int (2 : Int32)] [] zc ky_X11_in kz_X11_in km_11_109 (c_m_in l hw) (zPre0 _) rfl rfl hl.1 (Nat.le_of_ble_eq_true rfl) ⟨rfl, rfl⟩ ⟨Nat.le_of_ble_eq_true rfl, Nat.le_of_ble_eq_true rfl⟩ ⟨(Nat.zero_le _), (Nat.zero_le _)⟩ dX11_again_8 (fun r_1 hw => ?_)
  refine lv_if_eq (tgt := 23) hx hb dX11_again_11 (by decide) (fun hc => ?_) (fun hc => ?_)
  · have hw := hw.1 hc
    refine lv_iconst (v := (0 : Int32)) hx hb dX11_again_23 (by decide) ?_
    exact zret_zw ⟨(0 : Int32), a_tape, a_size, a_fault, a_faultPlace, a_many, a_lands, a_evenings, a_sights, a_choirs⟩ zc hS rfl hw hM dX11_again_24
  · have hw := hw.2 hc
    refine lv_aload_n hx hb dX11_again_14 rfl (lv_at hl 0 rfl) ?_
    refine mg_11_94_0 zc hK hM dX11_again_15 ?_
    refine lv_iload_n hx hb dX11_again_18 rfl (lv_at hl 1 rfl) ?_
    refine mld_28 zc hK hM hw.1 dX11_again_19 ?_
    have hw := hw.2
    refine lv_if_ne (tgt := 25) hx hb dX11_again_20 (by decide) (fun hc => ?_) (fun hc => ?_)
    · have hw := hw.1 hc
      refine lv_aload_n hx hb dX11_again_25 rfl (lv_at hl 0 rfl) ?_
      refine lv_iload_n hx hb dX11_again_26 rfl (lv_at hl 1 rfl) ?_
      refine lv_iconst (v := (1 : Int32)) hx hb dX11_again_27 (by decide) ?_
      refine lv_iadd hx hb dX11_again_28 ?_
      refine lv_iconst (v := (0 : Int32)) hx hb dX11_again_29 (by decide) ?_
      refine zVw_v [.int (x1 + (1 : Int32)), .int (0 : Int32)] [] zc ky_X11_copyAll kz_X11_copyAll km_11_528 (c_m_copyAll l hw) (mPreV0 hK hM) hS rfl rfl hl.1 (Nat.le_of_ble_eq_true rfl) ⟨rfl, rfl⟩ ⟨Nat.le_of_ble_eq_true rfl, Nat.le_of_ble_eq_true rfl⟩ ⟨(Nat.zero_le _), (Nat.zero_le _)⟩ dX11_again_30 (fun u H locs hw hM hS => ?_)
      obtain ⟨a_tape_1, a_size_1, a_fault_1, a_faultPlace_1, a_many_1, a_lands_1, a_evenings_1, a_sights_1, a_choirs_1⟩ := u
      refine lv_iconst (v := (1 : Int32)) hx hb dX11_again_33 (by decide) ?_
      exact zret_zw ⟨(0 : Int32), a_tape_1, a_size_1, a_fault_1, a_faultPlace_1, a_many_1, a_lands_1, a_evenings_1, a_sights_1, a_choirs_1⟩ zc hS rfl hw hM dX11_again_34
    · have hw := hw.2 hc
      refine lv_iconst (v := (0 : Int32)) hx hb dX11_again_23 (by decide) ?_
      exact zret_zw ⟨(0 : Int32), a_tape, a_size, a_fault, a_faultPlace, a_many, a_lands, a_evenings, a_sights, a_choirs⟩ zc hS rfl hw hM dX11_again_24
set_option maxRecDepth 20000 in
theorem c_m_again (l : Launch) {E : zE} {q : Nat} {f_code : Int32} {a_tape : Nat → Int32} {a_size : Nat → Int32} {a_fault : Nat → Int32} {a_faultPlace : Nat → Int32} {a_many : Nat → Int32} {a_lands : Nat → Int32} {a_evenings : Nat → Int32} {a_sights : Nat → Int32} {a_choirs : Nat → Int32} {f_reached : Int32} {f_length : Int32} {f_begins : Int32} {f_sort : Int32} {f_value : Int32} {f_word : Int64} {f_wrongAt : Int32} {f_laterFault : Int32} {f_laterPlace : Int32} {a_told : Nat → Int32} {a_read : Nat → Int32} {f_farHut : Int32} {f_farSinger : Int32} {f_good : Int32} {f_land : Int32} {f_huts : Int32} {f_singers : Int32} {f_evening : Int32} {a_at : Nat → Int32} {a_knows : Nat → Int32} {a_climbed : Nat → Int32} {a_snow : Nat → Int32} {a_level : Nat → Int32} {f_begun : Int32} {f_minute : Int32} {f_avalanches : Int32} {a_run : Nat → Int32} {a_covers : Nat → Int32} {a_routes : Nat → Int32} {a_longest : Nat → Int32} {a_steep : Nat → Int32} {a_laid : Nat → Int32} {a_far : Nat → Int32} {f_sight : Int32} {a_runs : Nat → Int32} {f_choir : Int32} {f_voices : Int32} {a_rest : Nat → Int64} {a_wins : Nat → Int32} {f_seed : Int32} {a_other : Nat → Int32} {a_kept : Nat → Int32} {x1 : Int32} {post : Int32 → (Int32) → (Nat → Int32) → (Nat → Int32) → (Nat → Int32) → (Nat → Int32) → (Nat → Int32) → (Nat → Int32) → (Nat → Int32) → (Nat → Int32) → (Nat → Int32) → Prop} (hw : q_m_again_0 f_code a_tape a_size a_fault a_faultPlace a_many a_lands a_evenings a_sights a_choirs a_kept x1 post) : Met l yX11_again (Cond.code yX11_again cX11_again 2 (some .boolean) :: zb) rm_m_again (va_Pc [.ref q, .int x1] (fun U => mW E q f_code a_tape a_size a_fault a_faultPlace a_many a_lands a_evenings a_sights a_choirs f_reached f_length f_begins f_sort f_value f_word f_wrongAt f_laterFault f_laterPlace a_told a_read f_farHut f_farSinger f_good f_land f_huts f_singers f_evening a_at a_knows a_climbed a_snow a_level f_begun f_minute f_avalanches a_run a_covers a_routes a_longest a_steep a_laid a_far f_sight a_runs f_choir f_voices a_rest a_wins f_seed a_other a_kept U.heap ∧ zK E U)) (zQi (S := (Int32) × (Nat → Int32) × (Nat → Int32) × (Nat → Int32) × (Nat → Int32) × (Nat → Int32) × (Nat → Int32) × (Nat → Int32) × (Nat → Int32) × (Nat → Int32)) (fun r u => post r u.1 u.2.1 u.2.2.1 u.2.2.2.1 u.2.2.2.2.1 u.2.2.2.2.2.1 u.2.2.2.2.2.2.1 u.2.2.2.2.2.2.2.1 u.2.2.2.2.2.2.2.2.1 u.2.2.2.2.2.2.2.2.2) (fun u H => mW E q u.1 u.2.1 u.2.2.1 u.2.2.2.1 u.2.2.2.2.1 u.2.2.2.2.2.1 u.2.2.2.2.2.2.1 u.2.2.2.2.2.2.2.1 u.2.2.2.2.2.2.2.2.1 u.2.2.2.2.2.2.2.2.2 f_reached f_length f_begins f_sort f_value f_word f_wrongAt f_laterFault f_laterPlace a_told a_read f_farHut f_farSinger f_good f_land f_huts f_singers f_evening a_at a_knows a_climbed a_snow a_level f_begun f_minute f_avalanches a_run a_covers a_routes a_longest a_steep a_laid a_far f_sight a_runs f_choir f_voices a_rest a_wins f_seed a_other a_kept H) (mA q)) 0 0 (mA q) := by
  refine Met.ofW (cc := cX11_again) (maxL := 2) (ret := (some .boolean)) (by decide) rfl ?_
  intro p e s m args below meth c s₁ B hml hv
  obtain ⟨rfl, hM, hK⟩ := hv
  have zc := zc_of B hml
  have hl := lv_entry ([.ref q, .int x1]) (n := 2) (Nat.le_of_ble_eq_true rfl)
  rw [lg_entry_eq]
  generalize (lg_sl ([.ref q, .int x1]) ++ List.replicate (2 - (lg_sl ([.ref q, .int x1])).length) Slot.unset).toArray = ls at hl ⊢
  have hl : lv_has ls 2 [(0, .ref q), (1, .int x1)] := hl
  exact t_m_again_0 zc hK hM va_S.rf (lv_sub hl [0, 1] rfl) hw
end
section
-- wl_X2_hasHut
abbrev rm_wl_X2_hasHut : Room := { frames := 0, cells := 0, slots := 0, locals := 0 }
def q_wl_X2_hasHut_0 (f_huts : Int32) (x1 : Int32) (post : Int32 → Prop) : Prop :=
  (x1 < 0 → (post (0 : Int32))) ∧ (¬ x1 < 0 → ((f_huts ≤ x1 → (post (0 : Int32))) ∧ (¬ f_huts ≤ x1 → (post (1 : Int32)))))
set_option maxRecDepth 20000 in
theorem t_wl_X2_hasHut_0 {p : Program} {l : Launch} {e : Env} {s : State} {m : MethodId} {args : Array Value} {below : List Frame} {meth : Method} {c : Code} {E : zE} {ql : Nat} {f_huts : Int32} {f_singers : Int32} {f_villages : Int32} {f_dams : Int32} {f_echoes : Int32} {f_deep : Int32} {f_slide : Int32} {a_heights : Nat → Int32} {a_ladders : Nat → Int32} {a_minutes : Nat → Int32} {a_echoFrom : Nat → Int32} {a_echoTo : Nat → Int32} {a_homes : Nat → Int32} {a_talls : Nat → Int32} {a_known : Nat → Int32} {post : Int32 → Prop} {x1 : Int32} {ls : Array Slot}
    (zc : zC p s m args meth c cX2_hasHut 2 RX2 (some .boolean))
    (hK : zK E s)
    (hM : wlW E ql f_huts f_singers f_villages f_dams f_echoes f_deep f_slide a_heights a_ladders a_minutes a_echoFrom a_echoTo a_homes a_talls a_known s.heap)
    (hl : lv_has ls 2 [(0, .ref ql), (1, .int x1)])
    (hw : q_wl_X2_hasHut_0 f_huts x1 post) :
    W p l e rm_wl_X2_hasHut s m args below meth c s.heap [] 0 0 (MQ below (vp_Si post) args s 0 0 (fun _ => False)) (F0 m 0 ls []) := by
  have hx := zc.1
  have hb := zc.2.1
  refine lv_iload_n hx hb dX2_hasHut_0 rfl (lv_at hl 1 rfl) ?_
  refine lv_if_lt (tgt := 16) hx hb dX2_hasHut_1 (by decide) (fun hc => ?_) (fun hc => ?_)
  · have hw := hw.1 hc
    refine lv_iconst (v := (0 : Int32)) hx hb dX2_hasHut_16 (by decide) ?_
    exact zret_z zc rfl hw dX2_hasHut_17
  · have hw := hw.2 hc
    refine lv_iload_n hx hb dX2_hasHut_4 rfl (lv_at hl 1 rfl) ?_
    refine lv_aload_n hx hb dX2_hasHut_5 rfl (lv_at hl 0 rfl) ?_
    refine wlg_2_43_0 zc hK hM dX2_hasHut_6 ?_
    refine lv_icmp_ge (tgt := 16) hx hb dX2_hasHut_9 (by decide) (fun hc => ?_) (fun hc => ?_)
    · have hw := hw.1 hc
      refine lv_iconst (v := (0 : Int32)) hx hb dX2_hasHut_16 (by decide) ?_
      exact zret_z zc rfl hw dX2_hasHut_17
    · have hw := hw.2 hc
      refine lv_iconst (v := (1 : Int32)) hx hb dX2_hasHut_12 (by decide) ?_
      refine lv_goto (tgt := 17) hx hb dX2_hasHut_13 (by decide) ?_
      exact zret_z zc rfl hw dX2_hasHut_17
set_option maxRecDepth 20000 in
theorem c_wl_X2_hasHut (l : Launch) {E : zE} {ql : Nat} {f_huts : Int32} {f_singers : Int32} {f_villages : Int32} {f_dams : Int32} {f_echoes : Int32} {f_deep : Int32} {f_slide : Int32} {a_heights : Nat → Int32} {a_ladders : Nat → Int32} {a_minutes : Nat → Int32} {a_echoFrom : Nat → Int32} {a_echoTo : Nat → Int32} {a_homes : Nat → Int32} {a_talls : Nat → Int32} {a_known : Nat → Int32} {x1 : Int32} {post : Int32 → Prop} (hw : q_wl_X2_hasHut_0 f_huts x1 post) : Met l yX2_hasHut (Cond.code yX2_hasHut cX2_hasHut 2 (some .boolean) :: zb) rm_wl_X2_hasHut (va_Pc [.ref ql, .int x1] (fun U => wlW E ql f_huts f_singers f_villages f_dams f_echoes f_deep f_slide a_heights a_ladders a_minutes a_echoFrom a_echoTo a_homes a_talls a_known U.heap ∧ zK E U)) (vp_Si post) 0 0 (fun _ => False) := by
  refine Met.ofW (cc := cX2_hasHut) (maxL := 2) (ret := (some .boolean)) (by decide) rfl ?_
  intro p e s m args below meth c s₁ B hml hv
  obtain ⟨rfl, hM, hK⟩ := hv
  have zc := zc_of B hml
  have hl := lv_entry ([.ref ql, .int x1]) (n := 2) (Nat.le_of_ble_eq_true rfl)
  rw [lg_entry_eq]
  generalize (lg_sl ([.ref ql, .int x1]) ++ List.replicate (2 - (lg_sl ([.ref ql, .int x1])).length) Slot.unset).toArray = ls at hl ⊢
  have hl : lv_has ls 2 [(0, .ref ql), (1, .int x1)] := hl
  exact t_wl_X2_hasHut_0 zc hK hM (lv_sub hl [0, 1] rfl) hw
-- wl_X2_hasSinger
abbrev rm_wl_X2_hasSinger : Room := { frames := 0, cells := 0, slots := 0, locals := 0 }
def q_wl_X2_hasSinger_0 (f_singers : Int32) (x1 : Int32) (post : Int32 → Prop) : Prop :=
  (x1 < 0 → (post (0 : Int32))) ∧ (¬ x1 < 0 → ((f_singers ≤ x1 → (post (0 : Int32))) ∧ (¬ f_singers ≤ x1 → (post (1 : Int32)))))
set_option maxRecDepth 20000 in
theorem t_wl_X2_hasSinger_0 {p : Program} {l : Launch} {e : Env} {s : State} {m : MethodId} {args : Array Value} {below : List Frame} {meth : Method} {c : Code} {E : zE} {ql : Nat} {f_huts : Int32} {f_singers : Int32} {f_villages : Int32} {f_dams : Int32} {f_echoes : Int32} {f_deep : Int32} {f_slide : Int32} {a_heights : Nat → Int32} {a_ladders : Nat → Int32} {a_minutes : Nat → Int32} {a_echoFrom : Nat → Int32} {a_echoTo : Nat → Int32} {a_homes : Nat → Int32} {a_talls : Nat → Int32} {a_known : Nat → Int32} {post : Int32 → Prop} {x1 : Int32} {ls : Array Slot}
    (zc : zC p s m args meth c cX2_hasSinger 2 RX2 (some .boolean))
    (hK : zK E s)
    (hM : wlW E ql f_huts f_singers f_villages f_dams f_echoes f_deep f_slide a_heights a_ladders a_minutes a_echoFrom a_echoTo a_homes a_talls a_known s.heap)
    (hl : lv_has ls 2 [(0, .ref ql), (1, .int x1)])
    (hw : q_wl_X2_hasSinger_0 f_singers x1 post) :
    W p l e rm_wl_X2_hasSinger s m args below meth c s.heap [] 0 0 (MQ below (vp_Si post) args s 0 0 (fun _ => False)) (F0 m 0 ls []) := by
  have hx := zc.1
  have hb := zc.2.1
  refine lv_iload_n hx hb dX2_hasSinger_0 rfl (lv_at hl 1 rfl) ?_
  refine lv_if_lt (tgt := 16) hx hb dX2_hasSinger_1 (by decide) (fun hc => ?_) (fun hc => ?_)
  · have hw := hw.1 hc
    refine lv_iconst (v := (0 : Int32)) hx hb dX2_hasSinger_16 (by decide) ?_
    exact zret_z zc rfl hw dX2_hasSinger_17
  · have hw := hw.2 hc
    refine lv_iload_n hx hb dX2_hasSinger_4 rfl (lv_at hl 1 rfl) ?_
    refine lv_aload_n hx hb dX2_hasSinger_5 rfl (lv_at hl 0 rfl) ?_
    refine wlg_2_46_0 zc hK hM dX2_hasSinger_6 ?_
    refine lv_icmp_ge (tgt := 16) hx hb dX2_hasSinger_9 (by decide) (fun hc => ?_) (fun hc => ?_)
    · have hw := hw.1 hc
      refine lv_iconst (v := (0 : Int32)) hx hb dX2_hasSinger_16 (by decide) ?_
      exact zret_z zc rfl hw dX2_hasSinger_17
    · have hw := hw.2 hc
      refine lv_iconst (v := (1 : Int32)) hx hb dX2_hasSinger_12 (by decide) ?_
      refine lv_goto (tgt := 17) hx hb dX2_hasSinger_13 (by decide) ?_
      exact zret_z zc rfl hw dX2_hasSinger_17
set_option maxRecDepth 20000 in
theorem c_wl_X2_hasSinger (l : Launch) {E : zE} {ql : Nat} {f_huts : Int32} {f_singers : Int32} {f_villages : Int32} {f_dams : Int32} {f_echoes : Int32} {f_deep : Int32} {f_slide : Int32} {a_heights : Nat → Int32} {a_ladders : Nat → Int32} {a_minutes : Nat → Int32} {a_echoFrom : Nat → Int32} {a_echoTo : Nat → Int32} {a_homes : Nat → Int32} {a_talls : Nat → Int32} {a_known : Nat → Int32} {x1 : Int32} {post : Int32 → Prop} (hw : q_wl_X2_hasSinger_0 f_singers x1 post) : Met l yX2_hasSinger (Cond.code yX2_hasSinger cX2_hasSinger 2 (some .boolean) :: zb) rm_wl_X2_hasSinger (va_Pc [.ref ql, .int x1] (fun U => wlW E ql f_huts f_singers f_villages f_dams f_echoes f_deep f_slide a_heights a_ladders a_minutes a_echoFrom a_echoTo a_homes a_talls a_known U.heap ∧ zK E U)) (vp_Si post) 0 0 (fun _ => False) := by
  refine Met.ofW (cc := cX2_hasSinger) (maxL := 2) (ret := (some .boolean)) (by decide) rfl ?_
  intro p e s m args below meth c s₁ B hml hv
  obtain ⟨rfl, hM, hK⟩ := hv
  have zc := zc_of B hml
  have hl := lv_entry ([.ref ql, .int x1]) (n := 2) (Nat.le_of_ble_eq_true rfl)
  rw [lg_entry_eq]
  generalize (lg_sl ([.ref ql, .int x1]) ++ List.replicate (2 - (lg_sl ([.ref ql, .int x1])).length) Slot.unset).toArray = ls at hl ⊢
  have hl : lv_has ls 2 [(0, .ref ql), (1, .int x1)] := hl
  exact t_wl_X2_hasSinger_0 zc hK hM (lv_sub hl [0, 1] rfl) hw
-- wl_X2_isDam
abbrev rm_wl_X2_isDam : Room := { frames := 0, cells := 0, slots := 0, locals := 0 }
def q_wl_X2_isDam_0 (f_dams : Int32) (x1 : Int32) (post : Int32 → Prop) : Prop :=
  (((f_dams >>> (x1 &&& 31)) &&& (1 : Int32)) = 0 → (post (0 : Int32))) ∧ (¬ ((f_dams >>> (x1 &&& 31)) &&& (1 : Int32)) = 0 → (post (1 : Int32)))
set_option maxRecDepth 20000 in
theorem t_wl_X2_isDam_0 {p : Program} {l : Launch} {e : Env} {s : State} {m : MethodId} {args : Array Value} {below : List Frame} {meth : Method} {c : Code} {E : zE} {ql : Nat} {f_huts : Int32} {f_singers : Int32} {f_villages : Int32} {f_dams : Int32} {f_echoes : Int32} {f_deep : Int32} {f_slide : Int32} {a_heights : Nat → Int32} {a_ladders : Nat → Int32} {a_minutes : Nat → Int32} {a_echoFrom : Nat → Int32} {a_echoTo : Nat → Int32} {a_homes : Nat → Int32} {a_talls : Nat → Int32} {a_known : Nat → Int32} {post : Int32 → Prop} {x1 : Int32} {ls : Array Slot}
    (zc : zC p s m args meth c cX2_isDam 2 RX2 (some .boolean))
    (hK : zK E s)
    (hM : wlW E ql f_huts f_singers f_villages f_dams f_echoes f_deep f_slide a_heights a_ladders a_minutes a_echoFrom a_echoTo a_homes a_talls a_known s.heap)
    (hl : lv_has ls 2 [(0, .ref ql), (1, .int x1)])
    (hw : q_wl_X2_isDam_0 f_dams x1 post) :
    W p l e rm_wl_X2_isDam s m args below meth c s.heap [] 0 0 (MQ below (vp_Si post) args s 0 0 (fun _ => False)) (F0 m 0 ls []) := by
  have hx := zc.1
  have hb := zc.2.1
  refine lv_aload_n hx hb dX2_isDam_0 rfl (lv_at hl 0 rfl) ?_
  refine wlg_2_52_0 zc hK hM dX2_isDam_1 ?_
  refine lv_iload_n hx hb dX2_isDam_4 rfl (lv_at hl 1 rfl) ?_
  refine lv_ishr hx hb dX2_isDam_5 ?_
  refine lv_iconst (v := (1 : Int32)) hx hb dX2_isDam_6 (by decide) ?_
  refine lv_iand hx hb dX2_isDam_7 ?_
  refine lv_if_eq (tgt := 15) hx hb dX2_isDam_8 (by decide) (fun hc => ?_) (fun hc => ?_)
  · have hw := hw.1 hc
    refine lv_iconst (v := (0 : Int32)) hx hb dX2_isDam_15 (by decide) ?_
    exact zret_z zc rfl hw dX2_isDam_16
  · have hw := hw.2 hc
    refine lv_iconst (v := (1 : Int32)) hx hb dX2_isDam_11 (by decide) ?_
    refine lv_goto (tgt := 16) hx hb dX2_isDam_12 (by decide) ?_
    exact zret_z zc rfl hw dX2_isDam_16
set_option maxRecDepth 20000 in
theorem c_wl_X2_isDam (l : Launch) {E : zE} {ql : Nat} {f_huts : Int32} {f_singers : Int32} {f_villages : Int32} {f_dams : Int32} {f_echoes : Int32} {f_deep : Int32} {f_slide : Int32} {a_heights : Nat → Int32} {a_ladders : Nat → Int32} {a_minutes : Nat → Int32} {a_echoFrom : Nat → Int32} {a_echoTo : Nat → Int32} {a_homes : Nat → Int32} {a_talls : Nat → Int32} {a_known : Nat → Int32} {x1 : Int32} {post : Int32 → Prop} (hw : q_wl_X2_isDam_0 f_dams x1 post) : Met l yX2_isDam (Cond.code yX2_isDam cX2_isDam 2 (some .boolean) :: zb) rm_wl_X2_isDam (va_Pc [.ref ql, .int x1] (fun U => wlW E ql f_huts f_singers f_villages f_dams f_echoes f_deep f_slide a_heights a_ladders a_minutes a_echoFrom a_echoTo a_homes a_talls a_known U.heap ∧ zK E U)) (vp_Si post) 0 0 (fun _ => False) := by
  refine Met.ofW (cc := cX2_isDam) (maxL := 2) (ret := (some .boolean)) (by decide) rfl ?_
  intro p e s m args below meth c s₁ B hml hv
  obtain ⟨rfl, hM, hK⟩ := hv
  have zc := zc_of B hml
  have hl := lv_entry ([.ref ql, .int x1]) (n := 2) (Nat.le_of_ble_eq_true rfl)
  rw [lg_entry_eq]
  generalize (lg_sl ([.ref ql, .int x1]) ++ List.replicate (2 - (lg_sl ([.ref ql, .int x1])).length) Slot.unset).toArray = ls at hl ⊢
  have hl : lv_has ls 2 [(0, .ref ql), (1, .int x1)] := hl
  exact t_wl_X2_isDam_0 zc hK hM (lv_sub hl [0, 1] rfl) hw
-- wl_X2_isOpen
abbrev rm_wl_X2_isOpen : Room := { frames := 1, cells := 0, slots := 0, locals := 21 }
def q_wl_X2_isOpen_0 (f_huts : Int32) (f_dams : Int32) (x1 : Int32) (post : Int32 → Prop) : Prop :=
  q_wl_X2_hasHut_0 f_huts x1 (fun r_1 => (r_1 = 0 → (post (0 : Int32))) ∧ (¬ r_1 = 0 → (q_wl_X2_isDam_0 f_dams x1 (fun r_2 => (¬ r_2 = 0 → (post (0 : Int32))) ∧ (r_2 = 0 → (post (1 : Int32)))))))
set_option maxRecDepth 20000 in
theorem t_wl_X2_isOpen_0 {p : Program} {l : Launch} {e : Env} {s : State} {m : MethodId} {args : Array Value} {below : List Frame} {meth : Method} {c : Code} {E : zE} {ql : Nat} {f_huts : Int32} {f_singers : Int32} {f_villages : Int32} {f_dams : Int32} {f_echoes : Int32} {f_deep : Int32} {f_slide : Int32} {a_heights : Nat → Int32} {a_ladders : Nat → Int32} {a_minutes : Nat → Int32} {a_echoFrom : Nat → Int32} {a_echoTo : Nat → Int32} {a_homes : Nat → Int32} {a_talls : Nat → Int32} {a_known : Nat → Int32} {post : Int32 → Prop} {x1 : Int32} {ls : Array Slot}
    (zc : zC p s m args meth c cX2_isOpen 2 RX2 (some .boolean))
    (hK : zK E s)
    (hM : wlW E ql f_huts f_singers f_villages f_dams f_echoes f_deep f_slide a_heights a_ladders a_minutes a_echoFrom a_echoTo a_homes a_talls a_known s.heap)
    (hl : lv_has ls 2 [(0, .ref ql), (1, .int x1)])
    (hw : q_wl_X2_isOpen_0 f_huts f_dams x1 post) :
    W p l e rm_wl_X2_isOpen s m args below meth c s.heap [] 0 0 (MQ below (vp_Si post) args s 0 0 (fun _ => False)) (F0 m 0 ls []) := by
  have hx := zc.1
  have hb := zc.2.1
  refine lv_aload_n hx hb dX2_isOpen_0 rfl (lv_at hl 0 rfl) ?_
  refine lv_iload_n hx hb dX2_isOpen_1 rfl (lv_at hl 1 rfl) ?_
  refine zV_i [.int x1] [] zc ky_X2_hasHut kz_X2_hasHut km_2_70 (c_wl_X2_hasHut l hw) (wlPreV0 hK hM) rfl rfl hl.1 (Nat.le_of_ble_eq_true rfl) ⟨rfl, rfl⟩ ⟨Nat.le_of_ble_eq_true rfl, Nat.le_of_ble_eq_true rfl⟩ ⟨(Nat.zero_le _), (Nat.zero_le _)⟩ dX2_isOpen_2 (fun r_1 hw => ?_)
  refine lv_if_eq (tgt := 20) hx hb dX2_isOpen_5 (by decide) (fun hc => ?_) (fun hc => ?_)
  · have hw := hw.1 hc
    refine lv_iconst (v := (0 : Int32)) hx hb dX2_isOpen_20 (by decide) ?_
    exact zret_z zc rfl hw dX2_isOpen_21
  · have hw := hw.2 hc
    refine lv_aload_n hx hb dX2_isOpen_8 rfl (lv_at hl 0 rfl) ?_
    refine lv_iload_n hx hb dX2_isOpen_9 rfl (lv_at hl 1 rfl) ?_
    refine zV_i [.int x1] [] zc ky_X2_isDam kz_X2_isDam km_2_74 (c_wl_X2_isDam l hw) (wlPreV0 hK hM) rfl rfl hl.1 (Nat.le_of_ble_eq_true rfl) ⟨rfl, rfl⟩ ⟨Nat.le_of_ble_eq_true rfl, Nat.le_of_ble_eq_true rfl⟩ ⟨(Nat.zero_le _), (Nat.zero_le _)⟩ dX2_isOpen_10 (fun r_2 hw => ?_)
    refine lv_if_ne (tgt := 20) hx hb dX2_isOpen_13 (by decide) (fun hc => ?_) (fun hc => ?_)
    · have hw := hw.1 hc
      refine lv_iconst (v := (0 : Int32)) hx hb dX2_isOpen_20 (by decide) ?_
      exact zret_z zc rfl hw dX2_isOpen_21
    · have hw := hw.2 hc
      refine lv_iconst (v := (1 : Int32)) hx hb dX2_isOpen_16 (by decide) ?_
      refine lv_goto (tgt := 21) hx hb dX2_isOpen_17 (by decide) ?_
      exact zret_z zc rfl hw dX2_isOpen_21
set_option maxRecDepth 20000 in
theorem c_wl_X2_isOpen (l : Launch) {E : zE} {ql : Nat} {f_huts : Int32} {f_singers : Int32} {f_villages : Int32} {f_dams : Int32} {f_echoes : Int32} {f_deep : Int32} {f_slide : Int32} {a_heights : Nat → Int32} {a_ladders : Nat → Int32} {a_minutes : Nat → Int32} {a_echoFrom : Nat → Int32} {a_echoTo : Nat → Int32} {a_homes : Nat → Int32} {a_talls : Nat → Int32} {a_known : Nat → Int32} {x1 : Int32} {post : Int32 → Prop} (hw : q_wl_X2_isOpen_0 f_huts f_dams x1 post) : Met l yX2_isOpen (Cond.code yX2_isOpen cX2_isOpen 2 (some .boolean) :: zb) rm_wl_X2_isOpen (va_Pc [.ref ql, .int x1] (fun U => wlW E ql f_huts f_singers f_villages f_dams f_echoes f_deep f_slide a_heights a_ladders a_minutes a_echoFrom a_echoTo a_homes a_talls a_known U.heap ∧ zK E U)) (vp_Si post) 0 0 (fun _ => False) := by
  refine Met.ofW (cc := cX2_isOpen) (maxL := 2) (ret := (some .boolean)) (by decide) rfl ?_
  intro p e s m args below meth c s₁ B hml hv
  obtain ⟨rfl, hM, hK⟩ := hv
  have zc := zc_of B hml
  have hl := lv_entry ([.ref ql, .int x1]) (n := 2) (Nat.le_of_ble_eq_true rfl)
  rw [lg_entry_eq]
  generalize (lg_sl ([.ref ql, .int x1]) ++ List.replicate (2 - (lg_sl ([.ref ql, .int x1])).length) Slot.unset).toArray = ls at hl ⊢
  have hl : lv_has ls 2 [(0, .ref ql), (1, .int x1)] := hl
  exact t_wl_X2_isOpen_0 zc hK hM (lv_sub hl [0, 1] rfl) hw
-- wl_X2_leads
abbrev rm_wl_X2_leads : Room := { frames := 1, cells := 0, slots := 0, locals := 21 }
def q_wl_X2_leads_0 (f_dams : Int32) (a_heights : Nat → Int32) (a_minutes : Nat → Int32) (x1 : Int32) (x2 : Int32) (post : Int32 → Prop) : Prop :=
  vp_in ((x1 * (9 : Int32)) + x2) 81 ∧ (((a_minutes (Int32.toNatClampNeg ((x1 * (9 : Int32)) + x2))) ≤ 0 → (post (0 : Int32))) ∧ (¬ (a_minutes (Int32.toNatClampNeg ((x1 * (9 : Int32)) + x2))) ≤ 0 → (vp_in x2 9 ∧ (vp_in x1 9 ∧ (((a_heights (Int32.toNatClampNeg x1)) ≤ (a_heights (Int32.toNatClampNeg x2)) → (post (0 : Int32))) ∧ (¬ (a_heights (Int32.toNatClampNeg x1)) ≤ (a_heights (Int32.toNatClampNeg x2)) → (q_wl_X2_isDam_0 f_dams x1 (fun r_1 => (¬ r_1 = 0 → (post (0 : Int32))) ∧ (r_1 = 0 → (q_wl_X2_isDam_0 f_dams x2 (fun r_2 => (¬ r_2 = 0 → (post (0 : Int32))) ∧ (r_2 = 0 → (post (1 : Int32))))))))))))))
set_option maxRecDepth 20000 in
theorem t_wl_X2_leads_0 {p : Program} {l : Launch} {e : Env} {s : State} {m : MethodId} {args : Array Value} {below : List Frame} {meth : Method} {c : Code} {E : zE} {ql : Nat} {f_huts : Int32} {f_singers : Int32} {f_villages : Int32} {f_dams : Int32} {f_echoes : Int32} {f_deep : Int32} {f_slide : Int32} {a_heights : Nat → Int32} {a_ladders : Nat → Int32} {a_minutes : Nat → Int32} {a_echoFrom : Nat → Int32} {a_echoTo : Nat → Int32} {a_homes : Nat → Int32} {a_talls : Nat → Int32} {a_known : Nat → Int32} {post : Int32 → Prop} {x1 : Int32} {x2 : Int32} {ls : Array Slot}
    (zc : zC p s m args meth c cX2_leads 3 RX2 (some .boolean))
    (hK : zK E s)
    (hM : wlW E ql f_huts f_singers f_villages f_dams f_echoes f_deep f_slide a_heights a_ladders a_minutes a_echoFrom a_echoTo a_homes a_talls a_known s.heap)
    (hl : lv_has ls 3 [(0, .ref ql), (1, .int x1), (2, .int x2)])
    (hw : q_wl_X2_leads_0 f_dams a_heights a_minutes x1 x2 post) :
    W p l e rm_wl_X2_leads s m args below meth c s.heap [] 0 0 (MQ below (vp_Si post) args s 0 0 (fun _ => False)) (F0 m 0 ls []) := by
  have hx := zc.1
  have hb := zc.2.1
  refine lv_aload_n hx hb dX2_leads_0 rfl (lv_at hl 0 rfl) ?_
  refine wlg_2_25_0 zc hK hM dX2_leads_1 ?_
  refine lv_iload_n hx hb dX2_leads_4 rfl (lv_at hl 1 rfl) ?_
  refine lv_bipush (v := (9 : Int32)) hx hb dX2_leads_5 (by decide) ?_
  refine lv_imul hx hb dX2_leads_7 ?_
  refine lv_iload_n hx hb dX2_leads_8 rfl (lv_at hl 2 rfl) ?_
  refine lv_iadd hx hb dX2_leads_9 ?_
  refine wlld_3 zc hK hM hw.1 dX2_leads_10 ?_
  have hw := hw.2
  refine lv_if_le (tgt := 49) hx hb dX2_leads_11 (by decide) (fun hc => ?_) (fun hc => ?_)
  · have hw := hw.1 hc
    refine lv_iconst (v := (0 : Int32)) hx hb dX2_leads_49 (by decide) ?_
    exact zret_z zc rfl hw dX2_leads_50
  · have hw := hw.2 hc
    refine lv_aload_n hx hb dX2_leads_14 rfl (lv_at hl 0 rfl) ?_
    refine wlg_2_18_0 zc hK hM dX2_leads_15 ?_
    refine lv_iload_n hx hb dX2_leads_18 rfl (lv_at hl 2 rfl) ?_
    refine wlld_1 zc hK hM hw.1 dX2_leads_19 ?_
    have hw := hw.2
    refine lv_aload_n hx hb dX2_leads_20 rfl (lv_at hl 0 rfl) ?_
    refine wlg_2_18_0 zc hK hM dX2_leads_21 ?_
    refine lv_iload_n hx hb dX2_leads_24 rfl (lv_at hl 1 rfl) ?_
    refine wlld_1 zc hK hM hw.1 dX2_leads_25 ?_
    have hw := hw.2
    refine lv_icmp_ge (tgt := 49) hx hb dX2_leads_26 (by decide) (fun hc => ?_) (fun hc => ?_)
    · have hw := hw.1 hc
      refine lv_iconst (v := (0 : Int32)) hx hb dX2_leads_49 (by decide) ?_
      exact zret_z zc rfl hw dX2_leads_50
    · have hw := hw.2 hc
      refine lv_aload_n hx hb dX2_leads_29 rfl (lv_at hl 0 rfl) ?_
      refine lv_iload_n hx hb dX2_leads_30 rfl (lv_at hl 1 rfl) ?_
      refine zV_i [.int x1] [] zc ky_X2_isDam kz_X2_isDam km_2_74 (c_wl_X2_isDam l hw) (wlPreV0 hK hM) rfl rfl hl.1 (Nat.le_of_ble_eq_true rfl) ⟨rfl, rfl⟩ ⟨Nat.le_of_ble_eq_true rfl, Nat.le_of_ble_eq_true rfl⟩ ⟨(Nat.zero_le _), (Nat.zero_le _)⟩ dX2_leads_31 (fun r_1 hw => ?_)
      refine lv_if_ne (tgt := 49) hx hb dX2_leads_34 (by decide) (fun hc => ?_) (fun hc => ?_)
      · have hw := hw.1 hc
        refine lv_iconst (v := (0 : Int32)) hx hb dX2_leads_49 (by decide) ?_
        exact zret_z zc rfl hw dX2_leads_50
      · have hw := hw.2 hc
        refine lv_aload_n hx hb dX2_leads_37 rfl (lv_at hl 0 rfl) ?_
        refine lv_iload_n hx hb dX2_leads_38 rfl (lv_at hl 2 rfl) ?_
        refine zV_i [.int x2] [] zc ky_X2_isDam kz_X2_isDam km_2_74 (c_wl_X2_isDam l hw) (wlPreV0 hK hM) rfl rfl hl.1 (Nat.le_of_ble_eq_true rfl) ⟨rfl, rfl⟩ ⟨Nat.le_of_ble_eq_true rfl, Nat.le_of_ble_eq_true rfl⟩ ⟨(Nat.zero_le _), (Nat.zero_le _)⟩ dX2_leads_39 (fun r_2 hw => ?_)
        refine lv_if_ne (tgt := 49) hx hb dX2_leads_42 (by decide) (fun hc => ?_) (fun hc => ?_)
        · have hw := hw.1 hc
          refine lv_iconst (v := (0 : Int32)) hx hb dX2_leads_49 (by decide) ?_
          exact zret_z zc rfl hw dX2_leads_50
        · have hw := hw.2 hc
          refine lv_iconst (v := (1 : Int32)) hx hb dX2_leads_45 (by decide) ?_
          refine lv_goto (tgt := 50) hx hb dX2_leads_46 (by decide) ?_
          exact zret_z zc rfl hw dX2_leads_50
set_option maxRecDepth 20000 in
theorem c_wl_X2_leads (l : Launch) {E : zE} {ql : Nat} {f_huts : Int32} {f_singers : Int32} {f_villages : Int32} {f_dams : Int32} {f_echoes : Int32} {f_deep : Int32} {f_slide : Int32} {a_heights : Nat → Int32} {a_ladders : Nat → Int32} {a_minutes : Nat → Int32} {a_echoFrom : Nat → Int32} {a_echoTo : Nat → Int32} {a_homes : Nat → Int32} {a_talls : Nat → Int32} {a_known : Nat → Int32} {x1 : Int32} {x2 : Int32} {post : Int32 → Prop} (hw : q_wl_X2_leads_0 f_dams a_heights a_minutes x1 x2 post) : Met l yX2_leads (Cond.code yX2_leads cX2_leads 3 (some .boolean) :: zb) rm_wl_X2_leads (va_Pc [.ref ql, .int x1, .int x2] (fun U => wlW E ql f_huts f_singers f_villages f_dams f_echoes f_deep f_slide a_heights a_ladders a_minutes a_echoFrom a_echoTo a_homes a_talls a_known U.heap ∧ zK E U)) (vp_Si post) 0 0 (fun _ => False) := by
  refine Met.ofW (cc := cX2_leads) (maxL := 3) (ret := (some .boolean)) (by decide) rfl ?_
  intro p e s m args below meth c s₁ B hml hv
  obtain ⟨rfl, hM, hK⟩ := hv
  have zc := zc_of B hml
  have hl := lv_entry ([.ref ql, .int x1, .int x2]) (n := 3) (Nat.le_of_ble_eq_true rfl)
  rw [lg_entry_eq]
  generalize (lg_sl ([.ref ql, .int x1, .int x2]) ++ List.replicate (3 - (lg_sl ([.ref ql, .int x1, .int x2])).length) Slot.unset).toArray = ls at hl ⊢
  have hl : lv_has ls 3 [(0, .ref ql), (1, .int x1), (2, .int x2)] := hl
  exact t_wl_X2_leads_0 zc hK hM (lv_sub hl [0, 1, 2] rfl) hw
-- wl_X2_earshot
abbrev rm_wl_X2_earshot : Room := { frames := 1, cells := 0, slots := 0, locals := 21 }
def q_wl_X2_earshot_60 (P18 : Int32 → Int32 → Prop) (f_dams : Int32) (f_echoes : Int32) (a_echoFrom : Nat → Int32) (a_echoTo : Nat → Int32) (x1 : Int32) (x2 : Int32) (x3 : Int32) (post : Int32 → Prop) : Prop :=
  ∀ v_1 : Int32, v_1 = x3 + (1 : Int32) → (P18 x2 v_1)
def q_wl_X2_earshot_18 (f_dams : Int32) (f_echoes : Int32) (a_echoFrom : Nat → Int32) (a_echoTo : Nat → Int32) (x1 : Int32) (x2 : Int32) (x3 : Int32) (post : Int32 → Prop) : Prop :=
  ∀ P18 : Int32 → Int32 → Prop, (∀ (x2 : Int32) (x3 : Int32), ((f_echoes ≤ x3 → (post x2)) ∧ (¬ f_echoes ≤ x3 → (vp_in x3 4 ∧ ((¬ (a_echoFrom (Int32.toNatClampNeg x3)) = x1 → (q_wl_X2_earshot_60 P18 f_dams f_echoes a_echoFrom a_echoTo x1 x2 x3 post)) ∧ ((a_echoFrom (Int32.toNatClampNeg x3)) = x1 → (vp_in x3 4 ∧ (q_wl_X2_isDam_0 f_dams (a_echoTo (Int32.toNatClampNeg x3)) (fun r_1 => (¬ r_1 = 0 → (q_wl_X2_earshot_60 P18 f_dams f_echoes a_echoFrom a_echoTo x1 x2 x3 post)) ∧ (r_1 = 0 → (vp_in x3 4 ∧ (∀ v_1 : Int32, v_1 = (x2 ||| ((1 : Int32) <<< ((a_echoTo (Int32.toNatClampNeg x3)) &&& 31))) → (q_wl_X2_earshot_60 P18 f_dams f_echoes a_echoFrom a_echoTo x1 v_1 x3 post)))))))))))) → P18 x2 x3) → P18 x2 x3
def q_wl_X2_earshot_15 (f_dams : Int32) (f_echoes : Int32) (a_echoFrom : Nat → Int32) (a_echoTo : Nat → Int32) (x1 : Int32) (y0 : Int32) (post : Int32 → Prop) : Prop :=
  q_wl_X2_earshot_18 f_dams f_echoes a_echoFrom a_echoTo x1 y0 (0 : Int32) post
def q_wl_X2_earshot_0 (f_dams : Int32) (f_echoes : Int32) (a_echoFrom : Nat → Int32) (a_echoTo : Nat → Int32) (x1 : Int32) (post : Int32 → Prop) : Prop :=
  q_wl_X2_isDam_0 f_dams x1 (fun r_1 => (r_1 = 0 → (q_wl_X2_earshot_15 f_dams f_echoes a_echoFrom a_echoTo x1 ((1 : Int32) <<< (x1 &&& 31)) post)) ∧ (¬ r_1 = 0 → (q_wl_X2_earshot_15 f_dams f_echoes a_echoFrom a_echoTo x1 (0 : Int32) post)))
set_option maxRecDepth 20000 in
theorem t_wl_X2_earshot_60 {p : Program} {l : Launch} {e : Env} {s : State} {m : MethodId} {args : Array Value} {below : List Frame} {meth : Method} {c : Code} {E : zE} {ql : Nat} {f_huts : Int32} {f_singers : Int32} {f_villages : Int32} {f_dams : Int32} {f_echoes : Int32} {f_deep : Int32} {f_slide : Int32} {a_heights : Nat → Int32} {a_ladders : Nat → Int32} {a_minutes : Nat → Int32} {a_echoFrom : Nat → Int32} {a_echoTo : Nat → Int32} {a_homes : Nat → Int32} {a_talls : Nat → Int32} {a_known : Nat → Int32} {P18 : Int32 → Int32 → Prop} {post : Int32 → Prop} {x1 : Int32} {x2 : Int32} {x3 : Int32} {ls : Array Slot}
    (zc : zC p s m args meth c cX2_earshot 4 RX2 (some .int))
    (hK : zK E s)
    (hM : wlW E ql f_huts f_singers f_villages f_dams f_echoes f_deep f_slide a_heights a_ladders a_minutes a_echoFrom a_echoTo a_homes a_talls a_known s.heap)
    (hP18 : ∀ (x2 : Int32) (x3 : Int32) (ls : Array Slot), P18 x2 x3 → lv_has ls 4 [(0, .ref ql), (1, .int x1), (2, .int x2), (3, .int x3)] → W p l e rm_wl_X2_earshot s m args below meth c s.heap [] 0 0 (MQ below (vp_Si post) args s 0 0 (fun _ => False)) (F0 m 18 ls []))
    (hl : lv_has ls 4 [(0, .ref ql), (1, .int x1), (2, .int x2), (3, .int x3)])
    (hw : q_wl_X2_earshot_60 P18 f_dams f_echoes a_echoFrom a_echoTo x1 x2 x3 post) :
    W p l e rm_wl_X2_earshot s m args below meth c s.heap [] 0 0 (MQ below (vp_Si post) args s 0 0 (fun _ => False)) (F0 m 60 ls []) := by
  have hx := zc.1
  have hb := zc.2.1
  obtain ⟨v_1, ev_1⟩ : ∃ y : Int32, y = x3 + (1 : Int32) := ⟨_, rfl⟩
  have hw := hw v_1 ev_1
  refine lv_iinc (v := v_1) (k := 3) (lv' := [(3, .int v_1), (0, .ref ql), (1, .int x1), (2, .int x2)]) hx hb dX2_earshot_60 hl rfl (by rw [ev_1]; rfl) (by decide) rfl (fun ls hl => ?_)
  refine lv_goto (tgt := 18) hx hb dX2_earshot_63 (by decide) ?_
  exact hP18 _ _ _ hw (lv_sub hl [1, 2, 3, 0] rfl)
set_option maxRecDepth 20000 in
theorem t_wl_X2_earshot_18 {p : Program} {l : Launch} {e : Env} {s : State} {m : MethodId} {args : Array Value} {below : List Frame} {meth : Method} {c : Code} {E : zE} {ql : Nat} {f_huts : Int32} {f_singers : Int32} {f_villages : Int32} {f_dams : Int32} {f_echoes : Int32} {f_deep : Int32} {f_slide : Int32} {a_heights : Nat → Int32} {a_ladders : Nat → Int32} {a_minutes : Nat → Int32} {a_echoFrom : Nat → Int32} {a_echoTo : Nat → Int32} {a_homes : Nat → Int32} {a_talls : Nat → Int32} {a_known : Nat → Int32} {post : Int32 → Prop} {x1 : Int32} {x2 : Int32} {x3 : Int32} {ls : Array Slot}
    (zc : zC p s m args meth c cX2_earshot 4 RX2 (some .int))
    (hK : zK E s)
    (hM : wlW E ql f_huts f_singers f_villages f_dams f_echoes f_deep f_slide a_heights a_ladders a_minutes a_echoFrom a_echoTo a_homes a_talls a_known s.heap)
    (hl : lv_has ls 4 [(0, .ref ql), (1, .int x1), (2, .int x2), (3, .int x3)])
    (hw : q_wl_X2_earshot_18 f_dams f_echoes a_echoFrom a_echoTo x1 x2 x3 post) :
    W p l e rm_wl_X2_earshot s m args below meth c s.heap [] 0 0 (MQ below (vp_Si post) args s 0 0 (fun _ => False)) (F0 m 18 ls []) := by
  have hx := zc.1
  have hb := zc.2.1
  refine hw (fun x2 x3 => ∀ (ls : Array Slot), lv_has ls 4 [(0, .ref ql), (1, .int x1), (2, .int x2), (3, .int x3)] → W p l e rm_wl_X2_earshot s m args below meth c s.heap [] 0 0 (MQ below (vp_Si post) args s 0 0 (fun _ => False)) (F0 m 18 ls [])) ?_ _ hl
  intro x2 x3 hw ls hl
  refine lv_iload_n hx hb dX2_earshot_18 rfl (lv_at hl 3 rfl) ?_
  refine lv_aload_n hx hb dX2_earshot_19 rfl (lv_at hl 0 rfl) ?_
  refine wlg_2_55_0 zc hK hM dX2_earshot_20 ?_
  refine lv_icmp_ge (tgt := 66) hx hb dX2_earshot_23 (by decide) (fun hc => ?_) (fun hc => ?_)
  · have hw := hw.1 hc
    refine lv_iload_n hx hb dX2_earshot_66 rfl (lv_at hl 2 rfl) ?_
    exact zret_i zc hw dX2_earshot_67
  · have hw := hw.2 hc
    refine lv_aload_n hx hb dX2_earshot_26 rfl (lv_at hl 0 rfl) ?_
    refine wlg_2_28_0 zc hK hM dX2_earshot_27 ?_
    refine lv_iload_n hx hb dX2_earshot_30 rfl (lv_at hl 3 rfl) ?_
    refine wlld_4 zc hK hM hw.1 dX2_earshot_31 ?_
    have hw := hw.2
    refine lv_iload_n hx hb dX2_earshot_32 rfl (lv_at hl 1 rfl) ?_
    refine lv_icmp_ne (tgt := 60) hx hb dX2_earshot_33 (by decide) (fun hc => ?_) (fun hc => ?_)
    · have hw := hw.1 hc
      exact t_wl_X2_earshot_60 zc hK hM (fun _ _ ls h hl => h ls hl) (lv_sub hl [0, 1, 2, 3] rfl) hw
    · have hw := hw.2 hc
      refine lv_aload_n hx hb dX2_earshot_36 rfl (lv_at hl 0 rfl) ?_
      refine lv_aload_n hx hb dX2_earshot_37 rfl (lv_at hl 0 rfl) ?_
      refine wlg_2_31_0 zc hK hM dX2_earshot_38 ?_
      refine lv_iload_n hx hb dX2_earshot_41 rfl (lv_at hl 3 rfl) ?_
      refine wlld_5 zc hK hM hw.1 dX2_earshot_42 ?_
      have hw := hw.2
      refine zV_i [.int (a_echoTo (Int32.toNatClampNeg x3))] [] zc ky_X2_isDam kz_X2_isDam km_2_74 (c_wl_X2_isDam l hw) (wlPreV0 hK hM) rfl rfl hl.1 (Nat.le_of_ble_eq_true rfl) ⟨rfl, rfl⟩ ⟨Nat.le_of_ble_eq_true rfl, Nat.le_of_ble_eq_true rfl⟩ ⟨(Nat.zero_le _), (Nat.zero_le _)⟩ dX2_earshot_43 (fun r_1 hw => ?_)
      refine lv_if_ne (tgt := 60) hx hb dX2_earshot_46 (by decide) (fun hc => ?_) (fun hc => ?_)
      · have hw := hw.1 hc
        exact t_wl_X2_earshot_60 zc hK hM (fun _ _ ls h hl => h ls hl) (lv_sub hl [0, 1, 2, 3] rfl) hw
      · have hw := hw.2 hc
        refine lv_iload_n hx hb dX2_earshot_49 rfl (lv_at hl 2 rfl) ?_
        refine lv_iconst (v := (1 : Int32)) hx hb dX2_earshot_50 (by decide) ?_
        refine lv_aload_n hx hb dX2_earshot_51 rfl (lv_at hl 0 rfl) ?_
        refine wlg_2_31_0 zc hK hM dX2_earshot_52 ?_
        refine lv_iload_n hx hb dX2_earshot_55 rfl (lv_at hl 3 rfl) ?_
        refine wlld_5 zc hK hM hw.1 dX2_earshot_56 ?_
        have hw := hw.2
        refine lv_ishl hx hb dX2_earshot_57 ?_
        refine lv_ior hx hb dX2_earshot_58 ?_
        refine lv_topi (fun v_1 ev_1 => ?_)
        have hw := hw v_1 ev_1
        refine lv_istore_n (lv' := [(2, .int v_1), (0, .ref ql), (1, .int x1), (3, .int x3)]) hx hb dX2_earshot_59 rfl hl (by decide) rfl (fun ls hl => ?_)
        exact t_wl_X2_earshot_60 zc hK hM (fun _ _ ls h hl => h ls hl) (lv_sub hl [1, 2, 0, 3] rfl) hw
set_option maxRecDepth 20000 in
theorem t_wl_X2_earshot_15 {p : Program} {l : Launch} {e : Env} {s : State} {m : MethodId} {args : Array Value} {below : List Frame} {meth : Method} {c : Code} {E : zE} {ql : Nat} {f_huts : Int32} {f_singers : Int32} {f_villages : Int32} {f_dams : Int32} {f_echoes : Int32} {f_deep : Int32} {f_slide : Int32} {a_heights : Nat → Int32} {a_ladders : Nat → Int32} {a_minutes : Nat → Int32} {a_echoFrom : Nat → Int32} {a_echoTo : Nat → Int32} {a_homes : Nat → Int32} {a_talls : Nat → Int32} {a_known : Nat → Int32} {post : Int32 → Prop} {x1 : Int32} {y0 : Int32} {ls : Array Slot}
    (zc : zC p s m args meth c cX2_earshot 4 RX2 (some .int))
    (hK : zK E s)
    (hM : wlW E ql f_huts f_singers f_villages f_dams f_echoes f_deep f_slide a_heights a_ladders a_minutes a_echoFrom a_echoTo a_homes a_talls a_known s.heap)
    (hl : lv_has ls 4 [(0, .ref ql), (1, .int x1)])
    (hw : q_wl_X2_earshot_15 f_dams f_echoes a_echoFrom a_echoTo x1 y0 post) :
    W p l e rm_wl_X2_earshot s m args below meth c s.heap [] 0 0 (MQ below (vp_Si post) args s 0 0 (fun _ => False)) (F0 m 15 ls [.int y0]) := by
  have hx := zc.1
  have hb := zc.2.1
  refine lv_istore_n (lv' := [(2, .int y0), (0, .ref ql), (1, .int x1)]) hx hb dX2_earshot_15 rfl hl (by decide) rfl (fun ls hl => ?_)
  refine lv_iconst (v := (0 : Int32)) hx hb dX2_earshot_16 (by decide) ?_
  refine lv_istore_n (lv' := [(3, .int (0 : Int32)), (2, .int y0), (0, .ref ql), (1, .int x1)]) hx hb dX2_earshot_17 rfl hl (by decide) rfl (fun ls hl => ?_)
  exact t_wl_X2_earshot_18 zc hK hM  (lv_sub hl [2, 3, 1, 0] rfl) hw
set_option maxRecDepth 20000 in
theorem t_wl_X2_earshot_0 {p : Program} {l : Launch} {e : Env} {s : State} {m : MethodId} {args : Array Value} {below : List Frame} {meth : Method} {c : Code} {E : zE} {ql : Nat} {f_huts : Int32} {f_singers : Int32} {f_villages : Int32} {f_dams : Int32} {f_echoes : Int32} {f_deep : Int32} {f_slide : Int32} {a_heights : Nat → Int32} {a_ladders : Nat → Int32} {a_minutes : Nat → Int32} {a_echoFrom : Nat → Int32} {a_echoTo : Nat → Int32} {a_homes : Nat → Int32} {a_talls : Nat → Int32} {a_known : Nat → Int32} {post : Int32 → Prop} {x1 : Int32} {ls : Array Slot}
    (zc : zC p s m args meth c cX2_earshot 4 RX2 (some .int))
    (hK : zK E s)
    (hM : wlW E ql f_huts f_singers f_villages f_dams f_echoes f_deep f_slide a_heights a_ladders a_minutes a_echoFrom a_echoTo a_homes a_talls a_known s.heap)
    (hl : lv_has ls 4 [(0, .ref ql), (1, .int x1)])
    (hw : q_wl_X2_earshot_0 f_dams f_echoes a_echoFrom a_echoTo x1 post) :
    W p l e rm_wl_X2_earshot s m args below meth c s.heap [] 0 0 (MQ below (vp_Si post) args s 0 0 (fun _ => False)) (F0 m 0 ls []) := by
  have hx := zc.1
  have hb := zc.2.1
  refine lv_aload_n hx hb dX2_earshot_0 rfl (lv_at hl 0 rfl) ?_
  refine lv_iload_n hx hb dX2_earshot_1 rfl (lv_at hl 1 rfl) ?_
  refine zV_i [.int x1] [] zc ky_X2_isDam kz_X2_isDam km_2_74 (c_wl_X2_isDam l hw) (wlPreV0 hK hM) rfl rfl hl.1 (Nat.le_of_ble_eq_true rfl) ⟨rfl, rfl⟩ ⟨Nat.le_of_ble_eq_true rfl, Nat.le_of_ble_eq_true rfl⟩ ⟨(Nat.zero_le _), (Nat.zero_le _)⟩ dX2_earshot_2 (fun r_1 hw => ?_)
  refine lv_if_eq (tgt := 12) hx hb dX2_earshot_5 (by decide) (fun hc => ?_) (fun hc => ?_)
  · have hw := hw.1 hc
    refine lv_iconst (v := (1 : Int32)) hx hb dX2_earshot_12 (by decide) ?_
    refine lv_iload_n hx hb dX2_earshot_13 rfl (lv_at hl 1 rfl) ?_
    refine lv_ishl hx hb dX2_earshot_14 ?_
    exact t_wl_X2_earshot_15 zc hK hM  (lv_sub hl [0, 1] rfl) hw
  · have hw := hw.2 hc
    refine lv_iconst (v := (0 : Int32)) hx hb dX2_earshot_8 (by decide) ?_
    refine lv_goto (tgt := 15) hx hb dX2_earshot_9 (by decide) ?_
    exact t_wl_X2_earshot_15 zc hK hM  (lv_sub hl [0, 1] rfl) hw
set_option maxRecDepth 20000 in
theorem c_wl_X2_earshot (l : Launch) {E : zE} {ql : Nat} {f_huts : Int32} {f_singers : Int32} {f_villages : Int32} {f_dams : Int32} {f_echoes : Int32} {f_deep : Int32} {f_slide : Int32} {a_heights : Nat → Int32} {a_ladders : Nat → Int32} {a_minutes : Nat → Int32} {a_echoFrom : Nat → Int32} {a_echoTo : Nat → Int32} {a_homes : Nat → Int32} {a_talls : Nat → Int32} {a_known : Nat → Int32} {x1 : Int32} {post : Int32 → Prop} (hw : q_wl_X2_earshot_0 f_dams f_echoes a_echoFrom a_echoTo x1 post) : Met l yX2_earshot (Cond.code yX2_earshot cX2_earshot 4 (some .int) :: zb) rm_wl_X2_earshot (va_Pc [.ref ql, .int x1] (fun U => wlW E ql f_huts f_singers f_villages f_dams f_echoes f_deep f_slide a_heights a_ladders a_minutes a_echoFrom a_echoTo a_homes a_talls a_known U.heap ∧ zK E U)) (vp_Si post) 0 0 (fun _ => False) := by
  refine Met.ofW (cc := cX2_earshot) (maxL := 4) (ret := (some .int)) (by decide) rfl ?_
  intro p e s m args below meth c s₁ B hml hv
  obtain ⟨rfl, hM, hK⟩ := hv
  have zc := zc_of B hml
  have hl := lv_entry ([.ref ql, .int x1]) (n := 4) (Nat.le_of_ble_eq_true rfl)
  rw [lg_entry_eq]
  generalize (lg_sl ([.ref ql, .int x1]) ++ List.replicate (4 - (lg_sl ([.ref ql, .int x1])).length) Slot.unset).toArray = ls at hl ⊢
  have hl : lv_has ls 4 [(0, .ref ql), (1, .int x1)] := hl
  exact t_wl_X2_earshot_0 zc hK hM (lv_sub hl [0, 1] rfl) hw
-- wl_X2_highest
abbrev rm_wl_X2_highest : Room := { frames := 1, cells := 0, slots := 0, locals := 21 }
def q_wl_X2_highest_42 (P4 : Int32 → Int32 → Prop) (f_huts : Int32) (a_heights : Nat → Int32) (x1 : Int32) (x2 : Int32) (x3 : Int32) (post : Int32 → Prop) : Prop :=
  ∀ v_1 : Int32, v_1 = x3 + (1 : Int32) → (P4 x2 v_1)
def q_wl_X2_highest_40 (P4 : Int32 → Int32 → Prop) (f_huts : Int32) (a_heights : Nat → Int32) (x1 : Int32) (x3 : Int32) (post : Int32 → Prop) : Prop :=
  q_wl_X2_highest_42 P4 f_huts a_heights x1 x3 x3 post
def q_wl_X2_highest_4 (f_huts : Int32) (a_heights : Nat → Int32) (x1 : Int32) (x2 : Int32) (x3 : Int32) (post : Int32 → Prop) : Prop :=
  ∀ P4 : Int32 → Int32 → Prop, (∀ (x2 : Int32) (x3 : Int32), ((f_huts ≤ x3 → (post x2)) ∧ (¬ f_huts ≤ x3 → (q_z_X10_has_0 x1 x3 (fun r_1 => (r_1 = 0 → (q_wl_X2_highest_42 P4 f_huts a_heights x1 x2 x3 post)) ∧ (¬ r_1 = 0 → ((x2 = (-1 : Int32) → (q_wl_X2_highest_40 P4 f_huts a_heights x1 x3 post)) ∧ (¬ x2 = (-1 : Int32) → (vp_in x3 9 ∧ (vp_in x2 9 ∧ (((a_heights (Int32.toNatClampNeg x3)) ≤ (a_heights (Int32.toNatClampNeg x2)) → (q_wl_X2_highest_42 P4 f_huts a_heights x1 x2 x3 post)) ∧ (¬ (a_heights (Int32.toNatClampNeg x3)) ≤ (a_heights (Int32.toNatClampNeg x2)) → (q_wl_X2_highest_40 P4 f_huts a_heights x1 x3 post)))))))))))) → P4 x2 x3) → P4 x2 x3
def q_wl_X2_highest_0 (f_huts : Int32) (a_heights : Nat → Int32) (x1 : Int32) (post : Int32 → Prop) : Prop :=
  q_wl_X2_highest_4 f_huts a_heights x1 (-1 : Int32) (0 : Int32) post
set_option maxRecDepth 20000 in
theorem t_wl_X2_highest_42 {p : Program} {l : Launch} {e : Env} {s : State} {m : MethodId} {args : Array Value} {below : List Frame} {meth : Method} {c : Code} {E : zE} {ql : Nat} {f_huts : Int32} {f_singers : Int32} {f_villages : Int32} {f_dams : Int32} {f_echoes : Int32} {f_deep : Int32} {f_slide : Int32} {a_heights : Nat → Int32} {a_ladders : Nat → Int32} {a_minutes : Nat → Int32} {a_echoFrom : Nat → Int32} {a_echoTo : Nat → Int32} {a_homes : Nat → Int32} {a_talls : Nat → Int32} {a_known : Nat → Int32} {P4 : Int32 → Int32 → Prop} {post : Int32 → Prop} {x1 : Int32} {x2 : Int32} {x3 : Int32} {ls : Array Slot}
    (zc : zC p s m args meth c cX2_highest 4 RX2 (some .int))
    (hK : zK E s)
    (hM : wlW E ql f_huts f_singers f_villages f_dams f_echoes f_deep f_slide a_heights a_ladders a_minutes a_echoFrom a_echoTo a_homes a_talls a_known s.heap)
    (hP4 : ∀ (x2 : Int32) (x3 : Int32) (ls : Array Slot), P4 x2 x3 → lv_has ls 4 [(0, .ref ql), (1, .int x1), (2, .int x2), (3, .int x3)] → W p l e rm_wl_X2_highest s m args below meth c s.heap [] 0 0 (MQ below (vp_Si post) args s 0 0 (fun _ => False)) (F0 m 4 ls []))
    (hl : lv_has ls 4 [(0, .ref ql), (1, .int x1), (2, .int x2), (3, .int x3)])
    (hw : q_wl_X2_highest_42 P4 f_huts a_heights x1 x2 x3 post) :
    W p l e rm_wl_X2_highest s m args below meth c s.heap [] 0 0 (MQ below (vp_Si post) args s 0 0 (fun _ => False)) (F0 m 42 ls []) := by
  have hx := zc.1
  have hb := zc.2.1
  obtain ⟨v_1, ev_1⟩ : ∃ y : Int32, y = x3 + (1 : Int32) := ⟨_, rfl⟩
  have hw := hw v_1 ev_1
  refine lv_iinc (v := v_1) (k := 3) (lv' := [(3, .int v_1), (0, .ref ql), (1, .int x1), (2, .int x2)]) hx hb dX2_highest_42 hl rfl (by rw [ev_1]; rfl) (by decide) rfl (fun ls hl => ?_)
  refine lv_goto (tgt := 4) hx hb dX2_highest_45 (by decide) ?_
  exact hP4 _ _ _ hw (lv_sub hl [1, 2, 3, 0] rfl)
set_option maxRecDepth 20000 in
theorem t_wl_X2_highest_40 {p : Program} {l : Launch} {e : Env} {s : State} {m : MethodId} {args : Array Value} {below : List Frame} {meth : Method} {c : Code} {E : zE} {ql : Nat} {f_huts : Int32} {f_singers : Int32} {f_villages : Int32} {f_dams : Int32} {f_echoes : Int32} {f_deep : Int32} {f_slide : Int32} {a_heights : Nat → Int32} {a_ladders : Nat → Int32} {a_minutes : Nat → Int32} {a_echoFrom : Nat → Int32} {a_echoTo : Nat → Int32} {a_homes : Nat → Int32} {a_talls : Nat → Int32} {a_known : Nat → Int32} {P4 : Int32 → Int32 → Prop} {post : Int32 → Prop} {x1 : Int32} {x3 : Int32} {ls : Array Slot}
    (zc : zC p s m args meth c cX2_highest 4 RX2 (some .int))
    (hK : zK E s)
    (hM : wlW E ql f_huts f_singers f_villages f_dams f_echoes f_deep f_slide a_heights a_ladders a_minutes a_echoFrom a_echoTo a_homes a_talls a_known s.heap)
    (hP4 : ∀ (x2 : Int32) (x3 : Int32) (ls : Array Slot), P4 x2 x3 → lv_has ls 4 [(0, .ref ql), (1, .int x1), (2, .int x2), (3, .int x3)] → W p l e rm_wl_X2_highest s m args below meth c s.heap [] 0 0 (MQ below (vp_Si post) args s 0 0 (fun _ => False)) (F0 m 4 ls []))
    (hl : lv_has ls 4 [(0, .ref ql), (1, .int x1), (3, .int x3)])
    (hw : q_wl_X2_highest_40 P4 f_huts a_heights x1 x3 post) :
    W p l e rm_wl_X2_highest s m args below meth c s.heap [] 0 0 (MQ below (vp_Si post) args s 0 0 (fun _ => False)) (F0 m 40 ls []) := by
  have hx := zc.1
  have hb := zc.2.1
  refine lv_iload_n hx hb dX2_highest_40 rfl (lv_at hl 2 rfl) ?_
  refine lv_istore_n (lv' := [(2, .int x3), (0, .ref ql), (1, .int x1), (3, .int x3)]) hx hb dX2_highest_41 rfl hl (by decide) rfl (fun ls hl => ?_)
  exact t_wl_X2_highest_42 zc hK hM hP4 (lv_sub hl [1, 2, 0, 3] rfl) hw
set_option maxRecDepth 20000 in
theorem t_wl_X2_highest_4 {p : Program} {l : Launch} {e : Env} {s : State} {m : MethodId} {args : Array Value} {below : List Frame} {meth : Method} {c : Code} {E : zE} {ql : Nat} {f_huts : Int32} {f_singers : Int32} {f_villages : Int32} {f_dams : Int32} {f_echoes : Int32} {f_deep : Int32} {f_slide : Int32} {a_heights : Nat → Int32} {a_ladders : Nat → Int32} {a_minutes : Nat → Int32} {a_echoFrom : Nat → Int32} {a_echoTo : Nat → Int32} {a_homes : Nat → Int32} {a_talls : Nat → Int32} {a_known : Nat → Int32} {post : Int32 → Prop} {x1 : Int32} {x2 : Int32} {x3 : Int32} {ls : Array Slot}
    (zc : zC p s m args meth c cX2_highest 4 RX2 (some .int))
    (hK : zK E s)
    (hM : wlW E ql f_huts f_singers f_villages f_dams f_echoes f_deep f_slide a_heights a_ladders a_minutes a_echoFrom a_echoTo a_homes a_talls a_known s.heap)
    (hl : lv_has ls 4 [(0, .ref ql), (1, .int x1), (2, .int x2), (3, .int x3)])
    (hw : q_wl_X2_highest_4 f_huts a_heights x1 x2 x3 post) :
    W p l e rm_wl_X2_highest s m args below meth c s.heap [] 0 0 (MQ below (vp_Si post) args s 0 0 (fun _ => False)) (F0 m 4 ls []) := by
  have hx := zc.1
  have hb := zc.2.1
  refine hw (fun x2 x3 => ∀ (ls : Array Slot), lv_has ls 4 [(0, .ref ql), (1, .int x1), (2, .int x2), (3, .int x3)] → W p l e rm_wl_X2_highest s m args below meth c s.heap [] 0 0 (MQ below (vp_Si post) args s 0 0 (fun _ => False)) (F0 m 4 ls [])) ?_ _ hl
  intro x2 x3 hw ls hl
  refine lv_iload_n hx hb dX2_highest_4 rfl (lv_at hl 3 rfl) ?_
  refine lv_aload_n hx hb dX2_highest_5 rfl (lv_at hl 0 rfl) ?_
  refine wlg_2_43_0 zc hK hM dX2_highest_6 ?_
  refine lv_icmp_ge (tgt := 48) hx hb dX2_highest_9 (by decide) (fun hc => ?_) (fun hc => ?_)
  · have hw := hw.1 hc
    refine lv_iload_n hx hb dX2_highest_48 rfl (lv_at hl 2 rfl) ?_
    exact zret_i zc hw dX2_highest_49
  · have hw := hw.2 hc
    refine lv_iload_n hx hb dX2_highest_12 rfl (lv_at hl 1 rfl) ?_
    refine lv_iload_n hx hb dX2_highest_13 rfl (lv_at hl 3 rfl) ?_
    refine zSN_i [.int x1, .int x3] [] zc ky_X10_has kz_X10_has (hK.2 _ kn_2_77) (c_z_X10_has l hw) (zPre0 _) rfl rfl hl.1 (Nat.le_of_ble_eq_true rfl) ⟨rfl, rfl⟩ ⟨Nat.le_of_ble_eq_true rfl, Nat.le_of_ble_eq_true rfl⟩ ⟨(Nat.zero_le _), (Nat.zero_le _)⟩ dX2_highest_14 (fun r_1 hw => ?_)
    refine lv_if_eq (tgt := 42) hx hb dX2_highest_17 (by decide) (fun hc => ?_) (fun hc => ?_)
    · have hw := hw.1 hc
      exact t_wl_X2_highest_42 zc hK hM (fun _ _ ls h hl => h ls hl) (lv_sub hl [0, 1, 2, 3] rfl) hw
    · have hw := hw.2 hc
      refine lv_iload_n hx hb dX2_highest_20 rfl (lv_at hl 2 rfl) ?_
      refine lv_iconst (v := (-1 : Int32)) hx hb dX2_highest_21 (by decide) ?_
      refine lv_icmp_eq (tgt := 40) hx hb dX2_highest_22 (by decide) (fun hc => ?_) (fun hc => ?_)
      · have hw := hw.1 hc
        exact t_wl_X2_highest_40 zc hK hM (fun _ _ ls h hl => h ls hl) (lv_sub hl [0, 1, 3] rfl) hw
      · have hw := hw.2 hc
        refine lv_aload_n hx hb dX2_highest_25 rfl (lv_at hl 0 rfl) ?_
        refine wlg_2_18_0 zc hK hM dX2_highest_26 ?_
        refine lv_iload_n hx hb dX2_highest_29 rfl (lv_at hl 3 rfl) ?_
        refine wlld_1 zc hK hM hw.1 dX2_highest_30 ?_
        have hw := hw.2
        refine lv_aload_n hx hb dX2_highest_31 rfl (lv_at hl 0 rfl) ?_
        refine wlg_2_18_0 zc hK hM dX2_highest_32 ?_
        refine lv_iload_n hx hb dX2_highest_35 rfl (lv_at hl 2 rfl) ?_
        refine wlld_1 zc hK hM hw.1 dX2_highest_36 ?_
        have hw := hw.2
        refine lv_icmp_le (tgt := 42) hx hb dX2_highest_37 (by decide) (fun hc => ?_) (fun hc => ?_)
        · have hw := hw.1 hc
          exact t_wl_X2_highest_42 zc hK hM (fun _ _ ls h hl => h ls hl) (lv_sub hl [0, 1, 2, 3] rfl) hw
        · have hw := hw.2 hc
          exact t_wl_X2_highest_40 zc hK hM (fun _ _ ls h hl => h ls hl) (lv_sub hl [0, 1, 3] rfl) hw
set_option maxRecDepth 20000 in
theorem t_wl_X2_highest_0 {p : Program} {l : Launch} {e : Env} {s : State} {m : MethodId} {args : Array Value} {below : List Frame} {meth : Method} {c : Code} {E : zE} {ql : Nat} {f_huts : Int32} {f_singers : Int32} {f_villages : Int32} {f_dams : Int32} {f_echoes : Int32} {f_deep : Int32} {f_slide : Int32} {a_heights : Nat → Int32} {a_ladders : Nat → Int32} {a_minutes : Nat → Int32} {a_echoFrom : Nat → Int32} {a_echoTo : Nat → Int32} {a_homes : Nat → Int32} {a_talls : Nat → Int32} {a_known : Nat → Int32} {post : Int32 → Prop} {x1 : Int32} {ls : Array Slot}
    (zc : zC p s m args meth c cX2_highest 4 RX2 (some .int))
    (hK : zK E s)
    (hM : wlW E ql f_huts f_singers f_villages f_dams f_echoes f_deep f_slide a_heights a_ladders a_minutes a_echoFrom a_echoTo a_homes a_talls a_known s.heap)
    (hl : lv_has ls 4 [(0, .ref ql), (1, .int x1)])
    (hw : q_wl_X2_highest_0 f_huts a_heights x1 post) :
    W p l e rm_wl_X2_highest s m args below meth c s.heap [] 0 0 (MQ below (vp_Si post) args s 0 0 (fun _ => False)) (F0 m 0 ls []) := by
  have hx := zc.1
  have hb := zc.2.1
  refine lv_iconst (v := (-1 : Int32)) hx hb dX2_highest_0 (by decide) ?_
  refine lv_istore_n (lv' := [(2, .int (-1 : Int32)), (0, .ref ql), (1, .int x1)]) hx hb dX2_highest_1 rfl hl (by decide) rfl (fun ls hl => ?_)
  refine lv_iconst (v := (0 : Int32)) hx hb dX2_highest_2 (by decide) ?_
  refine lv_istore_n (lv' := [(3, .int (0 : Int32)), (2, .int (-1 : Int32)), (0, .ref ql), (1, .int x1)]) hx hb dX2_highest_3 rfl hl (by decide) rfl (fun ls hl => ?_)
  exact t_wl_X2_highest_4 zc hK hM  (lv_sub hl [2, 3, 1, 0] rfl) hw
set_option maxRecDepth 20000 in
theorem c_wl_X2_highest (l : Launch) {E : zE} {ql : Nat} {f_huts : Int32} {f_singers : Int32} {f_villages : Int32} {f_dams : Int32} {f_echoes : Int32} {f_deep : Int32} {f_slide : Int32} {a_heights : Nat → Int32} {a_ladders : Nat → Int32} {a_minutes : Nat → Int32} {a_echoFrom : Nat → Int32} {a_echoTo : Nat → Int32} {a_homes : Nat → Int32} {a_talls : Nat → Int32} {a_known : Nat → Int32} {x1 : Int32} {post : Int32 → Prop} (hw : q_wl_X2_highest_0 f_huts a_heights x1 post) : Met l yX2_highest (Cond.code yX2_highest cX2_highest 4 (some .int) :: zb) rm_wl_X2_highest (va_Pc [.ref ql, .int x1] (fun U => wlW E ql f_huts f_singers f_villages f_dams f_echoes f_deep f_slide a_heights a_ladders a_minutes a_echoFrom a_echoTo a_homes a_talls a_known U.heap ∧ zK E U)) (vp_Si post) 0 0 (fun _ => False) := by
  refine Met.ofW (cc := cX2_highest) (maxL := 4) (ret := (some .int)) (by decide) rfl ?_
  intro p e s m args below meth c s₁ B hml hv
  obtain ⟨rfl, hM, hK⟩ := hv
  have zc := zc_of B hml
  have hl := lv_entry ([.ref ql, .int x1]) (n := 4) (Nat.le_of_ble_eq_true rfl)
  rw [lg_entry_eq]
  generalize (lg_sl ([.ref ql, .int x1]) ++ List.replicate (4 - (lg_sl ([.ref ql, .int x1])).length) Slot.unset).toArray = ls at hl ⊢
  have hl : lv_has ls 4 [(0, .ref ql), (1, .int x1)] := hl
  exact t_wl_X2_highest_0 zc hK hM (lv_sub hl [0, 1] rfl) hw
-- wl_X2_lookSinger
abbrev rm_wl_X2_lookSinger : Room := { frames := 1, cells := 0, slots := 0, locals := 21 }
def q_wl_X2_lookSinger_0 (f_singers : Int32) (a_homes : Nat → Int32) (a_talls : Nat → Int32) (a_known : Nat → Int32) (x1 : Int32) (x2 : Int32) (post : Int32 → Prop) : Prop :=
  q_wl_X2_hasSinger_0 f_singers x2 (fun r_1 => (¬ r_1 = 0 → ((¬ x1 = (3 : Int32) → ((¬ x1 = (4 : Int32) → (vp_in x2 6 ∧ (post (a_known (Int32.toNatClampNeg x2))))) ∧ (x1 = (4 : Int32) → (vp_in x2 6 ∧ (post (a_talls (Int32.toNatClampNeg x2))))))) ∧ (x1 = (3 : Int32) → (vp_in x2 6 ∧ (post (a_homes (Int32.toNatClampNeg x2))))))) ∧ (r_1 = 0 → (post (-1 : Int32))))
set_option maxRecDepth 20000 in
theorem t_wl_X2_lookSinger_0 {p : Program} {l : Launch} {e : Env} {s : State} {m : MethodId} {args : Array Value} {below : List Frame} {meth : Method} {c : Code} {E : zE} {ql : Nat} {f_huts : Int32} {f_singers : Int32} {f_villages : Int32} {f_dams : Int32} {f_echoes : Int32} {f_deep : Int32} {f_slide : Int32} {a_heights : Nat → Int32} {a_ladders : Nat → Int32} {a_minutes : Nat → Int32} {a_echoFrom : Nat → Int32} {a_echoTo : Nat → Int32} {a_homes : Nat → Int32} {a_talls : Nat → Int32} {a_known : Nat → Int32} {post : Int32 → Prop} {x1 : Int32} {x2 : Int32} {ls : Array Slot}
    (zc : zC p s m args meth c cX2_lookSinger 3 RX2 (some .int))
    (hK : zK E s)
    (hM : wlW E ql f_huts f_singers f_villages f_dams f_echoes f_deep f_slide a_heights a_ladders a_minutes a_echoFrom a_echoTo a_homes a_talls a_known s.heap)
    (hl : lv_has ls 3 [(0, .ref ql), (1, .int x1), (2, .int x2)])
    (hw : q_wl_X2_lookSinger_0 f_singers a_homes a_talls a_known x1 x2 post) :
    W p l e rm_wl_X2_lookSinger s m args below meth c s.heap [] 0 0 (MQ below (vp_Si post) args s 0 0 (fun _ => False)) (F0 m 0 ls []) := by
  have hx := zc.1
  have hb := zc.2.1
  refine lv_aload_n hx hb dX2_lookSinger_0 rfl (lv_at hl 0 rfl) ?_
  refine lv_iload_n hx hb dX2_lookSinger_1 rfl (lv_at hl 2 rfl) ?_
  refine zV_i [.int x2] [] zc ky_X2_hasSinger kz_X2_hasSinger km_2_92 (c_wl_X2_hasSinger l hw) (wlPreV0 hK hM) rfl rfl hl.1 (Nat.le_of_ble_eq_true rfl) ⟨rfl, rfl⟩ ⟨Nat.le_of_ble_eq_true rfl, Nat.le_of_ble_eq_true rfl⟩ ⟨(Nat.zero_le _), (Nat.zero_le _)⟩ dX2_lookSinger_2 (fun r_1 hw => ?_)
  refine lv_if_ne (tgt := 10) hx hb dX2_lookSinger_5 (by decide) (fun hc => ?_) (fun hc => ?_)
  · have hw := hw.1 hc
    refine lv_iload_n hx hb dX2_lookSinger_10 rfl (lv_at hl 1 rfl) ?_
    refine lv_iconst (v := (3 : Int32)) hx hb dX2_lookSinger_11 (by decide) ?_
    refine lv_icmp_ne (tgt := 22) hx hb dX2_lookSinger_12 (by decide) (fun hc => ?_) (fun hc => ?_)
    · have hw := hw.1 hc
      refine lv_iload_n hx hb dX2_lookSinger_22 rfl (lv_at hl 1 rfl) ?_
      refine lv_iconst (v := (4 : Int32)) hx hb dX2_lookSinger_23 (by decide) ?_
      refine lv_icmp_ne (tgt := 36) hx hb dX2_lookSinger_24 (by decide) (fun hc => ?_) (fun hc => ?_)
      · have hw := hw.1 hc
        refine lv_aload_n hx hb dX2_lookSinger_36 rfl (lv_at hl 0 rfl) ?_
        refine wlg_2_40_0 zc hK hM dX2_lookSinger_37 ?_
        refine lv_iload_n hx hb dX2_lookSinger_40 rfl (lv_at hl 2 rfl) ?_
        refine wlld_8 zc hK hM hw.1 dX2_lookSinger_41 ?_
        have hw := hw.2
        exact zret_i zc hw dX2_lookSinger_42
      · have hw := hw.2 hc
        refine lv_aload_n hx hb dX2_lookSinger_27 rfl (lv_at hl 0 rfl) ?_
        refine wlg_2_37_0 zc hK hM dX2_lookSinger_28 ?_
        refine lv_iload_n hx hb dX2_lookSinger_31 rfl (lv_at hl 2 rfl) ?_
        refine wlld_7 zc hK hM hw.1 dX2_lookSinger_32 ?_
        have hw := hw.2
        refine lv_goto (tgt := 42) hx hb dX2_lookSinger_33 (by decide) ?_
        exact zret_i zc hw dX2_lookSinger_42
    · have hw := hw.2 hc
      refine lv_aload_n hx hb dX2_lookSinger_15 rfl (lv_at hl 0 rfl) ?_
      refine wlg_2_34_0 zc hK hM dX2_lookSinger_16 ?_
      refine lv_iload_n hx hb dX2_lookSinger_19 rfl (lv_at hl 2 rfl) ?_
      refine wlld_6 zc hK hM hw.1 dX2_lookSinger_20 ?_
      have hw := hw.2
      exact zret_i zc hw dX2_lookSinger_21
  · have hw := hw.2 hc
    refine lv_iconst (v := (-1 : Int32)) hx hb dX2_lookSinger_8 (by decide) ?_
    exact zret_i zc hw dX2_lookSinger_9
set_option maxRecDepth 20000 in
theorem c_wl_X2_lookSinger (l : Launch) {E : zE} {ql : Nat} {f_huts : Int32} {f_singers : Int32} {f_villages : Int32} {f_dams : Int32} {f_echoes : Int32} {f_deep : Int32} {f_slide : Int32} {a_heights : Nat → Int32} {a_ladders : Nat → Int32} {a_minutes : Nat → Int32} {a_echoFrom : Nat → Int32} {a_echoTo : Nat → Int32} {a_homes : Nat → Int32} {a_talls : Nat → Int32} {a_known : Nat → Int32} {x1 : Int32} {x2 : Int32} {post : Int32 → Prop} (hw : q_wl_X2_lookSinger_0 f_singers a_homes a_talls a_known x1 x2 post) : Met l yX2_lookSinger (Cond.code yX2_lookSinger cX2_lookSinger 3 (some .int) :: zb) rm_wl_X2_lookSinger (va_Pc [.ref ql, .int x1, .int x2] (fun U => wlW E ql f_huts f_singers f_villages f_dams f_echoes f_deep f_slide a_heights a_ladders a_minutes a_echoFrom a_echoTo a_homes a_talls a_known U.heap ∧ zK E U)) (vp_Si post) 0 0 (fun _ => False) := by
  refine Met.ofW (cc := cX2_lookSinger) (maxL := 3) (ret := (some .int)) (by decide) rfl ?_
  intro p e s m args below meth c s₁ B hml hv
  obtain ⟨rfl, hM, hK⟩ := hv
  have zc := zc_of B hml
  have hl := lv_entry ([.ref ql, .int x1, .int x2]) (n := 3) (Nat.le_of_ble_eq_true rfl)
  rw [lg_entry_eq]
  generalize (lg_sl ([.ref ql, .int x1, .int x2]) ++ List.replicate (3 - (lg_sl ([.ref ql, .int x1, .int x2])).length) Slot.unset).toArray = ls at hl ⊢
  have hl : lv_has ls 3 [(0, .ref ql), (1, .int x1), (2, .int x2)] := hl
  exact t_wl_X2_lookSinger_0 zc hK hM (lv_sub hl [0, 1, 2] rfl) hw
-- wl_X2_lookHut
abbrev rm_wl_X2_lookHut : Room := { frames := 1, cells := 0, slots := 0, locals := 21 }
def q_wl_X2_lookHut_0 (f_huts : Int32) (a_heights : Nat → Int32) (a_ladders : Nat → Int32) (x1 : Int32) (x2 : Int32) (post : Int32 → Prop) : Prop :=
  q_wl_X2_hasHut_0 f_huts x2 (fun r_1 => (¬ r_1 = 0 → ((¬ x1 = (1 : Int32) → (vp_in x2 9 ∧ (post (a_ladders (Int32.toNatClampNeg x2))))) ∧ (x1 = (1 : Int32) → (vp_in x2 9 ∧ (post (a_heights (Int32.toNatClampNeg x2))))))) ∧ (r_1 = 0 → (post (-1 : Int32))))
set_option maxRecDepth 20000 in
theorem t_wl_X2_lookHut_0 {p : Program} {l : Launch} {e : Env} {s : State} {m : MethodId} {args : Array Value} {below : List Frame} {meth : Method} {c : Code} {E : zE} {ql : Nat} {f_huts : Int32} {f_singers : Int32} {f_villages : Int32} {f_dams : Int32} {f_echoes : Int32} {f_deep : Int32} {f_slide : Int32} {a_heights : Nat → Int32} {a_ladders : Nat → Int32} {a_minutes : Nat → Int32} {a_echoFrom : Nat → Int32} {a_echoTo : Nat → Int32} {a_homes : Nat → Int32} {a_talls : Nat → Int32} {a_known : Nat → Int32} {post : Int32 → Prop} {x1 : Int32} {x2 : Int32} {ls : Array Slot}
    (zc : zC p s m args meth c cX2_lookHut 3 RX2 (some .int))
    (hK : zK E s)
    (hM : wlW E ql f_huts f_singers f_villages f_dams f_echoes f_deep f_slide a_heights a_ladders a_minutes a_echoFrom a_echoTo a_homes a_talls a_known s.heap)
    (hl : lv_has ls 3 [(0, .ref ql), (1, .int x1), (2, .int x2)])
    (hw : q_wl_X2_lookHut_0 f_huts a_heights a_ladders x1 x2 post) :
    W p l e rm_wl_X2_lookHut s m args below meth c s.heap [] 0 0 (MQ below (vp_Si post) args s 0 0 (fun _ => False)) (F0 m 0 ls []) := by
  have hx := zc.1
  have hb := zc.2.1
  refine lv_aload_n hx hb dX2_lookHut_0 rfl (lv_at hl 0 rfl) ?_
  refine lv_iload_n hx hb dX2_lookHut_1 rfl (lv_at hl 2 rfl) ?_
  refine zV_i [.int x2] [] zc ky_X2_hasHut kz_X2_hasHut km_2_70 (c_wl_X2_hasHut l hw) (wlPreV0 hK hM) rfl rfl hl.1 (Nat.le_of_ble_eq_true rfl) ⟨rfl, rfl⟩ ⟨Nat.le_of_ble_eq_true rfl, Nat.le_of_ble_eq_true rfl⟩ ⟨(Nat.zero_le _), (Nat.zero_le _)⟩ dX2_lookHut_2 (fun r_1 hw => ?_)
  refine lv_if_ne (tgt := 10) hx hb dX2_lookHut_5 (by decide) (fun hc => ?_) (fun hc => ?_)
  · have hw := hw.1 hc
    refine lv_iload_n hx hb dX2_lookHut_10 rfl (lv_at hl 1 rfl) ?_
    refine lv_iconst (v := (1 : Int32)) hx hb dX2_lookHut_11 (by decide) ?_
    refine lv_icmp_ne (tgt := 24) hx hb dX2_lookHut_12 (by decide) (fun hc => ?_) (fun hc => ?_)
    · have hw := hw.1 hc
      refine lv_aload_n hx hb dX2_lookHut_24 rfl (lv_at hl 0 rfl) ?_
      refine wlg_2_22_0 zc hK hM dX2_lookHut_25 ?_
      refine lv_iload_n hx hb dX2_lookHut_28 rfl (lv_at hl 2 rfl) ?_
      refine wlld_2 zc hK hM hw.1 dX2_lookHut_29 ?_
      have hw := hw.2
      exact zret_i zc hw dX2_lookHut_30
    · have hw := hw.2 hc
      refine lv_aload_n hx hb dX2_lookHut_15 rfl (lv_at hl 0 rfl) ?_
      refine wlg_2_18_0 zc hK hM dX2_lookHut_16 ?_
      refine lv_iload_n hx hb dX2_lookHut_19 rfl (lv_at hl 2 rfl) ?_
      refine wlld_1 zc hK hM hw.1 dX2_lookHut_20 ?_
      have hw := hw.2
      refine lv_goto (tgt := 30) hx hb dX2_lookHut_21 (by decide) ?_
      exact zret_i zc hw dX2_lookHut_30
  · have hw := hw.2 hc
    refine lv_iconst (v := (-1 : Int32)) hx hb dX2_lookHut_8 (by decide) ?_
    exact zret_i zc hw dX2_lookHut_9
set_option maxRecDepth 20000 in
theorem c_wl_X2_lookHut (l : Launch) {E : zE} {ql : Nat} {f_huts : Int32} {f_singers : Int32} {f_villages : Int32} {f_dams : Int32} {f_echoes : Int32} {f_deep : Int32} {f_slide : Int32} {a_heights : Nat → Int32} {a_ladders : Nat → Int32} {a_minutes : Nat → Int32} {a_echoFrom : Nat → Int32} {a_echoTo : Nat → Int32} {a_homes : Nat → Int32} {a_talls : Nat → Int32} {a_known : Nat → Int32} {x1 : Int32} {x2 : Int32} {post : Int32 → Prop} (hw : q_wl_X2_lookHut_0 f_huts a_heights a_ladders x1 x2 post) : Met l yX2_lookHut (Cond.code yX2_lookHut cX2_lookHut 3 (some .int) :: zb) rm_wl_X2_lookHut (va_Pc [.ref ql, .int x1, .int x2] (fun U => wlW E ql f_huts f_singers f_villages f_dams f_echoes f_deep f_slide a_heights a_ladders a_minutes a_echoFrom a_echoTo a_homes a_talls a_known U.heap ∧ zK E U)) (vp_Si post) 0 0 (fun _ => False) := by
  refine Met.ofW (cc := cX2_lookHut) (maxL := 3) (ret := (some .int)) (by decide) rfl ?_
  intro p e s m args below meth c s₁ B hml hv
  obtain ⟨rfl, hM, hK⟩ := hv
  have zc := zc_of B hml
  have hl := lv_entry ([.ref ql, .int x1, .int x2]) (n := 3) (Nat.le_of_ble_eq_true rfl)
  rw [lg_entry_eq]
  generalize (lg_sl ([.ref ql, .int x1, .int x2]) ++ List.replicate (3 - (lg_sl ([.ref ql, .int x1, .int x2])).length) Slot.unset).toArray = ls at hl ⊢
  have hl : lv_has ls 3 [(0, .ref ql), (1, .int x1), (2, .int x2)] := hl
  exact t_wl_X2_lookHut_0 zc hK hM (lv_sub hl [0, 1, 2] rfl) hw
-- wl_X2_lookWhole
abbrev rm_wl_X2_lookWhole : Room := { frames := 0, cells := 0, slots := 0, locals := 0 }
def q_wl_X2_lookWhole_0 (f_huts : Int32) (f_singers : Int32) (f_villages : Int32) (f_dams : Int32) (f_echoes : Int32) (f_deep : Int32) (f_slide : Int32) (x1 : Int32) (post : Int32 → Prop) : Prop :=
  (x1.toInt < 0 ∨ 6 < x1.toInt → (post (-1 : Int32))) ∧ (x1 = (0 : Int32) → (post f_huts)) ∧ (x1 = (1 : Int32) → (post f_singers)) ∧ (x1 = (2 : Int32) → (post f_villages)) ∧ (x1 = (3 : Int32) → (post f_dams)) ∧ (x1 = (4 : Int32) → (post f_echoes)) ∧ (x1 = (5 : Int32) → (post f_deep)) ∧ (x1 = (6 : Int32) → (post f_slide))
set_option maxRecDepth 20000 in
theorem t_wl_X2_lookWhole_0 {p : Program} {l : Launch} {e : Env} {s : State} {m : MethodId} {args : Array Value} {below : List Frame} {meth : Method} {c : Code} {E : zE} {ql : Nat} {f_huts : Int32} {f_singers : Int32} {f_villages : Int32} {f_dams : Int32} {f_echoes : Int32} {f_deep : Int32} {f_slide : Int32} {a_heights : Nat → Int32} {a_ladders : Nat → Int32} {a_minutes : Nat → Int32} {a_echoFrom : Nat → Int32} {a_echoTo : Nat → Int32} {a_homes : Nat → Int32} {a_talls : Nat → Int32} {a_known : Nat → Int32} {post : Int32 → Prop} {x1 : Int32} {ls : Array Slot}
    (zc : zC p s m args meth c cX2_lookWhole 2 RX2 (some .int))
    (hK : zK E s)
    (hM : wlW E ql f_huts f_singers f_villages f_dams f_echoes f_deep f_slide a_heights a_ladders a_minutes a_echoFrom a_echoTo a_homes a_talls a_known s.heap)
    (hl : lv_has ls 2 [(0, .ref ql), (1, .int x1)])
    (hw : q_wl_X2_lookWhole_0 f_huts f_singers f_villages f_dams f_echoes f_deep f_slide x1 post) :
    W p l e rm_wl_X2_lookWhole s m args below meth c s.heap [] 0 0 (MQ below (vp_Si post) args s 0 0 (fun _ => False)) (F0 m 0 ls []) := by
  have hx := zc.1
  have hb := zc.2.1
  refine lv_iload_n hx hb dX2_lookWhole_0 rfl (lv_at hl 1 rfl) ?_
  by_cases hc : x1.toInt < 0 ∨ 6 < x1.toInt
  · have hw := hw.1 hc
    refine lv_tableOut (tgt := 79) hx hb dX2_lookWhole_1 hc (by decide) ?_
    refine lv_iconst (v := (-1 : Int32)) hx hb dX2_lookWhole_79 (by decide) ?_
    exact zret_i zc hw dX2_lookWhole_80
  have hin := zsw hc
  by_cases hc0 : x1 = (0 : Int32)
  · have hw := hw.2.1 hc0
    refine lv_tableIn (tgt := 44) hx hb dX2_lookWhole_1 (by rw [hc0]; decide) (by rw [hc0]; decide) (by rw [hc0]; rfl) (by decide) ?_
    refine lv_aload_n hx hb dX2_lookWhole_44 rfl (lv_at hl 0 rfl) ?_
    refine wlg_2_43_0 zc hK hM dX2_lookWhole_45 ?_
    exact zret_i zc hw dX2_lookWhole_48
  by_cases hc1 : x1 = (1 : Int32)
  · have hw := hw.2.2.1 hc1
    refine lv_tableIn (tgt := 49) hx hb dX2_lookWhole_1 (by rw [hc1]; decide) (by rw [hc1]; decide) (by rw [hc1]; rfl) (by decide) ?_
    refine lv_aload_n hx hb dX2_lookWhole_49 rfl (lv_at hl 0 rfl) ?_
    refine wlg_2_46_0 zc hK hM dX2_lookWhole_50 ?_
    exact zret_i zc hw dX2_lookWhole_53
  by_cases hc2 : x1 = (2 : Int32)
  · have hw := hw.2.2.2.1 hc2
    refine lv_tableIn (tgt := 54) hx hb dX2_lookWhole_1 (by rw [hc2]; decide) (by rw [hc2]; decide) (by rw [hc2]; rfl) (by decide) ?_
    refine lv_aload_n hx hb dX2_lookWhole_54 rfl (lv_at hl 0 rfl) ?_
    refine wlg_2_49_0 zc hK hM dX2_lookWhole_55 ?_
    exact zret_i zc hw dX2_lookWhole_58
  by_cases hc3 : x1 = (3 : Int32)
  · have hw := hw.2.2.2.2.1 hc3
    refine lv_tableIn (tgt := 59) hx hb dX2_lookWhole_1 (by rw [hc3]; decide) (by rw [hc3]; decide) (by rw [hc3]; rfl) (by decide) ?_
    refine lv_aload_n hx hb dX2_lookWhole_59 rfl (lv_at hl 0 rfl) ?_
    refine wlg_2_52_0 zc hK hM dX2_lookWhole_60 ?_
    exact zret_i zc hw dX2_lookWhole_63
  by_cases hc4 : x1 = (4 : Int32)
  · have hw := hw.2.2.2.2.2.1 hc4
    refine lv_tableIn (tgt := 64) hx hb dX2_lookWhole_1 (by rw [hc4]; decide) (by rw [hc4]; decide) (by rw [hc4]; rfl) (by decide) ?_
    refine lv_aload_n hx hb dX2_lookWhole_64 rfl (lv_at hl 0 rfl) ?_
    refine wlg_2_55_0 zc hK hM dX2_lookWhole_65 ?_
    exact zret_i zc hw dX2_lookWhole_68
  by_cases hc5 : x1 = (5 : Int32)
  · have hw := hw.2.2.2.2.2.2.1 hc5
    refine lv_tableIn (tgt := 69) hx hb dX2_lookWhole_1 (by rw [hc5]; decide) (by rw [hc5]; decide) (by rw [hc5]; rfl) (by decide) ?_
    refine lv_aload_n hx hb dX2_lookWhole_69 rfl (lv_at hl 0 rfl) ?_
    refine wlg_2_9_0 zc hK hM dX2_lookWhole_70 ?_
    exact zret_i zc hw dX2_lookWhole_73
  by_cases hc6 : x1 = (6 : Int32)
  · have hw := hw.2.2.2.2.2.2.2 hc6
    refine lv_tableIn (tgt := 74) hx hb dX2_lookWhole_1 (by rw [hc6]; decide) (by rw [hc6]; decide) (by rw [hc6]; rfl) (by decide) ?_
    refine lv_aload_n hx hb dX2_lookWhole_74 rfl (lv_at hl 0 rfl) ?_
    refine wlg_2_15_0 zc hK hM dX2_lookWhole_75 ?_
    exact zret_i zc hw dX2_lookWhole_78
  exact absurd hin (by have h0 := zne hc0; have h1 := zne hc1; have h2 := zne hc2; have h3 := zne hc3; have h4 := zne hc4; have h5 := zne hc5; have h6 := zne hc6; simp at *; omega)
set_option maxRecDepth 20000 in
theorem c_wl_X2_lookWhole (l : Launch) {E : zE} {ql : Nat} {f_huts : Int32} {f_singers : Int32} {f_villages : Int32} {f_dams : Int32} {f_echoes : Int32} {f_deep : Int32} {f_slide : Int32} {a_heights : Nat → Int32} {a_ladders : Nat → Int32} {a_minutes : Nat → Int32} {a_echoFrom : Nat → Int32} {a_echoTo : Nat → Int32} {a_homes : Nat → Int32} {a_talls : Nat → Int32} {a_known : Nat → Int32} {x1 : Int32} {post : Int32 → Prop} (hw : q_wl_X2_lookWhole_0 f_huts f_singers f_villages f_dams f_echoes f_deep f_slide x1 post) : Met l yX2_lookWhole (Cond.code yX2_lookWhole cX2_lookWhole 2 (some .int) :: zb) rm_wl_X2_lookWhole (va_Pc [.ref ql, .int x1] (fun U => wlW E ql f_huts f_singers f_villages f_dams f_echoes f_deep f_slide a_heights a_ladders a_minutes a_echoFrom a_echoTo a_homes a_talls a_known U.heap ∧ zK E U)) (vp_Si post) 0 0 (fun _ => False) := by
  refine Met.ofW (cc := cX2_lookWhole) (maxL := 2) (ret := (some .int)) (by decide) rfl ?_
  intro p e s m args below meth c s₁ B hml hv
  obtain ⟨rfl, hM, hK⟩ := hv
  have zc := zc_of B hml
  have hl := lv_entry ([.ref ql, .int x1]) (n := 2) (Nat.le_of_ble_eq_true rfl)
  rw [lg_entry_eq]
  generalize (lg_sl ([.ref ql, .int x1]) ++ List.replicate (2 - (lg_sl ([.ref ql, .int x1])).length) Slot.unset).toArray = ls at hl ⊢
  have hl : lv_has ls 2 [(0, .ref ql), (1, .int x1)] := hl
  exact t_wl_X2_lookWhole_0 zc hK hM (lv_sub hl [0, 1] rfl) hw
-- wl_X2_look
abbrev rm_wl_X2_look : Room := { frames := 2, cells := 0, slots := 0, locals := 43 }
def q_wl_X2_look_0 (f_huts : Int32) (f_singers : Int32) (f_villages : Int32) (f_dams : Int32) (f_echoes : Int32) (f_deep : Int32) (f_slide : Int32) (a_heights : Nat → Int32) (a_ladders : Nat → Int32) (a_minutes : Nat → Int32) (a_homes : Nat → Int32) (a_talls : Nat → Int32) (a_known : Nat → Int32) (x1 : Int32) (post : Int32 → Prop) : Prop :=
  (x1 < 0 → (post (-1 : Int32))) ∧ (¬ x1 < 0 → ((x1 < (141 : Int32) → ((x1 < (60 : Int32) → (((10 : Int32) ≤ x1 → (∀ v_1 : Int32, v_1 = (x1 - x1 / (10 : Int32) * (10 : Int32)) → (((30 : Int32) ≤ x1 → (q_wl_X2_lookSinger_0 f_singers a_homes a_talls a_known (x1 / (10 : Int32)) v_1 (fun r_1 => post r_1))) ∧ (¬ (30 : Int32) ≤ x1 → (q_wl_X2_lookHut_0 f_huts a_heights a_ladders (x1 / (10 : Int32)) v_1 (fun r_2 => post r_2)))))) ∧ (¬ (10 : Int32) ≤ x1 → (q_wl_X2_lookWhole_0 f_huts f_singers f_villages f_dams f_echoes f_deep f_slide x1 (fun r_3 => post r_3))))) ∧ (¬ x1 < (60 : Int32) → (∀ v_2 : Int32, v_2 = ((x1 - (60 : Int32)) / (9 : Int32)) → (∀ v_3 : Int32, v_3 = ((x1 - (60 : Int32)) - (x1 - (60 : Int32)) / (9 : Int32) * (9 : Int32)) → (q_wl_X2_hasHut_0 f_huts v_2 (fun r_4 => (r_4 = 0 → (post (-1 : Int32))) ∧ (¬ r_4 = 0 → (q_wl_X2_hasHut_0 f_huts v_3 (fun r_5 => (r_5 = 0 → (post (-1 : Int32))) ∧ (¬ r_5 = 0 → (vp_in ((v_2 * (9 : Int32)) + v_3) 81 ∧ (post (a_minutes (Int32.toNatClampNeg ((v_2 * (9 : Int32)) + v_3)))))))))))))))) ∧ (¬ x1 < (141 : Int32) → (post (-1 : Int32)))))
set_option maxRecDepth 20000 in
theorem t_wl_X2_look_0 {p : Program} {l : Launch} {e : Env} {s : State} {m : MethodId} {args : Array Value} {below : List Frame} {meth : Method} {c : Code} {E : zE} {ql : Nat} {f_huts : Int32} {f_singers : Int32} {f_villages : Int32} {f_dams : Int32} {f_echoes : Int32} {f_deep : Int32} {f_slide : Int32} {a_heights : Nat → Int32} {a_ladders : Nat → Int32} {a_minutes : Nat → Int32} {a_echoFrom : Nat → Int32} {a_echoTo : Nat → Int32} {a_homes : Nat → Int32} {a_talls : Nat → Int32} {a_known : Nat → Int32} {post : Int32 → Prop} {x1 : Int32} {ls : Array Slot}
    (zc : zC p s m args meth c cX2_look 4 RX2 (some .int))
    (hK : zK E s)
    (hM : wlW E ql f_huts f_singers f_villages f_dams f_echoes f_deep f_slide a_heights a_ladders a_minutes a_echoFrom a_echoTo a_homes a_talls a_known s.heap)
    (hl : lv_has ls 4 [(0, .ref ql), (1, .int x1)])
    (hw : q_wl_X2_look_0 f_huts f_singers f_villages f_dams f_echoes f_deep f_slide a_heights a_ladders a_minutes a_homes a_talls a_known x1 post) :
    W p l e rm_wl_X2_look s m args below meth c s.heap [] 0 0 (MQ below (vp_Si post) args s 0 0 (fun _ => False)) (F0 m 0 ls []) := by
  have hx := zc.1
  have hb := zc.2.1
  refine lv_iload_n hx hb dX2_look_0 rfl (lv_at hl 1 rfl) ?_
  refine lv_if_lt (tgt := 11) hx hb dX2_look_1 (by decide) (fun hc => ?_) (fun hc => ?_)
  · have hw := hw.1 hc
    refine lv_iconst (v := (-1 : Int32)) hx hb dX2_look_11 (by decide) ?_
    exact zret_i zc hw dX2_look_12
  · have hw := hw.2 hc
    refine lv_iload_n hx hb dX2_look_4 rfl (lv_at hl 1 rfl) ?_
    refine lv_sipush (v := (141 : Int32)) hx hb dX2_look_5 (by decide) ?_
    refine lv_icmp_lt (tgt := 13) hx hb dX2_look_8 (by decide) (fun hc => ?_) (fun hc => ?_)
    · have hw := hw.1 hc
      refine lv_iload_n hx hb dX2_look_13 rfl (lv_at hl 1 rfl) ?_
      refine lv_bipush (v := (60 : Int32)) hx hb dX2_look_14 (by decide) ?_
      refine lv_icmp_lt (tgt := 67) hx hb dX2_look_16 (by decide) (fun hc => ?_) (fun hc => ?_)
      · have hw := hw.1 hc
        refine lv_iload_n hx hb dX2_look_67 rfl (lv_at hl 1 rfl) ?_
        refine lv_bipush (v := (10 : Int32)) hx hb dX2_look_68 (by decide) ?_
        refine lv_icmp_ge (tgt := 79) hx hb dX2_look_70 (by decide) (fun hc => ?_) (fun hc => ?_)
        · have hw := hw.1 hc
          refine lv_iload_n hx hb dX2_look_79 rfl (lv_at hl 1 rfl) ?_
          refine lv_bipush (v := (10 : Int32)) hx hb dX2_look_80 (by decide) ?_
          refine lv_irem hx hb dX2_look_82 (by decide) ?_
          refine lv_topi (fun v_1 ev_1 => ?_)
          have hw := hw v_1 ev_1
          refine lv_istore_n (lv' := [(2, .int v_1), (0, .ref ql), (1, .int x1)]) hx hb dX2_look_83 rfl hl (by decide) rfl (fun ls hl => ?_)
          refine lv_iload_n hx hb dX2_look_84 rfl (lv_at hl 2 rfl) ?_
          refine lv_bipush (v := (30 : Int32)) hx hb dX2_look_85 (by decide) ?_
          refine lv_icmp_ge (tgt := 102) hx hb dX2_look_87 (by decide) (fun hc => ?_) (fun hc => ?_)
          · have hw := hw.1 hc
            refine lv_aload_n hx hb dX2_look_102 rfl (lv_at hl 1 rfl) ?_
            refine lv_iload_n hx hb dX2_look_103 rfl (lv_at hl 2 rfl) ?_
            refine lv_bipush (v := (10 : Int32)) hx hb dX2_look_104 (by decide) ?_
            refine lv_idiv hx hb dX2_look_106 (by decide) ?_
            refine lv_iload_n hx hb dX2_look_107 rfl (lv_at hl 0 rfl) ?_
            refine zV_i [.int (x1 / (10 : Int32)), .int v_1] [] zc ky_X2_lookSinger kz_X2_lookSinger km_2_89 (c_wl_X2_lookSinger l hw) (wlPreV0 hK hM) rfl rfl hl.1 (Nat.le_of_ble_eq_true rfl) ⟨rfl, rfl⟩ ⟨Nat.le_of_ble_eq_true rfl, Nat.le_of_ble_eq_true rfl⟩ ⟨(Nat.zero_le _), (Nat.zero_le _)⟩ dX2_look_108 (fun r_1 hw => ?_)
            exact zret_i zc hw dX2_look_111
          · have hw := hw.2 hc
            refine lv_aload_n hx hb dX2_look_90 rfl (lv_at hl 1 rfl) ?_
            refine lv_iload_n hx hb dX2_look_91 rfl (lv_at hl 2 rfl) ?_
            refine lv_bipush (v := (10 : Int32)) hx hb dX2_look_92 (by decide) ?_
            refine lv_idiv hx hb dX2_look_94 (by decide) ?_
            refine lv_iload_n hx hb dX2_look_95 rfl (lv_at hl 0 rfl) ?_
            refine zV_i [.int (x1 / (10 : Int32)), .int v_1] [] zc ky_X2_lookHut kz_X2_lookHut km_2_85 (c_wl_X2_lookHut l hw) (wlPreV0 hK hM) rfl rfl hl.1 (Nat.le_of_ble_eq_true rfl) ⟨rfl, rfl⟩ ⟨Nat.le_of_ble_eq_true rfl, Nat.le_of_ble_eq_true rfl⟩ ⟨(Nat.zero_le _), (Nat.zero_le _)⟩ dX2_look_96 (fun r_2 hw => ?_)
            refine lv_goto (tgt := 111) hx hb dX2_look_99 (by decide) ?_
            exact zret_i zc hw dX2_look_111
        · have hw := hw.2 hc
          refine lv_aload_n hx hb dX2_look_73 rfl (lv_at hl 0 rfl) ?_
          refine lv_iload_n hx hb dX2_look_74 rfl (lv_at hl 1 rfl) ?_
          refine zV_i [.int x1] [] zc ky_X2_lookWhole kz_X2_lookWhole km_2_81 (c_wl_X2_lookWhole l hw) (wlPreV0 hK hM) rfl rfl hl.1 (Nat.le_of_ble_eq_true rfl) ⟨rfl, rfl⟩ ⟨Nat.le_of_ble_eq_true rfl, Nat.le_of_ble_eq_true rfl⟩ ⟨(Nat.zero_le _), (Nat.zero_le _)⟩ dX2_look_75 (fun r_3 hw => ?_)
          exact zret_i zc hw dX2_look_78
      · have hw := hw.2 hc
        refine lv_iload_n hx hb dX2_look_19 rfl (lv_at hl 1 rfl) ?_
        refine lv_bipush (v := (60 : Int32)) hx hb dX2_look_20 (by decide) ?_
        refine lv_isub hx hb dX2_look_22 ?_
        refine lv_bipush (v := (9 : Int32)) hx hb dX2_look_23 (by decide) ?_
        refine lv_idiv hx hb dX2_look_25 (by decide) ?_
        refine lv_topi (fun v_2 ev_2 => ?_)
        have hw := hw v_2 ev_2
        refine lv_istore_n (lv' := [(2, .int v_2), (0, .ref ql), (1, .int x1)]) hx hb dX2_look_26 rfl hl (by decide) rfl (fun ls hl => ?_)
        refine lv_iload_n hx hb dX2_look_27 rfl (lv_at hl 2 rfl) ?_
        refine lv_bipush (v := (60 : Int32)) hx hb dX2_look_28 (by decide) ?_
        refine lv_isub hx hb dX2_look_30 ?_
        refine lv_bipush (v := (9 : Int32)) hx hb dX2_look_31 (by decide) ?_
        refine lv_irem hx hb dX2_look_33 (by decide) ?_
        refine lv_topi (fun v_3 ev_3 => ?_)
        have hw := hw v_3 ev_3
        refine lv_istore_n (lv' := [(3, .int v_3), (2, .int v_2), (0, .ref ql), (1, .int x1)]) hx hb dX2_look_34 rfl hl (by decide) rfl (fun ls hl => ?_)
        refine lv_aload_n hx hb dX2_look_35 rfl (lv_at hl 2 rfl) ?_
        refine lv_iload_n hx hb dX2_look_36 rfl (lv_at hl 1 rfl) ?_
        refine zV_i [.int v_2] [] zc ky_X2_hasHut kz_X2_hasHut km_2_70 (c_wl_X2_hasHut l hw) (wlPreV0 hK hM) rfl rfl hl.1 (Nat.le_of_ble_eq_true rfl) ⟨rfl, rfl⟩ ⟨Nat.le_of_ble_eq_true rfl, Nat.le_of_ble_eq_true rfl⟩ ⟨(Nat.zero_le _), (Nat.zero_le _)⟩ dX2_look_37 (fun r_4 hw => ?_)
        refine lv_if_eq (tgt := 65) hx hb dX2_look_40 (by decide) (fun hc => ?_) (fun hc => ?_)
        · have hw := hw.1 hc
          refine lv_iconst (v := (-1 : Int32)) hx hb dX2_look_65 (by decide) ?_
          exact zret_i zc hw dX2_look_66
        · have hw := hw.2 hc
          refine lv_aload_n hx hb dX2_look_43 rfl (lv_at hl 2 rfl) ?_
          refine lv_iload_n hx hb dX2_look_44 rfl (lv_at hl 0 rfl) ?_
          refine zV_i [.int v_3] [] zc ky_X2_hasHut kz_X2_hasHut km_2_70 (c_wl_X2_hasHut l hw) (wlPreV0 hK hM) rfl rfl hl.1 (Nat.le_of_ble_eq_true rfl) ⟨rfl, rfl⟩ ⟨Nat.le_of_ble_eq_true rfl, Nat.le_of_ble_eq_true rfl⟩ ⟨(Nat.zero_le _), (Nat.zero_le _)⟩ dX2_look_45 (fun r_5 hw => ?_)
          refine lv_if_eq (tgt := 65) hx hb dX2_look_48 (by decide) (fun hc => ?_) (fun hc => ?_)
          · have hw := hw.1 hc
            refine lv_iconst (v := (-1 : Int32)) hx hb dX2_look_65 (by decide) ?_
            exact zret_i zc hw dX2_look_66
          · have hw := hw.2 hc
            refine lv_aload_n hx hb dX2_look_51 rfl (lv_at hl 2 rfl) ?_
            refine wlg_2_25_0 zc hK hM dX2_look_52 ?_
            refine lv_iload_n hx hb dX2_look_55 rfl (lv_at hl 1 rfl) ?_
            refine lv_bipush (v := (9 : Int32)) hx hb dX2_look_56 (by decide) ?_
            refine lv_imul hx hb dX2_look_58 ?_
            refine lv_iload_n hx hb dX2_look_59 rfl (lv_at hl 0 rfl) ?_
            refine lv_iadd hx hb dX2_look_60 ?_
            refine wlld_3 zc hK hM hw.1 dX2_look_61 ?_
            have hw := hw.2
            refine lv_goto (tgt := 66) hx hb dX2_look_62 (by decide) ?_
            exact zret_i zc hw dX2_look_66
    · have hw := hw.2 hc
      refine lv_iconst (v := (-1 : Int32)) hx hb dX2_look_11 (by decide) ?_
      exact zret_i zc hw dX2_look_12
set_option maxRecDepth 20000 in
theorem c_wl_X2_look (l : Launch) {E : zE} {ql : Nat} {f_huts : Int32} {f_singers : Int32} {f_villages : Int32} {f_dams : Int32} {f_echoes : Int32} {f_deep : Int32} {f_slide : Int32} {a_heights : Nat → Int32} {a_ladders : Nat → Int32} {a_minutes : Nat → Int32} {a_echoFrom : Nat → Int32} {a_echoTo : Nat → Int32} {a_homes : Nat → Int32} {a_talls : Nat → Int32} {a_known : Nat → Int32} {x1 : Int32} {post : Int32 → Prop} (hw : q_wl_X2_look_0 f_huts f_singers f_villages f_dams f_echoes f_deep f_slide a_heights a_ladders a_minutes a_homes a_talls a_known x1 post) : Met l yX2_look (Cond.code yX2_look cX2_look 4 (some .int) :: zb) rm_wl_X2_look (va_Pc [.ref ql, .int x1] (fun U => wlW E ql f_huts f_singers f_villages f_dams f_echoes f_deep f_slide a_heights a_ladders a_minutes a_echoFrom a_echoTo a_homes a_talls a_known U.heap ∧ zK E U)) (vp_Si post) 0 0 (fun _ => False) := by
  refine Met.ofW (cc := cX2_look) (maxL := 4) (ret := (some .int)) (by decide) rfl ?_
  intro p e s m args below meth c s₁ B hml hv
  obtain ⟨rfl, hM, hK⟩ := hv
  have zc := zc_of B hml
  have hl := lv_entry ([.ref ql, .int x1]) (n := 4) (Nat.le_of_ble_eq_true rfl)
  rw [lg_entry_eq]
  generalize (lg_sl ([.ref ql, .int x1]) ++ List.replicate (4 - (lg_sl ([.ref ql, .int x1])).length) Slot.unset).toArray = ls at hl ⊢
  have hl : lv_has ls 4 [(0, .ref ql), (1, .int x1)] := hl
  exact t_wl_X2_look_0 zc hK hM (lv_sub hl [0, 1] rfl) hw
end
section
-- wv_X1_look
abbrev rm_wv_X1_look : Room := { frames := 0, cells := 0, slots := 0, locals := 0 }
def q_wv_X1_look_0 (a_kinds : Nat → Int32) (a_firsts : Nat → Int32) (a_seconds : Nat → Int32) (x1 : Int32) (x2 : Int32) (post : Int32 → Prop) : Prop :=
  (x2.toInt < 0 ∨ 2 < x2.toInt → (post (-2 : Int32))) ∧ (x2 = (0 : Int32) → (vp_in x1 40 ∧ (post (a_kinds (Int32.toNatClampNeg x1))))) ∧ (x2 = (1 : Int32) → (vp_in x1 40 ∧ (post (a_firsts (Int32.toNatClampNeg x1))))) ∧ (x2 = (2 : Int32) → (vp_in x1 40 ∧ (post (a_seconds (Int32.toNatClampNeg x1)))))
set_option maxRecDepth 20000 in
theorem t_wv_X1_look_0 {p : Program} {l : Launch} {e : Env} {s : State} {m : MethodId} {args : Array Value} {below : List Frame} {meth : Method} {c : Code} {E : zE} {qv : Nat} {f_deeds : Int32} {a_kinds : Nat → Int32} {a_firsts : Nat → Int32} {a_seconds : Nat → Int32} {post : Int32 → Prop} {x1 : Int32} {x2 : Int32} {ls : Array Slot}
    (zc : zC p s m args meth c cX1_look 3 RX1 (some .int))
    (hK : zK E s)
    (hM : wvW E qv f_deeds a_kinds a_firsts a_seconds s.heap)
    (hl : lv_has ls 3 [(0, .ref qv), (1, .int x1), (2, .int x2)])
    (hw : q_wv_X1_look_0 a_kinds a_firsts a_seconds x1 x2 post) :
    W p l e rm_wv_X1_look s m args below meth c s.heap [] 0 0 (MQ below (vp_Si post) args s 0 0 (fun _ => False)) (F0 m 0 ls []) := by
  have hx := zc.1
  have hb := zc.2.1
  refine lv_iload_n hx hb dX1_look_0 rfl (lv_at hl 2 rfl) ?_
  by_cases hc : x2.toInt < 0 ∨ 2 < x2.toInt
  · have hw := hw.1 hc
    refine lv_tableOut (tgt := 49) hx hb dX1_look_1 hc (by decide) ?_
    refine lv_bipush (v := (-2 : Int32)) hx hb dX1_look_49 (by decide) ?_
    exact zret_i zc hw dX1_look_51
  have hin := zsw hc
  by_cases hc0 : x2 = (0 : Int32)
  · have hw := hw.2.1 hc0
    refine lv_tableIn (tgt := 28) hx hb dX1_look_1 (by rw [hc0]; decide) (by rw [hc0]; decide) (by rw [hc0]; rfl) (by decide) ?_
    refine lv_aload_n hx hb dX1_look_28 rfl (lv_at hl 0 rfl) ?_
    refine wvg_1_9_0 zc hK hM dX1_look_29 ?_
    refine lv_iload_n hx hb dX1_look_32 rfl (lv_at hl 1 rfl) ?_
    refine wvld_1 zc hK hM hw.1 dX1_look_33 ?_
    have hw := hw.2
    exact zret_i zc hw dX1_look_34
  by_cases hc1 : x2 = (1 : Int32)
  · have hw := hw.2.2.1 hc1
    refine lv_tableIn (tgt := 35) hx hb dX1_look_1 (by rw [hc1]; decide) (by rw [hc1]; decide) (by rw [hc1]; rfl) (by decide) ?_
    refine lv_aload_n hx hb dX1_look_35 rfl (lv_at hl 0 rfl) ?_
    refine wvg_1_15_0 zc hK hM dX1_look_36 ?_
    refine lv_iload_n hx hb dX1_look_39 rfl (lv_at hl 1 rfl) ?_
    refine wvld_2 zc hK hM hw.1 dX1_look_40 ?_
    have hw := hw.2
    exact zret_i zc hw dX1_look_41
  by_cases hc2 : x2 = (2 : Int32)
  · have hw := hw.2.2.2 hc2
    refine lv_tableIn (tgt := 42) hx hb dX1_look_1 (by rw [hc2]; decide) (by rw [hc2]; decide) (by rw [hc2]; rfl) (by decide) ?_
    refine lv_aload_n hx hb dX1_look_42 rfl (lv_at hl 0 rfl) ?_
    refine wvg_1_18_0 zc hK hM dX1_look_43 ?_
    refine lv_iload_n hx hb dX1_look_46 rfl (lv_at hl 1 rfl) ?_
    refine wvld_3 zc hK hM hw.1 dX1_look_47 ?_
    have hw := hw.2
    exact zret_i zc hw dX1_look_48
  exact absurd hin (by have h0 := zne hc0; have h1 := zne hc1; have h2 := zne hc2; simp at *; omega)
set_option maxRecDepth 20000 in
theorem c_wv_X1_look (l : Launch) {E : zE} {qv : Nat} {f_deeds : Int32} {a_kinds : Nat → Int32} {a_firsts : Nat → Int32} {a_seconds : Nat → Int32} {x1 : Int32} {x2 : Int32} {post : Int32 → Prop} (hw : q_wv_X1_look_0 a_kinds a_firsts a_seconds x1 x2 post) : Met l yX1_look (Cond.code yX1_look cX1_look 3 (some .int) :: zb) rm_wv_X1_look (va_Pc [.ref qv, .int x1, .int x2] (fun U => wvW E qv f_deeds a_kinds a_firsts a_seconds U.heap ∧ zK E U)) (vp_Si post) 0 0 (fun _ => False) := by
  refine Met.ofW (cc := cX1_look) (maxL := 3) (ret := (some .int)) (by decide) rfl ?_
  intro p e s m args below meth c s₁ B hml hv
  obtain ⟨rfl, hM, hK⟩ := hv
  have zc := zc_of B hml
  have hl := lv_entry ([.ref qv, .int x1, .int x2]) (n := 3) (Nat.le_of_ble_eq_true rfl)
  rw [lg_entry_eq]
  generalize (lg_sl ([.ref qv, .int x1, .int x2]) ++ List.replicate (3 - (lg_sl ([.ref qv, .int x1, .int x2])).length) Slot.unset).toArray = ls at hl ⊢
  have hl : lv_has ls 3 [(0, .ref qv), (1, .int x1), (2, .int x2)] := hl
  exact t_wv_X1_look_0 zc hK hM (lv_sub hl [0, 1, 2] rfl) hw
end
section
-- ws_X6_staysWithin
abbrev rm_ws_X6_staysWithin : Room := { frames := 0, cells := 0, slots := 0, locals := 0 }
def q_ws_X6_staysWithin_2 (f_facts : Int32) (a_huts : Nat → Int32) (x1 : Int32) (x2 : Int32) (post : Int32 → Prop) : Prop :=
  ∀ P2 : Int32 → Prop, (∀ (x2 : Int32), ((f_facts ≤ x2 → (post (1 : Int32))) ∧ (¬ f_facts ≤ x2 → (vp_in x2 10 ∧ (((a_huts (Int32.toNatClampNeg x2)) < x1 → (∀ v_1 : Int32, v_1 = x2 + (1 : Int32) → (P2 v_1))) ∧ (¬ (a_huts (Int32.toNatClampNeg x2)) < x1 → (post (0 : Int32))))))) → P2 x2) → P2 x2
def q_ws_X6_staysWithin_0 (f_facts : Int32) (a_huts : Nat → Int32) (x1 : Int32) (post : Int32 → Prop) : Prop :=
  q_ws_X6_staysWithin_2 f_facts a_huts x1 (0 : Int32) post
set_option maxRecDepth 20000 in
theorem t_ws_X6_staysWithin_2 {p : Program} {l : Launch} {e : Env} {s : State} {m : MethodId} {args : Array Value} {below : List Frame} {meth : Method} {c : Code} {E : zE} {qs : Nat} {f_facts : Int32} {a_heard : Nat → Int32} {a_huts : Nat → Int32} {a_minutes : Nat → Int32} {post : Int32 → Prop} {x1 : Int32} {x2 : Int32} {ls : Array Slot}
    (zc : zC p s m args meth c cX6_staysWithin 3 RX6 (some .boolean))
    (hK : zK E s)
    (hM : wsW E qs f_facts a_heard a_huts a_minutes s.heap)
    (hl : lv_has ls 3 [(0, .ref qs), (1, .int x1), (2, .int x2)])
    (hw : q_ws_X6_staysWithin_2 f_facts a_huts x1 x2 post) :
    W p l e rm_ws_X6_staysWithin s m args below meth c s.heap [] 0 0 (MQ below (vp_Si post) args s 0 0 (fun _ => False)) (F0 m 2 ls []) := by
  have hx := zc.1
  have hb := zc.2.1
  refine hw (fun x2 => ∀ (ls : Array Slot), lv_has ls 3 [(0, .ref qs), (1, .int x1), (2, .int x2)] → W p l e rm_ws_X6_staysWithin s m args below meth c s.heap [] 0 0 (MQ below (vp_Si post) args s 0 0 (fun _ => False)) (F0 m 2 ls [])) ?_ _ hl
  intro x2 hw ls hl
  refine lv_iload_n hx hb dX6_staysWithin_2 rfl (lv_at hl 2 rfl) ?_
  refine lv_aload_n hx hb dX6_staysWithin_3 rfl (lv_at hl 0 rfl) ?_
  refine wsg_6_21_0 zc hK hM dX6_staysWithin_4 ?_
  refine lv_icmp_ge (tgt := 28) hx hb dX6_staysWithin_7 (by decide) (fun hc => ?_) (fun hc => ?_)
  · have hw := hw.1 hc
    refine lv_iconst (v := (1 : Int32)) hx hb dX6_staysWithin_28 (by decide) ?_
    exact zret_z zc rfl hw dX6_staysWithin_29
  · have hw := hw.2 hc
    refine lv_aload_n hx hb dX6_staysWithin_10 rfl (lv_at hl 0 rfl) ?_
    refine wsg_6_15_0 zc hK hM dX6_staysWithin_11 ?_
    refine lv_iload_n hx hb dX6_staysWithin_14 rfl (lv_at hl 2 rfl) ?_
    refine wsld_2 zc hK hM hw.1 dX6_staysWithin_15 ?_
    have hw := hw.2
    refine lv_iload_n hx hb dX6_staysWithin_16 rfl (lv_at hl 1 rfl) ?_
    refine lv_icmp_lt (tgt := 22) hx hb dX6_staysWithin_17 (by decide) (fun hc => ?_) (fun hc => ?_)
    · have hw := hw.1 hc
      obtain ⟨v_1, ev_1⟩ : ∃ y : Int32, y = x2 + (1 : Int32) := ⟨_, rfl⟩
      have hw := hw v_1 ev_1
      refine lv_iinc (v := v_1) (k := 2) (lv' := [(2, .int v_1), (0, .ref qs), (1, .int x1)]) hx hb dX6_staysWithin_22 hl rfl (by rw [ev_1]; rfl) (by decide) rfl (fun ls hl => ?_)
      refine lv_goto (tgt := 2) hx hb dX6_staysWithin_25 (by decide) ?_
      exact hw _ (lv_sub hl [1, 2, 0] rfl)
    · have hw := hw.2 hc
      refine lv_iconst (v := (0 : Int32)) hx hb dX6_staysWithin_20 (by decide) ?_
      exact zret_z zc rfl hw dX6_staysWithin_21
set_option maxRecDepth 20000 in
theorem t_ws_X6_staysWithin_0 {p : Program} {l : Launch} {e : Env} {s : State} {m : MethodId} {args : Array Value} {below : List Frame} {meth : Method} {c : Code} {E : zE} {qs : Nat} {f_facts : Int32} {a_heard : Nat → Int32} {a_huts : Nat → Int32} {a_minutes : Nat → Int32} {post : Int32 → Prop} {x1 : Int32} {ls : Array Slot}
    (zc : zC p s m args meth c cX6_staysWithin 3 RX6 (some .boolean))
    (hK : zK E s)
    (hM : wsW E qs f_facts a_heard a_huts a_minutes s.heap)
    (hl : lv_has ls 3 [(0, .ref qs), (1, .int x1)])
    (hw : q_ws_X6_staysWithin_0 f_facts a_huts x1 post) :
    W p l e rm_ws_X6_staysWithin s m args below meth c s.heap [] 0 0 (MQ below (vp_Si post) args s 0 0 (fun _ => False)) (F0 m 0 ls []) := by
  have hx := zc.1
  have hb := zc.2.1
  refine lv_iconst (v := (0 : Int32)) hx hb dX6_staysWithin_0 (by decide) ?_
  refine lv_istore_n (lv' := [(2, .int (0 : Int32)), (0, .ref qs), (1, .int x1)]) hx hb dX6_staysWithin_1 rfl hl (by decide) rfl (fun ls hl => ?_)
  exact t_ws_X6_staysWithin_2 zc hK hM  (lv_sub hl [1, 2, 0] rfl) hw
set_option maxRecDepth 20000 in
theorem c_ws_X6_staysWithin (l : Launch) {E : zE} {qs : Nat} {f_facts : Int32} {a_heard : Nat → Int32} {a_huts : Nat → Int32} {a_minutes : Nat → Int32} {x1 : Int32} {post : Int32 → Prop} (hw : q_ws_X6_staysWithin_0 f_facts a_huts x1 post) : Met l yX6_staysWithin (Cond.code yX6_staysWithin cX6_staysWithin 3 (some .boolean) :: zb) rm_ws_X6_staysWithin (va_Pc [.ref qs, .int x1] (fun U => wsW E qs f_facts a_heard a_huts a_minutes U.heap ∧ zK E U)) (vp_Si post) 0 0 (fun _ => False) := by
  refine Met.ofW (cc := cX6_staysWithin) (maxL := 3) (ret := (some .boolean)) (by decide) rfl ?_
  intro p e s m args below meth c s₁ B hml hv
  obtain ⟨rfl, hM, hK⟩ := hv
  have zc := zc_of B hml
  have hl := lv_entry ([.ref qs, .int x1]) (n := 3) (Nat.le_of_ble_eq_true rfl)
  rw [lg_entry_eq]
  generalize (lg_sl ([.ref qs, .int x1]) ++ List.replicate (3 - (lg_sl ([.ref qs, .int x1])).length) Slot.unset).toArray = ls at hl ⊢
  have hl : lv_has ls 3 [(0, .ref qs), (1, .int x1)] := hl
  exact t_ws_X6_staysWithin_0 zc hK hM (lv_sub hl [0, 1] rfl) hw
-- ws_X6_look
abbrev rm_ws_X6_look : Room := { frames := 0, cells := 0, slots := 0, locals := 0 }
def q_ws_X6_look_0 (a_heard : Nat → Int32) (a_huts : Nat → Int32) (a_minutes : Nat → Int32) (x1 : Int32) (x2 : Int32) (post : Int32 → Prop) : Prop :=
  (x2.toInt < 0 ∨ 2 < x2.toInt → (post (-2 : Int32))) ∧ (x2 = (0 : Int32) → (vp_in x1 10 ∧ (post (a_heard (Int32.toNatClampNeg x1))))) ∧ (x2 = (1 : Int32) → (vp_in x1 10 ∧ (post (a_huts (Int32.toNatClampNeg x1))))) ∧ (x2 = (2 : Int32) → (vp_in x1 10 ∧ (post (a_minutes (Int32.toNatClampNeg x1)))))
set_option maxRecDepth 20000 in
theorem t_ws_X6_look_0 {p : Program} {l : Launch} {e : Env} {s : State} {m : MethodId} {args : Array Value} {below : List Frame} {meth : Method} {c : Code} {E : zE} {qs : Nat} {f_facts : Int32} {a_heard : Nat → Int32} {a_huts : Nat → Int32} {a_minutes : Nat → Int32} {post : Int32 → Prop} {x1 : Int32} {x2 : Int32} {ls : Array Slot}
    (zc : zC p s m args meth c cX6_look 3 RX6 (some .int))
    (hK : zK E s)
    (hM : wsW E qs f_facts a_heard a_huts a_minutes s.heap)
    (hl : lv_has ls 3 [(0, .ref qs), (1, .int x1), (2, .int x2)])
    (hw : q_ws_X6_look_0 a_heard a_huts a_minutes x1 x2 post) :
    W p l e rm_ws_X6_look s m args below meth c s.heap [] 0 0 (MQ below (vp_Si post) args s 0 0 (fun _ => False)) (F0 m 0 ls []) := by
  have hx := zc.1
  have hb := zc.2.1
  refine lv_iload_n hx hb dX6_look_0 rfl (lv_at hl 2 rfl) ?_
  by_cases hc : x2.toInt < 0 ∨ 2 < x2.toInt
  · have hw := hw.1 hc
    refine lv_tableOut (tgt := 49) hx hb dX6_look_1 hc (by decide) ?_
    refine lv_bipush (v := (-2 : Int32)) hx hb dX6_look_49 (by decide) ?_
    exact zret_i zc hw dX6_look_51
  have hin := zsw hc
  by_cases hc0 : x2 = (0 : Int32)
  · have hw := hw.2.1 hc0
    refine lv_tableIn (tgt := 28) hx hb dX6_look_1 (by rw [hc0]; decide) (by rw [hc0]; decide) (by rw [hc0]; rfl) (by decide) ?_
    refine lv_aload_n hx hb dX6_look_28 rfl (lv_at hl 0 rfl) ?_
    refine wsg_6_9_0 zc hK hM dX6_look_29 ?_
    refine lv_iload_n hx hb dX6_look_32 rfl (lv_at hl 1 rfl) ?_
    refine wsld_1 zc hK hM hw.1 dX6_look_33 ?_
    have hw := hw.2
    exact zret_i zc hw dX6_look_34
  by_cases hc1 : x2 = (1 : Int32)
  · have hw := hw.2.2.1 hc1
    refine lv_tableIn (tgt := 35) hx hb dX6_look_1 (by rw [hc1]; decide) (by rw [hc1]; decide) (by rw [hc1]; rfl) (by decide) ?_
    refine lv_aload_n hx hb dX6_look_35 rfl (lv_at hl 0 rfl) ?_
    refine wsg_6_15_0 zc hK hM dX6_look_36 ?_
    refine lv_iload_n hx hb dX6_look_39 rfl (lv_at hl 1 rfl) ?_
    refine wsld_2 zc hK hM hw.1 dX6_look_40 ?_
    have hw := hw.2
    exact zret_i zc hw dX6_look_41
  by_cases hc2 : x2 = (2 : Int32)
  · have hw := hw.2.2.2 hc2
    refine lv_tableIn (tgt := 42) hx hb dX6_look_1 (by rw [hc2]; decide) (by rw [hc2]; decide) (by rw [hc2]; rfl) (by decide) ?_
    refine lv_aload_n hx hb dX6_look_42 rfl (lv_at hl 0 rfl) ?_
    refine wsg_6_18_0 zc hK hM dX6_look_43 ?_
    refine lv_iload_n hx hb dX6_look_46 rfl (lv_at hl 1 rfl) ?_
    refine wsld_3 zc hK hM hw.1 dX6_look_47 ?_
    have hw := hw.2
    exact zret_i zc hw dX6_look_48
  exact absurd hin (by have h0 := zne hc0; have h1 := zne hc1; have h2 := zne hc2; simp at *; omega)
set_option maxRecDepth 20000 in
theorem c_ws_X6_look (l : Launch) {E : zE} {qs : Nat} {f_facts : Int32} {a_heard : Nat → Int32} {a_huts : Nat → Int32} {a_minutes : Nat → Int32} {x1 : Int32} {x2 : Int32} {post : Int32 → Prop} (hw : q_ws_X6_look_0 a_heard a_huts a_minutes x1 x2 post) : Met l yX6_look (Cond.code yX6_look cX6_look 3 (some .int) :: zb) rm_ws_X6_look (va_Pc [.ref qs, .int x1, .int x2] (fun U => wsW E qs f_facts a_heard a_huts a_minutes U.heap ∧ zK E U)) (vp_Si post) 0 0 (fun _ => False) := by
  refine Met.ofW (cc := cX6_look) (maxL := 3) (ret := (some .int)) (by decide) rfl ?_
  intro p e s m args below meth c s₁ B hml hv
  obtain ⟨rfl, hM, hK⟩ := hv
  have zc := zc_of B hml
  have hl := lv_entry ([.ref qs, .int x1, .int x2]) (n := 3) (Nat.le_of_ble_eq_true rfl)
  rw [lg_entry_eq]
  generalize (lg_sl ([.ref qs, .int x1, .int x2]) ++ List.replicate (3 - (lg_sl ([.ref qs, .int x1, .int x2])).length) Slot.unset).toArray = ls at hl ⊢
  have hl : lv_has ls 3 [(0, .ref qs), (1, .int x1), (2, .int x2)] := hl
  exact t_ws_X6_look_0 zc hK hM (lv_sub hl [0, 1, 2] rfl) hw
end
section
-- wc_X0_longestFall
abbrev rm_wc_X0_longestFall : Room := { frames := 1, cells := 0, slots := 0, locals := 40 }
def q_wc_X0_longestFall_42 (P6 : Int32 → Int32 → Int32 → Prop) (f_voices : Int32) (a_heights : Nat → Int32) (x1 : Int32) (x3 : Int32) (y0 : Int32) (post : Int32 → Prop) : Prop :=
  ∀ v_1 : Int32, v_1 = (if x1 < y0 then y0 else x1) → (∀ v_2 : Int32, v_2 = x3 + (1 : Int32) → (P6 v_1 y0 v_2))
def q_wc_X0_longestFall_41 (P6 : Int32 → Int32 → Int32 → Prop) (f_voices : Int32) (a_heights : Nat → Int32) (x1 : Int32) (x3 : Int32) (post : Int32 → Prop) : Prop :=
  q_wc_X0_longestFall_42 P6 f_voices a_heights x1 x3 (1 : Int32) post
def q_wc_X0_longestFall_6 (f_voices : Int32) (a_heights : Nat → Int32) (x1 : Int32) (x2 : Int32) (x3 : Int32) (post : Int32 → Prop) : Prop :=
  ∀ P6 : Int32 → Int32 → Int32 → Prop, (∀ (x1 : Int32) (x2 : Int32) (x3 : Int32), ((f_voices ≤ x3 → (post x1)) ∧ (¬ f_voices ≤ x3 → ((x3 ≤ 0 → (q_wc_X0_longestFall_41 P6 f_voices a_heights x1 x3 post)) ∧ (¬ x3 ≤ 0 → (vp_in x3 9 ∧ (vp_in (x3 - (1 : Int32)) 9 ∧ (((a_heights (Int32.toNatClampNeg (x3 - (1 : Int32)))) ≤ (a_heights (Int32.toNatClampNeg x3)) → (q_wc_X0_longestFall_41 P6 f_voices a_heights x1 x3 post)) ∧ (¬ (a_heights (Int32.toNatClampNeg (x3 - (1 : Int32)))) ≤ (a_heights (Int32.toNatClampNeg x3)) → (q_wc_X0_longestFall_42 P6 f_voices a_heights x1 x3 (x2 + (1 : Int32)) post))))))))) → P6 x1 x2 x3) → P6 x1 x2 x3
def q_wc_X0_longestFall_0 (f_voices : Int32) (a_heights : Nat → Int32) (post : Int32 → Prop) : Prop :=
  q_wc_X0_longestFall_6 f_voices a_heights (0 : Int32) (0 : Int32) (0 : Int32) post
set_option maxRecDepth 20000 in
theorem t_wc_X0_longestFall_42 {p : Program} {l : Launch} {e : Env} {s : State} {m : MethodId} {args : Array Value} {below : List Frame} {meth : Method} {c : Code} {E : zE} {qc : Nat} {f_voices : Int32} {f_step : Int32} {a_parts : Nat → Int32} {a_heights : Nat → Int32} {P6 : Int32 → Int32 → Int32 → Prop} {post : Int32 → Prop} {x1 : Int32} {x3 : Int32} {y0 : Int32} {ls : Array Slot}
    (zc : zC p s m args meth c cX0_longestFall 4 RX0 (some .int))
    (hK : zK E s)
    (hM : wcW E qc f_voices f_step a_parts a_heights s.heap)
    (hP6 : ∀ (x1 : Int32) (x2 : Int32) (x3 : Int32) (ls : Array Slot), P6 x1 x2 x3 → lv_has ls 4 [(0, .ref qc), (1, .int x1), (2, .int x2), (3, .int x3)] → W p l e rm_wc_X0_longestFall s m args below meth c s.heap [] 0 0 (MQ below (vp_Si post) args s 0 0 (fun _ => False)) (F0 m 6 ls []))
    (hl : lv_has ls 4 [(0, .ref qc), (1, .int x1), (3, .int x3)])
    (hw : q_wc_X0_longestFall_42 P6 f_voices a_heights x1 x3 y0 post) :
    W p l e rm_wc_X0_longestFall s m args below meth c s.heap [] 0 0 (MQ below (vp_Si post) args s 0 0 (fun _ => False)) (F0 m 42 ls [.int y0]) := by
  have hx := zc.1
  have hb := zc.2.1
  refine lv_istore_n (lv' := [(2, .int y0), (0, .ref qc), (1, .int x1), (3, .int x3)]) hx hb dX0_longestFall_42 rfl hl (by decide) rfl (fun ls hl => ?_)
  refine lv_iload_n hx hb dX0_longestFall_43 rfl (lv_at hl 2 rfl) ?_
  refine lv_iload_n hx hb dX0_longestFall_44 rfl (lv_at hl 0 rfl) ?_
  refine va_mmax hx hb (zc.2.2.1.trans hl.1.symm) zc.2.2.2.1 (zc.2.2.2.2.1 _ km_0_31) (zc.2.2.2.2.1 _ k_mmaxs) (zc.2.2.2.2.1 _ k_mini) (zc.2.2.2.2.1 _ k_mmaxc) (Nat.le_of_ble_eq_true rfl) (Nat.le_of_ble_eq_true rfl) (Nat.zero_le _) (Nat.zero_le _) dX0_longestFall_45 ?_
  refine lv_topi (fun v_1 ev_1 => ?_)
  have hw := hw v_1 ev_1
  refine lv_istore_n (lv' := [(1, .int v_1), (2, .int y0), (0, .ref qc), (3, .int x3)]) hx hb dX0_longestFall_48 rfl hl (by decide) rfl (fun ls hl => ?_)
  obtain ⟨v_2, ev_2⟩ : ∃ y : Int32, y = x3 + (1 : Int32) := ⟨_, rfl⟩
  have hw := hw v_2 ev_2
  refine lv_iinc (v := v_2) (k := 3) (lv' := [(3, .int v_2), (1, .int v_1), (2, .int y0), (0, .ref qc)]) hx hb dX0_longestFall_49 hl rfl (by rw [ev_2]; rfl) (by decide) rfl (fun ls hl => ?_)
  refine lv_goto (tgt := 6) hx hb dX0_longestFall_52 (by decide) ?_
  exact hP6 _ _ _ _ hw (lv_sub hl [3, 1, 2, 0] rfl)
set_option maxRecDepth 20000 in
theorem t_wc_X0_longestFall_41 {p : Program} {l : Launch} {e : Env} {s : State} {m : MethodId} {args : Array Value} {below : List Frame} {meth : Method} {c : Code} {E : zE} {qc : Nat} {f_voices : Int32} {f_step : Int32} {a_parts : Nat → Int32} {a_heights : Nat → Int32} {P6 : Int32 → Int32 → Int32 → Prop} {post : Int32 → Prop} {x1 : Int32} {x3 : Int32} {ls : Array Slot}
    (zc : zC p s m args meth c cX0_longestFall 4 RX0 (some .int))
    (hK : zK E s)
    (hM : wcW E qc f_voices f_step a_parts a_heights s.heap)
    (hP6 : ∀ (x1 : Int32) (x2 : Int32) (x3 : Int32) (ls : Array Slot), P6 x1 x2 x3 → lv_has ls 4 [(0, .ref qc), (1, .int x1), (2, .int x2), (3, .int x3)] → W p l e rm_wc_X0_longestFall s m args below meth c s.heap [] 0 0 (MQ below (vp_Si post) args s 0 0 (fun _ => False)) (F0 m 6 ls []))
    (hl : lv_has ls 4 [(0, .ref qc), (1, .int x1), (3, .int x3)])
    (hw : q_wc_X0_longestFall_41 P6 f_voices a_heights x1 x3 post) :
    W p l e rm_wc_X0_longestFall s m args below meth c s.heap [] 0 0 (MQ below (vp_Si post) args s 0 0 (fun _ => False)) (F0 m 41 ls []) := by
  have hx := zc.1
  have hb := zc.2.1
  refine lv_iconst (v := (1 : Int32)) hx hb dX0_longestFall_41 (by decide) ?_
  exact t_wc_X0_longestFall_42 zc hK hM hP6 (lv_sub hl [0, 1, 2] rfl) hw
set_option maxRecDepth 20000 in
theorem t_wc_X0_longestFall_6 {p : Program} {l : Launch} {e : Env} {s : State} {m : MethodId} {args : Array Value} {below : List Frame} {meth : Method} {c : Code} {E : zE} {qc : Nat} {f_voices : Int32} {f_step : Int32} {a_parts : Nat → Int32} {a_heights : Nat → Int32} {post : Int32 → Prop} {x1 : Int32} {x2 : Int32} {x3 : Int32} {ls : Array Slot}
    (zc : zC p s m args meth c cX0_longestFall 4 RX0 (some .int))
    (hK : zK E s)
    (hM : wcW E qc f_voices f_step a_parts a_heights s.heap)
    (hl : lv_has ls 4 [(0, .ref qc), (1, .int x1), (2, .int x2), (3, .int x3)])
    (hw : q_wc_X0_longestFall_6 f_voices a_heights x1 x2 x3 post) :
    W p l e rm_wc_X0_longestFall s m args below meth c s.heap [] 0 0 (MQ below (vp_Si post) args s 0 0 (fun _ => False)) (F0 m 6 ls []) := by
  have hx := zc.1
  have hb := zc.2.1
  refine hw (fun x1 x2 x3 => ∀ (ls : Array Slot), lv_has ls 4 [(0, .ref qc), (1, .int x1), (2, .int x2), (3, .int x3)] → W p l e rm_wc_X0_longestFall s m args below meth c s.heap [] 0 0 (MQ below (vp_Si post) args s 0 0 (fun _ => False)) (F0 m 6 ls [])) ?_ _ hl
  intro x1 x2 x3 hw ls hl
  refine lv_iload_n hx hb dX0_longestFall_6 rfl (lv_at hl 3 rfl) ?_
  refine lv_aload_n hx hb dX0_longestFall_7 rfl (lv_at hl 0 rfl) ?_
  refine wcg_0_18_0 zc hK hM dX0_longestFall_8 ?_
  refine lv_icmp_ge (tgt := 55) hx hb dX0_longestFall_11 (by decide) (fun hc => ?_) (fun hc => ?_)
  · have hw := hw.1 hc
    refine lv_iload_n hx hb dX0_longestFall_55 rfl (lv_at hl 1 rfl) ?_
    exact zret_i zc hw dX0_longestFall_56
  · have hw := hw.2 hc
    refine lv_iload_n hx hb dX0_longestFall_14 rfl (lv_at hl 3 rfl) ?_
    refine lv_if_le (tgt := 41) hx hb dX0_longestFall_15 (by decide) (fun hc => ?_) (fun hc => ?_)
    · have hw := hw.1 hc
      exact t_wc_X0_longestFall_41 zc hK hM (fun _ _ _ ls h hl => h ls hl) (lv_sub hl [0, 1, 3] rfl) hw
    · have hw := hw.2 hc
      refine lv_aload_n hx hb dX0_longestFall_18 rfl (lv_at hl 0 rfl) ?_
      refine wcg_0_15_0 zc hK hM dX0_longestFall_19 ?_
      refine lv_iload_n hx hb dX0_longestFall_22 rfl (lv_at hl 3 rfl) ?_
      refine wcld_2 zc hK hM hw.1 dX0_longestFall_23 ?_
      have hw := hw.2
      refine lv_aload_n hx hb dX0_longestFall_24 rfl (lv_at hl 0 rfl) ?_
      refine wcg_0_15_0 zc hK hM dX0_longestFall_25 ?_
      refine lv_iload_n hx hb dX0_longestFall_28 rfl (lv_at hl 3 rfl) ?_
      refine lv_iconst (v := (1 : Int32)) hx hb dX0_longestFall_29 (by decide) ?_
      refine lv_isub hx hb dX0_longestFall_30 ?_
      refine wcld_2 zc hK hM hw.1 dX0_longestFall_31 ?_
      have hw := hw.2
      refine lv_icmp_ge (tgt := 41) hx hb dX0_longestFall_32 (by decide) (fun hc => ?_) (fun hc => ?_)
      · have hw := hw.1 hc
        exact t_wc_X0_longestFall_41 zc hK hM (fun _ _ _ ls h hl => h ls hl) (lv_sub hl [0, 1, 3] rfl) hw
      · have hw := hw.2 hc
        refine lv_iload_n hx hb dX0_longestFall_35 rfl (lv_at hl 2 rfl) ?_
        refine lv_iconst (v := (1 : Int32)) hx hb dX0_longestFall_36 (by decide) ?_
        refine lv_iadd hx hb dX0_longestFall_37 ?_
        refine lv_goto (tgt := 42) hx hb dX0_longestFall_38 (by decide) ?_
        exact t_wc_X0_longestFall_42 zc hK hM (fun _ _ _ ls h hl => h ls hl) (lv_sub hl [0, 1, 3] rfl) hw
set_option maxRecDepth 20000 in
theorem t_wc_X0_longestFall_0 {p : Program} {l : Launch} {e : Env} {s : State} {m : MethodId} {args : Array Value} {below : List Frame} {meth : Method} {c : Code} {E : zE} {qc : Nat} {f_voices : Int32} {f_step : Int32} {a_parts : Nat → Int32} {a_heights : Nat → Int32} {post : Int32 → Prop} {ls : Array Slot}
    (zc : zC p s m args meth c cX0_longestFall 4 RX0 (some .int))
    (hK : zK E s)
    (hM : wcW E qc f_voices f_step a_parts a_heights s.heap)
    (hl : lv_has ls 4 [(0, .ref qc)])
    (hw : q_wc_X0_longestFall_0 f_voices a_heights post) :
    W p l e rm_wc_X0_longestFall s m args below meth c s.heap [] 0 0 (MQ below (vp_Si post) args s 0 0 (fun _ => False)) (F0 m 0 ls []) := by
  have hx := zc.1
  have hb := zc.2.1
  refine lv_iconst (v := (0 : Int32)) hx hb dX0_longestFall_0 (by decide) ?_
  refine lv_istore_n (lv' := [(1, .int (0 : Int32)), (0, .ref qc)]) hx hb dX0_longestFall_1 rfl hl (by decide) rfl (fun ls hl => ?_)
  refine lv_iconst (v := (0 : Int32)) hx hb dX0_longestFall_2 (by decide) ?_
  refine lv_istore_n (lv' := [(2, .int (0 : Int32)), (1, .int (0 : Int32)), (0, .ref qc)]) hx hb dX0_longestFall_3 rfl hl (by decide) rfl (fun ls hl => ?_)
  refine lv_iconst (v := (0 : Int32)) hx hb dX0_longestFall_4 (by decide) ?_
  refine lv_istore_n (lv' := [(3, .int (0 : Int32)), (2, .int (0 : Int32)), (1, .int (0 : Int32)), (0, .ref qc)]) hx hb dX0_longestFall_5 rfl hl (by decide) rfl (fun ls hl => ?_)
  exact t_wc_X0_longestFall_6 zc hK hM  (lv_sub hl [3, 2, 1, 0] rfl) hw
set_option maxRecDepth 20000 in
theorem c_wc_X0_longestFall (l : Launch) {E : zE} {qc : Nat} {f_voices : Int32} {f_step : Int32} {a_parts : Nat → Int32} {a_heights : Nat → Int32} {post : Int32 → Prop} (hw : q_wc_X0_longestFall_0 f_voices a_heights post) : Met l yX0_longestFall (Cond.code yX0_longestFall cX0_longestFall 4 (some .int) :: zb) rm_wc_X0_longestFall (va_Pc [.ref qc] (fun U => wcW E qc f_voices f_step a_parts a_heights U.heap ∧ zK E U)) (vp_Si post) 0 0 (fun _ => False) := by
  refine Met.ofW (cc := cX0_longestFall) (maxL := 4) (ret := (some .int)) (by decide) rfl ?_
  intro p e s m args below meth c s₁ B hml hv
  obtain ⟨rfl, hM, hK⟩ := hv
  have zc := zc_of B hml
  have hl := lv_entry ([.ref qc]) (n := 4) (Nat.le_of_ble_eq_true rfl)
  rw [lg_entry_eq]
  generalize (lg_sl ([.ref qc]) ++ List.replicate (4 - (lg_sl ([.ref qc])).length) Slot.unset).toArray = ls at hl ⊢
  have hl : lv_has ls 4 [(0, .ref qc)] := hl
  exact t_wc_X0_longestFall_0 zc hK hM (lv_sub hl [0] rfl) hw
-- wc_X0_look
abbrev rm_wc_X0_look : Room := { frames := 2, cells := 0, slots := 0, locals := 63 }
def q_wc_X0_look_56 (f_voices : Int32) (f_step : Int32) (a_parts : Nat → Int32) (a_heights : Nat → Int32) (x1 : Int32) (post : Int32 → Prop) : Prop :=
  (x1 < (20 : Int32) → (post (-1 : Int32))) ∧ (¬ x1 < (20 : Int32) → ((((20 : Int32) + f_voices) ≤ x1 → (post (-1 : Int32))) ∧ (¬ ((20 : Int32) + f_voices) ≤ x1 → (vp_in (x1 - (20 : Int32)) 9 ∧ (post (a_heights (Int32.toNatClampNeg (x1 - (20 : Int32)))))))))
def q_wc_X0_look_0 (f_voices : Int32) (f_step : Int32) (a_parts : Nat → Int32) (a_heights : Nat → Int32) (x1 : Int32) (post : Int32 → Prop) : Prop :=
  (¬ x1 = 0 → ((¬ x1 = (1 : Int32) → ((¬ x1 = (3 : Int32) → ((x1 < (10 : Int32) → (q_wc_X0_look_56 f_voices f_step a_parts a_heights x1 post)) ∧ (¬ x1 < (10 : Int32) → ((((10 : Int32) + f_voices) ≤ x1 → (q_wc_X0_look_56 f_voices f_step a_parts a_heights x1 post)) ∧ (¬ ((10 : Int32) + f_voices) ≤ x1 → (vp_in (x1 - (10 : Int32)) 9 ∧ (post (a_parts (Int32.toNatClampNeg (x1 - (10 : Int32))))))))))) ∧ (x1 = (3 : Int32) → (q_wc_X0_longestFall_0 f_voices a_heights (fun r_1 => post r_1))))) ∧ (x1 = (1 : Int32) → (post f_step)))) ∧ (x1 = 0 → (post f_voices))
set_option maxRecDepth 20000 in
theorem t_wc_X0_look_56 {p : Program} {l : Launch} {e : Env} {s : State} {m : MethodId} {args : Array Value} {below : List Frame} {meth : Method} {c : Code} {E : zE} {qc : Nat} {f_voices : Int32} {f_step : Int32} {a_parts : Nat → Int32} {a_heights : Nat → Int32} {post : Int32 → Prop} {x1 : Int32} {ls : Array Slot}
    (zc : zC p s m args meth c cX0_look 2 RX0 (some .int))
    (hK : zK E s)
    (hM : wcW E qc f_voices f_step a_parts a_heights s.heap)
    (hl : lv_has ls 2 [(0, .ref qc), (1, .int x1)])
    (hw : q_wc_X0_look_56 f_voices f_step a_parts a_heights x1 post) :
    W p l e rm_wc_X0_look s m args below meth c s.heap [] 0 0 (MQ below (vp_Si post) args s 0 0 (fun _ => False)) (F0 m 56 ls []) := by
  have hx := zc.1
  have hb := zc.2.1
  refine lv_iload_n hx hb dX0_look_56 rfl (lv_at hl 1 rfl) ?_
  refine lv_bipush (v := (20 : Int32)) hx hb dX0_look_57 (by decide) ?_
  refine lv_icmp_lt (tgt := 85) hx hb dX0_look_59 (by decide) (fun hc => ?_) (fun hc => ?_)
  · have hw := hw.1 hc
    refine lv_iconst (v := (-1 : Int32)) hx hb dX0_look_85 (by decide) ?_
    exact zret_i zc hw dX0_look_86
  · have hw := hw.2 hc
    refine lv_iload_n hx hb dX0_look_62 rfl (lv_at hl 1 rfl) ?_
    refine lv_bipush (v := (20 : Int32)) hx hb dX0_look_63 (by decide) ?_
    refine lv_aload_n hx hb dX0_look_65 rfl (lv_at hl 0 rfl) ?_
    refine wcg_0_18_0 zc hK hM dX0_look_66 ?_
    refine lv_iadd hx hb dX0_look_69 ?_
    refine lv_icmp_ge (tgt := 85) hx hb dX0_look_70 (by decide) (fun hc => ?_) (fun hc => ?_)
    · have hw := hw.1 hc
      refine lv_iconst (v := (-1 : Int32)) hx hb dX0_look_85 (by decide) ?_
      exact zret_i zc hw dX0_look_86
    · have hw := hw.2 hc
      refine lv_aload_n hx hb dX0_look_73 rfl (lv_at hl 0 rfl) ?_
      refine wcg_0_15_0 zc hK hM dX0_look_74 ?_
      refine lv_iload_n hx hb dX0_look_77 rfl (lv_at hl 1 rfl) ?_
      refine lv_bipush (v := (20 : Int32)) hx hb dX0_look_78 (by decide) ?_
      refine lv_isub hx hb dX0_look_80 ?_
      refine wcld_2 zc hK hM hw.1 dX0_look_81 ?_
      have hw := hw.2
      refine lv_goto (tgt := 86) hx hb dX0_look_82 (by decide) ?_
      exact zret_i zc hw dX0_look_86
set_option maxRecDepth 20000 in
theorem t_wc_X0_look_0 {p : Program} {l : Launch} {e : Env} {s : State} {m : MethodId} {args : Array Value} {below : List Frame} {meth : Method} {c : Code} {E : zE} {qc : Nat} {f_voices : Int32} {f_step : Int32} {a_parts : Nat → Int32} {a_heights : Nat → Int32} {post : Int32 → Prop} {x1 : Int32} {ls : Array Slot}
    (zc : zC p s m args meth c cX0_look 2 RX0 (some .int))
    (hK : zK E s)
    (hM : wcW E qc f_voices f_step a_parts a_heights s.heap)
    (hl : lv_has ls 2 [(0, .ref qc), (1, .int x1)])
    (hw : q_wc_X0_look_0 f_voices f_step a_parts a_heights x1 post) :
    W p l e rm_wc_X0_look s m args below meth c s.heap [] 0 0 (MQ below (vp_Si post) args s 0 0 (fun _ => False)) (F0 m 0 ls []) := by
  have hx := zc.1
  have hb := zc.2.1
  refine lv_iload_n hx hb dX0_look_0 rfl (lv_at hl 1 rfl) ?_
  refine lv_if_ne (tgt := 9) hx hb dX0_look_1 (by decide) (fun hc => ?_) (fun hc => ?_)
  · have hw := hw.1 hc
    refine lv_iload_n hx hb dX0_look_9 rfl (lv_at hl 1 rfl) ?_
    refine lv_iconst (v := (1 : Int32)) hx hb dX0_look_10 (by decide) ?_
    refine lv_icmp_ne (tgt := 19) hx hb dX0_look_11 (by decide) (fun hc => ?_) (fun hc => ?_)
    · have hw := hw.1 hc
      refine lv_iload_n hx hb dX0_look_19 rfl (lv_at hl 1 rfl) ?_
      refine lv_iconst (v := (3 : Int32)) hx hb dX0_look_20 (by decide) ?_
      refine lv_icmp_ne (tgt := 29) hx hb dX0_look_21 (by decide) (fun hc => ?_) (fun hc => ?_)
      · have hw := hw.1 hc
        refine lv_iload_n hx hb dX0_look_29 rfl (lv_at hl 1 rfl) ?_
        refine lv_bipush (v := (10 : Int32)) hx hb dX0_look_30 (by decide) ?_
        refine lv_icmp_lt (tgt := 56) hx hb dX0_look_32 (by decide) (fun hc => ?_) (fun hc => ?_)
        · have hw := hw.1 hc
          exact t_wc_X0_look_56 zc hK hM  (lv_sub hl [0, 1] rfl) hw
        · have hw := hw.2 hc
          refine lv_iload_n hx hb dX0_look_35 rfl (lv_at hl 1 rfl) ?_
          refine lv_bipush (v := (10 : Int32)) hx hb dX0_look_36 (by decide) ?_
          refine lv_aload_n hx hb dX0_look_38 rfl (lv_at hl 0 rfl) ?_
          refine wcg_0_18_0 zc hK hM dX0_look_39 ?_
          refine lv_iadd hx hb dX0_look_42 ?_
          refine lv_icmp_ge (tgt := 56) hx hb dX0_look_43 (by decide) (fun hc => ?_) (fun hc => ?_)
          · have hw := hw.1 hc
            exact t_wc_X0_look_56 zc hK hM  (lv_sub hl [0, 1] rfl) hw
          · have hw := hw.2 hc
            refine lv_aload_n hx hb dX0_look_46 rfl (lv_at hl 0 rfl) ?_
            refine wcg_0_9_0 zc hK hM dX0_look_47 ?_
            refine lv_iload_n hx hb dX0_look_50 rfl (lv_at hl 1 rfl) ?_
            refine lv_bipush (v := (10 : Int32)) hx hb dX0_look_51 (by decide) ?_
            refine lv_isub hx hb dX0_look_53 ?_
            refine wcld_1 zc hK hM hw.1 dX0_look_54 ?_
            have hw := hw.2
            exact zret_i zc hw dX0_look_55
      · have hw := hw.2 hc
        refine lv_aload_n hx hb dX0_look_24 rfl (lv_at hl 0 rfl) ?_
        refine zV_i [] [] zc ky_X0_longestFall kz_X0_longestFall km_0_37 (c_wc_X0_longestFall l hw) (wcPreV0 hK hM) rfl rfl hl.1 (Nat.le_of_ble_eq_true rfl) ⟨rfl, rfl⟩ ⟨Nat.le_of_ble_eq_true rfl, Nat.le_of_ble_eq_true rfl⟩ ⟨(Nat.zero_le _), (Nat.zero_le _)⟩ dX0_look_25 (fun r_1 hw => ?_)
        exact zret_i zc hw dX0_look_28
    · have hw := hw.2 hc
      refine lv_aload_n hx hb dX0_look_14 rfl (lv_at hl 0 rfl) ?_
      refine wcg_0_22_0 zc hK hM dX0_look_15 ?_
      exact zret_i zc hw dX0_look_18
  · have hw := hw.2 hc
    refine lv_aload_n hx hb dX0_look_4 rfl (lv_at hl 0 rfl) ?_
    refine wcg_0_18_0 zc hK hM dX0_look_5 ?_
    exact zret_i zc hw dX0_look_8
set_option maxRecDepth 20000 in
theorem c_wc_X0_look (l : Launch) {E : zE} {qc : Nat} {f_voices : Int32} {f_step : Int32} {a_parts : Nat → Int32} {a_heights : Nat → Int32} {x1 : Int32} {post : Int32 → Prop} (hw : q_wc_X0_look_0 f_voices f_step a_parts a_heights x1 post) : Met l yX0_look (Cond.code yX0_look cX0_look 2 (some .int) :: zb) rm_wc_X0_look (va_Pc [.ref qc, .int x1] (fun U => wcW E qc f_voices f_step a_parts a_heights U.heap ∧ zK E U)) (vp_Si post) 0 0 (fun _ => False) := by
  refine Met.ofW (cc := cX0_look) (maxL := 2) (ret := (some .int)) (by decide) rfl ?_
  intro p e s m args below meth c s₁ B hml hv
  obtain ⟨rfl, hM, hK⟩ := hv
  have zc := zc_of B hml
  have hl := lv_entry ([.ref qc, .int x1]) (n := 2) (Nat.le_of_ble_eq_true rfl)
  rw [lg_entry_eq]
  generalize (lg_sl ([.ref qc, .int x1]) ++ List.replicate (2 - (lg_sl ([.ref qc, .int x1])).length) Slot.unset).toArray = ls at hl ⊢
  have hl : lv_has ls 2 [(0, .ref qc), (1, .int x1)] := hl
  exact t_wc_X0_look_0 zc hK hM (lv_sub hl [0, 1] rfl) hw
end
section
-- wll_X2_copyFrom_9
abbrev rm_wll_X2_copyFrom_9 : Room := { frames := 1, cells := 0, slots := 0, locals := 40 }
def q_wll_X2_copyFrom_9_0 (f_huts : Int32) (f_singers : Int32) (f_villages : Int32) (f_dams : Int32) (f_echoes : Int32) (f_deep : Int32) (f_slide : Int32) (a_heights : Nat → Int32) (a_ladders : Nat → Int32) (a_minutes : Nat → Int32) (a_echoFrom : Nat → Int32) (a_echoTo : Nat → Int32) (a_homes : Nat → Int32) (a_talls : Nat → Int32) (a_known : Nat → Int32) (of_huts : Int32) (of_singers : Int32) (of_villages : Int32) (of_dams : Int32) (of_echoes : Int32) (of_deep : Int32) (of_slide : Int32) (oa_heights : Nat → Int32) (oa_ladders : Nat → Int32) (oa_minutes : Nat → Int32) (oa_echoFrom : Nat → Int32) (oa_echoTo : Nat → Int32) (oa_homes : Nat → Int32) (oa_talls : Nat → Int32) (oa_known : Nat → Int32) (post : (Int32) → (Int32) → (Int32) → (Int32) → (Int32) → (Int32) → (Int32) → (Nat → Int32) → (Nat → Int32) → (Nat → Int32) → (Nat → Int32) → (Nat → Int32) → (Nat → Int32) → (Nat → Int32) → (Nat → Int32) → Prop) : Prop :=
  ∀ a_heights_1 : Nat → Int32, a_heights_1 = va_cpy oa_heights a_heights (Int32.toNatClampNeg (0 : Int32)) (Int32.toNatClampNeg (0 : Int32)) (Int32.toNatClampNeg (9 : Int32)) → (∀ a_ladders_1 : Nat → Int32, a_ladders_1 = va_cpy oa_ladders a_ladders (Int32.toNatClampNeg (0 : Int32)) (Int32.toNatClampNeg (0 : Int32)) (Int32.toNatClampNeg (9 : Int32)) → (∀ a_minutes_1 : Nat → Int32, a_minutes_1 = va_cpy oa_minutes a_minutes (Int32.toNatClampNeg (0 : Int32)) (Int32.toNatClampNeg (0 : Int32)) (Int32.toNatClampNeg (81 : Int32)) → (∀ a_echoFrom_1 : Nat → Int32, a_echoFrom_1 = va_cpy oa_echoFrom a_echoFrom (Int32.toNatClampNeg (0 : Int32)) (Int32.toNatClampNeg (0 : Int32)) (Int32.toNatClampNeg (4 : Int32)) → (∀ a_echoTo_1 : Nat → Int32, a_echoTo_1 = va_cpy oa_echoTo a_echoTo (Int32.toNatClampNeg (0 : Int32)) (Int32.toNatClampNeg (0 : Int32)) (Int32.toNatClampNeg (4 : Int32)) → (∀ a_homes_1 : Nat → Int32, a_homes_1 = va_cpy oa_homes a_homes (Int32.toNatClampNeg (0 : Int32)) (Int32.toNatClampNeg (0 : Int32)) (Int32.toNatClampNeg (6 : Int32)) → (∀ a_talls_1 : Nat → Int32, a_talls_1 = va_cpy oa_talls a_talls (Int32.toNatClampNeg (0 : Int32)) (Int32.toNatClampNeg (0 : Int32)) (Int32.toNatClampNeg (6 : Int32)) → (∀ a_known_1 : Nat → Int32, a_known_1 = va_cpy oa_known a_known (Int32.toNatClampNeg (0 : Int32)) (Int32.toNatClampNeg (0 : Int32)) (Int32.toNatClampNeg (6 : Int32)) → (post of_huts of_singers of_villages of_dams of_echoes of_deep of_slide a_heights_1 a_ladders_1 a_minutes_1 a_echoFrom_1 a_echoTo_1 a_homes_1 a_talls_1 a_known_1))))))))
set_option maxRecDepth 20000 in
theorem t_wll_X2_copyFrom_9_0 {p : Program} {l : Launch} {e : Env} {s : State} {m : MethodId} {args : Array Value} {below : List Frame} {meth : Method} {c : Code} {E : zE} {ql qm : Nat} {f_huts : Int32} {f_singers : Int32} {f_villages : Int32} {f_dams : Int32} {f_echoes : Int32} {f_deep : Int32} {f_slide : Int32} {a_heights : Nat → Int32} {a_ladders : Nat → Int32} {a_minutes : Nat → Int32} {a_echoFrom : Nat → Int32} {a_echoTo : Nat → Int32} {a_homes : Nat → Int32} {a_talls : Nat → Int32} {a_known : Nat → Int32} {of_huts : Int32} {of_singers : Int32} {of_villages : Int32} {of_dams : Int32} {of_echoes : Int32} {of_deep : Int32} {of_slide : Int32} {oa_heights : Nat → Int32} {oa_ladders : Nat → Int32} {oa_minutes : Nat → Int32} {oa_echoFrom : Nat → Int32} {oa_echoTo : Nat → Int32} {oa_homes : Nat → Int32} {oa_talls : Nat → Int32} {oa_known : Nat → Int32} {post : (Int32) → (Int32) → (Int32) → (Int32) → (Int32) → (Int32) → (Int32) → (Nat → Int32) → (Nat → Int32) → (Nat → Int32) → (Nat → Int32) → (Nat → Int32) → (Nat → Int32) → (Nat → Int32) → (Nat → Int32) → Prop} {ls : Array Slot} {H : Heap} {locs : List Loc}
    (zc : zC p s m args meth c cX2_copyFrom 2 RX2 none)
    (hK : zK E s)
    (hM : wllW E ql qm f_huts f_singers f_villages f_dams f_echoes f_deep f_slide a_heights a_ladders a_minutes a_echoFrom a_echoTo a_homes a_talls a_known of_huts of_singers of_villages of_dams of_echoes of_deep of_slide oa_heights oa_ladders oa_minutes oa_echoFrom oa_echoTo oa_homes oa_talls oa_known H)
    (hS : va_S (wllA ql qm) s.heap H locs)
    (hl : lv_has ls 2 [(0, .ref ql), (1, .ref qm)])
    (hw : q_wll_X2_copyFrom_9_0 f_huts f_singers f_villages f_dams f_echoes f_deep f_slide a_heights a_ladders a_minutes a_echoFrom a_echoTo a_homes a_talls a_known of_huts of_singers of_villages of_dams of_echoes of_deep of_slide oa_heights oa_ladders oa_minutes oa_echoFrom oa_echoTo oa_homes oa_talls oa_known post) :
    W p l e rm_wll_X2_copyFrom_9 s m args below meth c H locs 0 0 (MQ below (zQv (S := (Int32) × (Int32) × (Int32) × (Int32) × (Int32) × (Int32) × (Int32) × (Nat → Int32) × (Nat → Int32) × (Nat → Int32) × (Nat → Int32) × (Nat → Int32) × (Nat → Int32) × (Nat → Int32) × (Nat → Int32)) (fun u => post u.1 u.2.1 u.2.2.1 u.2.2.2.1 u.2.2.2.2.1 u.2.2.2.2.2.1 u.2.2.2.2.2.2.1 u.2.2.2.2.2.2.2.1 u.2.2.2.2.2.2.2.2.1 u.2.2.2.2.2.2.2.2.2.1 u.2.2.2.2.2.2.2.2.2.2.1 u.2.2.2.2.2.2.2.2.2.2.2.1 u.2.2.2.2.2.2.2.2.2.2.2.2.1 u.2.2.2.2.2.2.2.2.2.2.2.2.2.1 u.2.2.2.2.2.2.2.2.2.2.2.2.2.2) (fun u H => wllW E ql qm u.1 u.2.1 u.2.2.1 u.2.2.2.1 u.2.2.2.2.1 u.2.2.2.2.2.1 u.2.2.2.2.2.2.1 u.2.2.2.2.2.2.2.1 u.2.2.2.2.2.2.2.2.1 u.2.2.2.2.2.2.2.2.2.1 u.2.2.2.2.2.2.2.2.2.2.1 u.2.2.2.2.2.2.2.2.2.2.2.1 u.2.2.2.2.2.2.2.2.2.2.2.2.1 u.2.2.2.2.2.2.2.2.2.2.2.2.2.1 u.2.2.2.2.2.2.2.2.2.2.2.2.2.2 of_huts of_singers of_villages of_dams of_echoes of_deep of_slide oa_heights oa_ladders oa_minutes oa_echoFrom oa_echoTo oa_homes oa_talls oa_known H) (wllA ql qm)) args s 0 0 (wllA ql qm)) (F0 m 0 ls []) := by
  have hx := zc.1
  have hb := zc.2.1
  refine lv_aload_n hx hb dX2_copyFrom_0 rfl (lv_at hl 0 rfl) ?_
  refine lv_aload_n hx hb dX2_copyFrom_1 rfl (lv_at hl 1 rfl) ?_
  refine wllg_2_43_9 zc hK hM dX2_copyFrom_2 ?_
  refine wllp_2_43_0 zc hK hM hS dX2_copyFrom_5 (fun H locs hM hS => ?_)
  refine lv_aload_n hx hb dX2_copyFrom_8 rfl (lv_at hl 0 rfl) ?_
  refine lv_aload_n hx hb dX2_copyFrom_9 rfl (lv_at hl 1 rfl) ?_
  refine wllg_2_46_9 zc hK hM dX2_copyFrom_10 ?_
  refine wllp_2_46_0 zc hK hM hS dX2_copyFrom_13 (fun H locs hM hS => ?_)
  refine lv_aload_n hx hb dX2_copyFrom_16 rfl (lv_at hl 0 rfl) ?_
  refine lv_aload_n hx hb dX2_copyFrom_17 rfl (lv_at hl 1 rfl) ?_
  refine wllg_2_49_9 zc hK hM dX2_copyFrom_18 ?_
  refine wllp_2_49_0 zc hK hM hS dX2_copyFrom_21 (fun H locs hM hS => ?_)
  refine lv_aload_n hx hb dX2_copyFrom_24 rfl (lv_at hl 0 rfl) ?_
  refine lv_aload_n hx hb dX2_copyFrom_25 rfl (lv_at hl 1 rfl) ?_
  refine wllg_2_52_9 zc hK hM dX2_copyFrom_26 ?_
  refine wllp_2_52_0 zc hK hM hS dX2_copyFrom_29 (fun H locs hM hS => ?_)
  refine lv_aload_n hx hb dX2_copyFrom_32 rfl (lv_at hl 0 rfl) ?_
  refine lv_aload_n hx hb dX2_copyFrom_33 rfl (lv_at hl 1 rfl) ?_
  refine wllg_2_55_9 zc hK hM dX2_copyFrom_34 ?_
  refine wllp_2_55_0 zc hK hM hS dX2_copyFrom_37 (fun H locs hM hS => ?_)
  refine lv_aload_n hx hb dX2_copyFrom_40 rfl (lv_at hl 0 rfl) ?_
  refine lv_aload_n hx hb dX2_copyFrom_41 rfl (lv_at hl 1 rfl) ?_
  refine wllg_2_9_9 zc hK hM dX2_copyFrom_42 ?_
  refine wllp_2_9_0 zc hK hM hS dX2_copyFrom_45 (fun H locs hM hS => ?_)
  refine lv_aload_n hx hb dX2_copyFrom_48 rfl (lv_at hl 0 rfl) ?_
  refine lv_aload_n hx hb dX2_copyFrom_49 rfl (lv_at hl 1 rfl) ?_
  refine wllg_2_15_9 zc hK hM dX2_copyFrom_50 ?_
  refine wllp_2_15_0 zc hK hM hS dX2_copyFrom_53 (fun H locs hM hS => ?_)
  refine lv_aload_n hx hb dX2_copyFrom_56 rfl (lv_at hl 1 rfl) ?_
  refine wllg_2_18_9 zc hK hM dX2_copyFrom_57 ?_
  refine lv_iconst (v := (0 : Int32)) hx hb dX2_copyFrom_60 (by decide) ?_
  refine lv_aload_n hx hb dX2_copyFrom_61 rfl (lv_at hl 0 rfl) ?_
  refine wllg_2_18_0 zc hK hM dX2_copyFrom_62 ?_
  refine lv_iconst (v := (0 : Int32)) hx hb dX2_copyFrom_65 (by decide) ?_
  refine lv_bipush (v := (9 : Int32)) hx hb dX2_copyFrom_66 (by decide) ?_
  refine wllcp_10_1 zc hK hM hS hl.1 (zc.2.2.2.2.1 _ km_2_64) (by decide) (by decide) (by decide) (by decide) (by decide) (fun _ _ => rfl) (by decide) (by decide) dX2_copyFrom_68 (fun a_heights_1 H locs ea_heights_1 hM hS => ?_)
  have hw := hw a_heights_1 ea_heights_1
  refine lv_aload_n hx hb dX2_copyFrom_71 rfl (lv_at hl 1 rfl) ?_
  refine wllg_2_22_9 zc hK hM dX2_copyFrom_72 ?_
  refine lv_iconst (v := (0 : Int32)) hx hb dX2_copyFrom_75 (by decide) ?_
  refine lv_aload_n hx hb dX2_copyFrom_76 rfl (lv_at hl 0 rfl) ?_
  refine wllg_2_22_0 zc hK hM dX2_copyFrom_77 ?_
  refine lv_iconst (v := (0 : Int32)) hx hb dX2_copyFrom_80 (by decide) ?_
  refine lv_bipush (v := (9 : Int32)) hx hb dX2_copyFrom_81 (by decide) ?_
  refine wllcp_11_2 zc hK hM hS hl.1 (zc.2.2.2.2.1 _ km_2_64) (by decide) (by decide) (by decide) (by decide) (by decide) (fun _ _ => rfl) (by decide) (by decide) dX2_copyFrom_83 (fun a_ladders_1 H locs ea_ladders_1 hM hS => ?_)
  have hw := hw a_ladders_1 ea_ladders_1
  refine lv_aload_n hx hb dX2_copyFrom_86 rfl (lv_at hl 1 rfl) ?_
  refine wllg_2_25_9 zc hK hM dX2_copyFrom_87 ?_
  refine lv_iconst (v := (0 : Int32)) hx hb dX2_copyFrom_90 (by decide) ?_
  refine lv_aload_n hx hb dX2_copyFrom_91 rfl (lv_at hl 0 rfl) ?_
  refine wllg_2_25_0 zc hK hM dX2_copyFrom_92 ?_
  refine lv_iconst (v := (0 : Int32)) hx hb dX2_copyFrom_95 (by decide) ?_
  refine lv_bipush (v := (81 : Int32)) hx hb dX2_copyFrom_96 (by decide) ?_
  refine wllcp_12_3 zc hK hM hS hl.1 (zc.2.2.2.2.1 _ km_2_64) (by decide) (by decide) (by decide) (by decide) (by decide) (fun _ _ => rfl) (by decide) (by decide) dX2_copyFrom_98 (fun a_minutes_1 H locs ea_minutes_1 hM hS => ?_)
  have hw := hw a_minutes_1 ea_minutes_1
  refine lv_aload_n hx hb dX2_copyFrom_101 rfl (lv_at hl 1 rfl) ?_
  refine wllg_2_28_9 zc hK hM dX2_copyFrom_102 ?_
  refine lv_iconst (v := (0 : Int32)) hx hb dX2_copyFrom_105 (by decide) ?_
  refine lv_aload_n hx hb dX2_copyFrom_106 rfl (lv_at hl 0 rfl) ?_
  refine wllg_2_28_0 zc hK hM dX2_copyFrom_107 ?_
  refine lv_iconst (v := (0 : Int32)) hx hb dX2_copyFrom_110 (by decide) ?_
  refine lv_iconst (v := (4 : Int32)) hx hb dX2_copyFrom_111 (by decide) ?_
  refine wllcp_13_4 zc hK hM hS hl.1 (zc.2.2.2.2.1 _ km_2_64) (by decide) (by decide) (by decide) (by decide) (by decide) (fun _ _ => rfl) (by decide) (by decide) dX2_copyFrom_112 (fun a_echoFrom_1 H locs ea_echoFrom_1 hM hS => ?_)
  have hw := hw a_echoFrom_1 ea_echoFrom_1
  refine lv_aload_n hx hb dX2_copyFrom_115 rfl (lv_at hl 1 rfl) ?_
  refine wllg_2_31_9 zc hK hM dX2_copyFrom_116 ?_
  refine lv_iconst (v := (0 : Int32)) hx hb dX2_copyFrom_119 (by decide) ?_
  refine lv_aload_n hx hb dX2_copyFrom_120 rfl (lv_at hl 0 rfl) ?_
  refine wllg_2_31_0 zc hK hM dX2_copyFrom_121 ?_
  refine lv_iconst (v := (0 : Int32)) hx hb dX2_copyFrom_124 (by decide) ?_
  refine lv_iconst (v := (4 : Int32)) hx hb dX2_copyFrom_125 (by decide) ?_
  refine wllcp_14_5 zc hK hM hS hl.1 (zc.2.2.2.2.1 _ km_2_64) (by decide) (by decide) (by decide) (by decide) (by decide) (fun _ _ => rfl) (by decide) (by decide) dX2_copyFrom_126 (fun a_echoTo_1 H locs ea_echoTo_1 hM hS => ?_)
  have hw := hw a_echoTo_1 ea_echoTo_1
  refine lv_aload_n hx hb dX2_copyFrom_129 rfl (lv_at hl 1 rfl) ?_
  refine wllg_2_34_9 zc hK hM dX2_copyFrom_130 ?_
  refine lv_iconst (v := (0 : Int32)) hx hb dX2_copyFrom_133 (by decide) ?_
  refine lv_aload_n hx hb dX2_copyFrom_134 rfl (lv_at hl 0 rfl) ?_
  refine wllg_2_34_0 zc hK hM dX2_copyFrom_135 ?_
  refine lv_iconst (v := (0 : Int32)) hx hb dX2_copyFrom_138 (by decide) ?_
  refine lv_bipush (v := (6 : Int32)) hx hb dX2_copyFrom_139 (by decide) ?_
  refine wllcp_15_6 zc hK hM hS hl.1 (zc.2.2.2.2.1 _ km_2_64) (by decide) (by decide) (by decide) (by decide) (by decide) (fun _ _ => rfl) (by decide) (by decide) dX2_copyFrom_141 (fun a_homes_1 H locs ea_homes_1 hM hS => ?_)
  have hw := hw a_homes_1 ea_homes_1
  refine lv_aload_n hx hb dX2_copyFrom_144 rfl (lv_at hl 1 rfl) ?_
  refine wllg_2_37_9 zc hK hM dX2_copyFrom_145 ?_
  refine lv_iconst (v := (0 : Int32)) hx hb dX2_copyFrom_148 (by decide) ?_
  refine lv_aload_n hx hb dX2_copyFrom_149 rfl (lv_at hl 0 rfl) ?_
  refine wllg_2_37_0 zc hK hM dX2_copyFrom_150 ?_
  refine lv_iconst (v := (0 : Int32)) hx hb dX2_copyFrom_153 (by decide) ?_
  refine lv_bipush (v := (6 : Int32)) hx hb dX2_copyFrom_154 (by decide) ?_
  refine wllcp_16_7 zc hK hM hS hl.1 (zc.2.2.2.2.1 _ km_2_64) (by decide) (by decide) (by decide) (by decide) (by decide) (fun _ _ => rfl) (by decide) (by decide) dX2_copyFrom_156 (fun a_talls_1 H locs ea_talls_1 hM hS => ?_)
  have hw := hw a_talls_1 ea_talls_1
  refine lv_aload_n hx hb dX2_copyFrom_159 rfl (lv_at hl 1 rfl) ?_
  refine wllg_2_40_9 zc hK hM dX2_copyFrom_160 ?_
  refine lv_iconst (v := (0 : Int32)) hx hb dX2_copyFrom_163 (by decide) ?_
  refine lv_aload_n hx hb dX2_copyFrom_164 rfl (lv_at hl 0 rfl) ?_
  refine wllg_2_40_0 zc hK hM dX2_copyFrom_165 ?_
  refine lv_iconst (v := (0 : Int32)) hx hb dX2_copyFrom_168 (by decide) ?_
  refine lv_bipush (v := (6 : Int32)) hx hb dX2_copyFrom_169 (by decide) ?_
  refine wllcp_17_8 zc hK hM hS hl.1 (zc.2.2.2.2.1 _ km_2_64) (by decide) (by decide) (by decide) (by decide) (by decide) (fun _ _ => rfl) (by decide) (by decide) dX2_copyFrom_171 (fun a_known_1 H locs ea_known_1 hM hS => ?_)
  have hw := hw a_known_1 ea_known_1
  exact zret_vw ⟨of_huts, of_singers, of_villages, of_dams, of_echoes, of_deep, of_slide, a_heights_1, a_ladders_1, a_minutes_1, a_echoFrom_1, a_echoTo_1, a_homes_1, a_talls_1, a_known_1⟩ zc hS hw hM dX2_copyFrom_174
set_option maxRecDepth 20000 in
theorem c_wll_X2_copyFrom_9 (l : Launch) {E : zE} {ql qm : Nat} {f_huts : Int32} {f_singers : Int32} {f_villages : Int32} {f_dams : Int32} {f_echoes : Int32} {f_deep : Int32} {f_slide : Int32} {a_heights : Nat → Int32} {a_ladders : Nat → Int32} {a_minutes : Nat → Int32} {a_echoFrom : Nat → Int32} {a_echoTo : Nat → Int32} {a_homes : Nat → Int32} {a_talls : Nat → Int32} {a_known : Nat → Int32} {of_huts : Int32} {of_singers : Int32} {of_villages : Int32} {of_dams : Int32} {of_echoes : Int32} {of_deep : Int32} {of_slide : Int32} {oa_heights : Nat → Int32} {oa_ladders : Nat → Int32} {oa_minutes : Nat → Int32} {oa_echoFrom : Nat → Int32} {oa_echoTo : Nat → Int32} {oa_homes : Nat → Int32} {oa_talls : Nat → Int32} {oa_known : Nat → Int32} {post : (Int32) → (Int32) → (Int32) → (Int32) → (Int32) → (Int32) → (Int32) → (Nat → Int32) → (Nat → Int32) → (Nat → Int32) → (Nat → Int32) → (Nat → Int32) → (Nat → Int32) → (Nat → Int32) → (Nat → Int32) → Prop} (hw : q_wll_X2_copyFrom_9_0 f_huts f_singers f_villages f_dams f_echoes f_deep f_slide a_heights a_ladders a_minutes a_echoFrom a_echoTo a_homes a_talls a_known of_huts of_singers of_villages of_dams of_echoes of_deep of_slide oa_heights oa_ladders oa_minutes oa_echoFrom oa_echoTo oa_homes oa_talls oa_known post) : Met l yX2_copyFrom (Cond.code yX2_copyFrom cX2_copyFrom 2 none :: zb) rm_wll_X2_copyFrom_9 (va_Pc [.ref ql, .ref qm] (fun U => wllW E ql qm f_huts f_singers f_villages f_dams f_echoes f_deep f_slide a_heights a_ladders a_minutes a_echoFrom a_echoTo a_homes a_talls a_known of_huts of_singers of_villages of_dams of_echoes of_deep of_slide oa_heights oa_ladders oa_minutes oa_echoFrom oa_echoTo oa_homes oa_talls oa_known U.heap ∧ zK E U)) (zQv (S := (Int32) × (Int32) × (Int32) × (Int32) × (Int32) × (Int32) × (Int32) × (Nat → Int32) × (Nat → Int32) × (Nat → Int32) × (Nat → Int32) × (Nat → Int32) × (Nat → Int32) × (Nat → Int32) × (Nat → Int32)) (fun u => post u.1 u.2.1 u.2.2.1 u.2.2.2.1 u.2.2.2.2.1 u.2.2.2.2.2.1 u.2.2.2.2.2.2.1 u.2.2.2.2.2.2.2.1 u.2.2.2.2.2.2.2.2.1 u.2.2.2.2.2.2.2.2.2.1 u.2.2.2.2.2.2.2.2.2.2.1 u.2.2.2.2.2.2.2.2.2.2.2.1 u.2.2.2.2.2.2.2.2.2.2.2.2.1 u.2.2.2.2.2.2.2.2.2.2.2.2.2.1 u.2.2.2.2.2.2.2.2.2.2.2.2.2.2) (fun u H => wllW E ql qm u.1 u.2.1 u.2.2.1 u.2.2.2.1 u.2.2.2.2.1 u.2.2.2.2.2.1 u.2.2.2.2.2.2.1 u.2.2.2.2.2.2.2.1 u.2.2.2.2.2.2.2.2.1 u.2.2.2.2.2.2.2.2.2.1 u.2.2.2.2.2.2.2.2.2.2.1 u.2.2.2.2.2.2.2.2.2.2.2.1 u.2.2.2.2.2.2.2.2.2.2.2.2.1 u.2.2.2.2.2.2.2.2.2.2.2.2.2.1 u.2.2.2.2.2.2.2.2.2.2.2.2.2.2 of_huts of_singers of_villages of_dams of_echoes of_deep of_slide oa_heights oa_ladders oa_minutes oa_echoFrom oa_echoTo oa_homes oa_talls oa_known H) (wllA ql qm)) 0 0 (wllA ql qm) := by
  refine Met.ofW (cc := cX2_copyFrom) (maxL := 2) (ret := none) (by decide) rfl ?_
  intro p e s m args below meth c s₁ B hml hv
  obtain ⟨rfl, hM, hK⟩ := hv
  have zc := zc_of B hml
  have hl := lv_entry ([.ref ql, .ref qm]) (n := 2) (Nat.le_of_ble_eq_true rfl)
  rw [lg_entry_eq]
  generalize (lg_sl ([.ref ql, .ref qm]) ++ List.replicate (2 - (lg_sl ([.ref ql, .ref qm])).length) Slot.unset).toArray = ls at hl ⊢
  have hl : lv_has ls 2 [(0, .ref ql), (1, .ref qm)] := hl
  exact t_wll_X2_copyFrom_9_0 zc hK hM va_S.rf (lv_sub hl [0, 1] rfl) hw
end
section
-- wvv_X1_copyFrom_4
abbrev rm_wvv_X1_copyFrom_4 : Room := { frames := 1, cells := 0, slots := 0, locals := 40 }
def q_wvv_X1_copyFrom_4_0 (f_deeds : Int32) (a_kinds : Nat → Int32) (a_firsts : Nat → Int32) (a_seconds : Nat → Int32) (of_deeds : Int32) (oa_kinds : Nat → Int32) (oa_firsts : Nat → Int32) (oa_seconds : Nat → Int32) (post : (Int32) → (Nat → Int32) → (Nat → Int32) → (Nat → Int32) → Prop) : Prop :=
  (¬ of_deeds < 0) ∧ ((Int32.toNatClampNeg (0 : Int32) + Int32.toNatClampNeg of_deeds ≤ 40) ∧ ((Int32.toNatClampNeg (0 : Int32) + Int32.toNatClampNeg of_deeds ≤ 40) ∧ (∀ a_kinds_1 : Nat → Int32, a_kinds_1 = va_cpy oa_kinds a_kinds (Int32.toNatClampNeg (0 : Int32)) (Int32.toNatClampNeg (0 : Int32)) (Int32.toNatClampNeg of_deeds) → ((¬ of_deeds < 0) ∧ ((Int32.toNatClampNeg (0 : Int32) + Int32.toNatClampNeg of_deeds ≤ 40) ∧ ((Int32.toNatClampNeg (0 : Int32) + Int32.toNatClampNeg of_deeds ≤ 40) ∧ (∀ a_firsts_1 : Nat → Int32, a_firsts_1 = va_cpy oa_firsts a_firsts (Int32.toNatClampNeg (0 : Int32)) (Int32.toNatClampNeg (0 : Int32)) (Int32.toNatClampNeg of_deeds) → ((¬ of_deeds < 0) ∧ ((Int32.toNatClampNeg (0 : Int32) + Int32.toNatClampNeg of_deeds ≤ 40) ∧ ((Int32.toNatClampNeg (0 : Int32) + Int32.toNatClampNeg of_deeds ≤ 40) ∧ (∀ a_seconds_1 : Nat → Int32, a_seconds_1 = va_cpy oa_seconds a_seconds (Int32.toNatClampNeg (0 : Int32)) (Int32.toNatClampNeg (0 : Int32)) (Int32.toNatClampNeg of_deeds) → (post of_deeds a_kinds_1 a_firsts_1 a_seconds_1))))))))))))
set_option maxRecDepth 20000 in
theorem t_wvv_X1_copyFrom_4_0 {p : Program} {l : Launch} {e : Env} {s : State} {m : MethodId} {args : Array Value} {below : List Frame} {meth : Method} {c : Code} {E : zE} {qv qw : Nat} {f_deeds : Int32} {a_kinds : Nat → Int32} {a_firsts : Nat → Int32} {a_seconds : Nat → Int32} {of_deeds : Int32} {oa_kinds : Nat → Int32} {oa_firsts : Nat → Int32} {oa_seconds : Nat → Int32} {post : (Int32) → (Nat → Int32) → (Nat → Int32) → (Nat → Int32) → Prop} {ls : Array Slot} {H : Heap} {locs : List Loc}
    (zc : zC p s m args meth c cX1_copyFrom 2 RX1 none)
    (hK : zK E s)
    (hM : wvvW E qv qw f_deeds a_kinds a_firsts a_seconds of_deeds oa_kinds oa_firsts oa_seconds H)
    (hS : va_S (wvvA qv qw) s.heap H locs)
    (hl : lv_has ls 2 [(0, .ref qv), (1, .ref qw)])
    (hw : q_wvv_X1_copyFrom_4_0 f_deeds a_kinds a_firsts a_seconds of_deeds oa_kinds oa_firsts oa_seconds post) :
    W p l e rm_wvv_X1_copyFrom_4 s m args below meth c H locs 0 0 (MQ below (zQv (S := (Int32) × (Nat → Int32) × (Nat → Int32) × (Nat → Int32)) (fun u => post u.1 u.2.1 u.2.2.1 u.2.2.2) (fun u H => wvvW E qv qw u.1 u.2.1 u.2.2.1 u.2.2.2 of_deeds oa_kinds oa_firsts oa_seconds H) (wvvA qv qw)) args s 0 0 (wvvA qv qw)) (F0 m 0 ls []) := by
  have hx := zc.1
  have hb := zc.2.1
  refine lv_aload_n hx hb dX1_copyFrom_0 rfl (lv_at hl 0 rfl) ?_
  refine lv_aload_n hx hb dX1_copyFrom_1 rfl (lv_at hl 1 rfl) ?_
  refine wvvg_1_21_4 zc hK hM dX1_copyFrom_2 ?_
  refine wvvp_1_21_0 zc hK hM hS dX1_copyFrom_5 (fun H locs hM hS => ?_)
  refine lv_aload_n hx hb dX1_copyFrom_8 rfl (lv_at hl 1 rfl) ?_
  refine wvvg_1_9_4 zc hK hM dX1_copyFrom_9 ?_
  refine lv_iconst (v := (0 : Int32)) hx hb dX1_copyFrom_12 (by decide) ?_
  refine lv_aload_n hx hb dX1_copyFrom_13 rfl (lv_at hl 0 rfl) ?_
  refine wvvg_1_9_0 zc hK hM dX1_copyFrom_14 ?_
  refine lv_iconst (v := (0 : Int32)) hx hb dX1_copyFrom_17 (by decide) ?_
  refine lv_aload_n hx hb dX1_copyFrom_18 rfl (lv_at hl 0 rfl) ?_
  refine wvvg_1_21_0 zc hK hM dX1_copyFrom_19 ?_
  have hs1 := hw.1
  have hw := hw.2
  have hs2 := hw.1
  have hw := hw.2
  have hs3 := hw.1
  have hw := hw.2
  refine wvvcp_5_1 zc hK hM hS hl.1 (zc.2.2.2.2.1 _ km_1_25) (by decide) (by decide) hs1 hs2 hs3 (fun _ _ => rfl) (by decide) (by decide) dX1_copyFrom_22 (fun a_kinds_1 H locs ea_kinds_1 hM hS => ?_)
  have hw := hw a_kinds_1 ea_kinds_1
  refine lv_aload_n hx hb dX1_copyFrom_25 rfl (lv_at hl 1 rfl) ?_
  refine wvvg_1_15_4 zc hK hM dX1_copyFrom_26 ?_
  refine lv_iconst (v := (0 : Int32)) hx hb dX1_copyFrom_29 (by decide) ?_
  refine lv_aload_n hx hb dX1_copyFrom_30 rfl (lv_at hl 0 rfl) ?_
  refine wvvg_1_15_0 zc hK hM dX1_copyFrom_31 ?_
  refine lv_iconst (v := (0 : Int32)) hx hb dX1_copyFrom_34 (by decide) ?_
  refine lv_aload_n hx hb dX1_copyFrom_35 rfl (lv_at hl 0 rfl) ?_
  refine wvvg_1_21_0 zc hK hM dX1_copyFrom_36 ?_
  have hs4 := hw.1
  have hw := hw.2
  have hs5 := hw.1
  have hw := hw.2
  have hs6 := hw.1
  have hw := hw.2
  refine wvvcp_6_2 zc hK hM hS hl.1 (zc.2.2.2.2.1 _ km_1_25) (by decide) (by decide) hs4 hs5 hs6 (fun _ _ => rfl) (by decide) (by decide) dX1_copyFrom_39 (fun a_firsts_1 H locs ea_firsts_1 hM hS => ?_)
  have hw := hw a_firsts_1 ea_firsts_1
  refine lv_aload_n hx hb dX1_copyFrom_42 rfl (lv_at hl 1 rfl) ?_
  refine wvvg_1_18_4 zc hK hM dX1_copyFrom_43 ?_
  refine lv_iconst (v := (0 : Int32)) hx hb dX1_copyFrom_46 (by decide) ?_
  refine lv_aload_n hx hb dX1_copyFrom_47 rfl (lv_at hl 0 rfl) ?_
  refine wvvg_1_18_0 zc hK hM dX1_copyFrom_48 ?_
  refine lv_iconst (v := (0 : Int32)) hx hb dX1_copyFrom_51 (by decide) ?_
  refine lv_aload_n hx hb dX1_copyFrom_52 rfl (lv_at hl 0 rfl) ?_
  refine wvvg_1_21_0 zc hK hM dX1_copyFrom_53 ?_
  have hs7 := hw.1
  have hw := hw.2
  have hs8 := hw.1
  have hw := hw.2
  have hs9 := hw.1
  have hw := hw.2
  refine wvvcp_7_3 zc hK hM hS hl.1 (zc.2.2.2.2.1 _ km_1_25) (by decide) (by decide) hs7 hs8 hs9 (fun _ _ => rfl) (by decide) (by decide) dX1_copyFrom_56 (fun a_seconds_1 H locs ea_seconds_1 hM hS => ?_)
  have hw := hw a_seconds_1 ea_seconds_1
  exact zret_vw ⟨of_deeds, a_kinds_1, a_firsts_1, a_seconds_1⟩ zc hS hw hM dX1_copyFrom_59
set_option maxRecDepth 20000 in
theorem c_wvv_X1_copyFrom_4 (l : Launch) {E : zE} {qv qw : Nat} {f_deeds : Int32} {a_kinds : Nat → Int32} {a_firsts : Nat → Int32} {a_seconds : Nat → Int32} {of_deeds : Int32} {oa_kinds : Nat → Int32} {oa_firsts : Nat → Int32} {oa_seconds : Nat → Int32} {post : (Int32) → (Nat → Int32) → (Nat → Int32) → (Nat → Int32) → Prop} (hw : q_wvv_X1_copyFrom_4_0 f_deeds a_kinds a_firsts a_seconds of_deeds oa_kinds oa_firsts oa_seconds post) : Met l yX1_copyFrom (Cond.code yX1_copyFrom cX1_copyFrom 2 none :: zb) rm_wvv_X1_copyFrom_4 (va_Pc [.ref qv, .ref qw] (fun U => wvvW E qv qw f_deeds a_kinds a_firsts a_seconds of_deeds oa_kinds oa_firsts oa_seconds U.heap ∧ zK E U)) (zQv (S := (Int32) × (Nat → Int32) × (Nat → Int32) × (Nat → Int32)) (fun u => post u.1 u.2.1 u.2.2.1 u.2.2.2) (fun u H => wvvW E qv qw u.1 u.2.1 u.2.2.1 u.2.2.2 of_deeds oa_kinds oa_firsts oa_seconds H) (wvvA qv qw)) 0 0 (wvvA qv qw) := by
  refine Met.ofW (cc := cX1_copyFrom) (maxL := 2) (ret := none) (by decide) rfl ?_
  intro p e s m args below meth c s₁ B hml hv
  obtain ⟨rfl, hM, hK⟩ := hv
  have zc := zc_of B hml
  have hl := lv_entry ([.ref qv, .ref qw]) (n := 2) (Nat.le_of_ble_eq_true rfl)
  rw [lg_entry_eq]
  generalize (lg_sl ([.ref qv, .ref qw]) ++ List.replicate (2 - (lg_sl ([.ref qv, .ref qw])).length) Slot.unset).toArray = ls at hl ⊢
  have hl : lv_has ls 2 [(0, .ref qv), (1, .ref qw)] := hl
  exact t_wvv_X1_copyFrom_4_0 zc hK hM va_S.rf (lv_sub hl [0, 1] rfl) hw
end
section
-- wss_X6_copyFrom_4
abbrev rm_wss_X6_copyFrom_4 : Room := { frames := 1, cells := 0, slots := 0, locals := 40 }
def q_wss_X6_copyFrom_4_0 (f_facts : Int32) (a_heard : Nat → Int32) (a_huts : Nat → Int32) (a_minutes : Nat → Int32) (of_facts : Int32) (oa_heard : Nat → Int32) (oa_huts : Nat → Int32) (oa_minutes : Nat → Int32) (post : (Int32) → (Nat → Int32) → (Nat → Int32) → (Nat → Int32) → Prop) : Prop :=
  (¬ of_facts < 0) ∧ ((Int32.toNatClampNeg (0 : Int32) + Int32.toNatClampNeg of_facts ≤ 10) ∧ ((Int32.toNatClampNeg (0 : Int32) + Int32.toNatClampNeg of_facts ≤ 10) ∧ (∀ a_heard_1 : Nat → Int32, a_heard_1 = va_cpy oa_heard a_heard (Int32.toNatClampNeg (0 : Int32)) (Int32.toNatClampNeg (0 : Int32)) (Int32.toNatClampNeg of_facts) → ((¬ of_facts < 0) ∧ ((Int32.toNatClampNeg (0 : Int32) + Int32.toNatClampNeg of_facts ≤ 10) ∧ ((Int32.toNatClampNeg (0 : Int32) + Int32.toNatClampNeg of_facts ≤ 10) ∧ (∀ a_huts_1 : Nat → Int32, a_huts_1 = va_cpy oa_huts a_huts (Int32.toNatClampNeg (0 : Int32)) (Int32.toNatClampNeg (0 : Int32)) (Int32.toNatClampNeg of_facts) → ((¬ of_facts < 0) ∧ ((Int32.toNatClampNeg (0 : Int32) + Int32.toNatClampNeg of_facts ≤ 10) ∧ ((Int32.toNatClampNeg (0 : Int32) + Int32.toNatClampNeg of_facts ≤ 10) ∧ (∀ a_minutes_1 : Nat → Int32, a_minutes_1 = va_cpy oa_minutes a_minutes (Int32.toNatClampNeg (0 : Int32)) (Int32.toNatClampNeg (0 : Int32)) (Int32.toNatClampNeg of_facts) → (post of_facts a_heard_1 a_huts_1 a_minutes_1))))))))))))
set_option maxRecDepth 20000 in
theorem t_wss_X6_copyFrom_4_0 {p : Program} {l : Launch} {e : Env} {s : State} {m : MethodId} {args : Array Value} {below : List Frame} {meth : Method} {c : Code} {E : zE} {qs qt : Nat} {f_facts : Int32} {a_heard : Nat → Int32} {a_huts : Nat → Int32} {a_minutes : Nat → Int32} {of_facts : Int32} {oa_heard : Nat → Int32} {oa_huts : Nat → Int32} {oa_minutes : Nat → Int32} {post : (Int32) → (Nat → Int32) → (Nat → Int32) → (Nat → Int32) → Prop} {ls : Array Slot} {H : Heap} {locs : List Loc}
    (zc : zC p s m args meth c cX6_copyFrom 2 RX6 none)
    (hK : zK E s)
    (hM : wssW E qs qt f_facts a_heard a_huts a_minutes of_facts oa_heard oa_huts oa_minutes H)
    (hS : va_S (wssA qs qt) s.heap H locs)
    (hl : lv_has ls 2 [(0, .ref qs), (1, .ref qt)])
    (hw : q_wss_X6_copyFrom_4_0 f_facts a_heard a_huts a_minutes of_facts oa_heard oa_huts oa_minutes post) :
    W p l e rm_wss_X6_copyFrom_4 s m args below meth c H locs 0 0 (MQ below (zQv (S := (Int32) × (Nat → Int32) × (Nat → Int32) × (Nat → Int32)) (fun u => post u.1 u.2.1 u.2.2.1 u.2.2.2) (fun u H => wssW E qs qt u.1 u.2.1 u.2.2.1 u.2.2.2 of_facts oa_heard oa_huts oa_minutes H) (wssA qs qt)) args s 0 0 (wssA qs qt)) (F0 m 0 ls []) := by
  have hx := zc.1
  have hb := zc.2.1
  refine lv_aload_n hx hb dX6_copyFrom_0 rfl (lv_at hl 0 rfl) ?_
  refine lv_aload_n hx hb dX6_copyFrom_1 rfl (lv_at hl 1 rfl) ?_
  refine wssg_6_21_4 zc hK hM dX6_copyFrom_2 ?_
  refine wssp_6_21_0 zc hK hM hS dX6_copyFrom_5 (fun H locs hM hS => ?_)
  refine lv_aload_n hx hb dX6_copyFrom_8 rfl (lv_at hl 1 rfl) ?_
  refine wssg_6_9_4 zc hK hM dX6_copyFrom_9 ?_
  refine lv_iconst (v := (0 : Int32)) hx hb dX6_copyFrom_12 (by decide) ?_
  refine lv_aload_n hx hb dX6_copyFrom_13 rfl (lv_at hl 0 rfl) ?_
  refine wssg_6_9_0 zc hK hM dX6_copyFrom_14 ?_
  refine lv_iconst (v := (0 : Int32)) hx hb dX6_copyFrom_17 (by decide) ?_
  refine lv_aload_n hx hb dX6_copyFrom_18 rfl (lv_at hl 0 rfl) ?_
  refine wssg_6_21_0 zc hK hM dX6_copyFrom_19 ?_
  have hs1 := hw.1
  have hw := hw.2
  have hs2 := hw.1
  have hw := hw.2
  have hs3 := hw.1
  have hw := hw.2
  refine wsscp_5_1 zc hK hM hS hl.1 (zc.2.2.2.2.1 _ km_6_25) (by decide) (by decide) hs1 hs2 hs3 (fun _ _ => rfl) (by decide) (by decide) dX6_copyFrom_22 (fun a_heard_1 H locs ea_heard_1 hM hS => ?_)
  have hw := hw a_heard_1 ea_heard_1
  refine lv_aload_n hx hb dX6_copyFrom_25 rfl (lv_at hl 1 rfl) ?_
  refine wssg_6_15_4 zc hK hM dX6_copyFrom_26 ?_
  refine lv_iconst (v := (0 : Int32)) hx hb dX6_copyFrom_29 (by decide) ?_
  refine lv_aload_n hx hb dX6_copyFrom_30 rfl (lv_at hl 0 rfl) ?_
  refine wssg_6_15_0 zc hK hM dX6_copyFrom_31 ?_
  refine lv_iconst (v := (0 : Int32)) hx hb dX6_copyFrom_34 (by decide) ?_
  refine lv_aload_n hx hb dX6_copyFrom_35 rfl (lv_at hl 0 rfl) ?_
  refine wssg_6_21_0 zc hK hM dX6_copyFrom_36 ?_
  have hs4 := hw.1
  have hw := hw.2
  have hs5 := hw.1
  have hw := hw.2
  have hs6 := hw.1
  have hw := hw.2
  refine wsscp_6_2 zc hK hM hS hl.1 (zc.2.2.2.2.1 _ km_6_25) (by decide) (by decide) hs4 hs5 hs6 (fun _ _ => rfl) (by decide) (by decide) dX6_copyFrom_39 (fun a_huts_1 H locs ea_huts_1 hM hS => ?_)
  have hw := hw a_huts_1 ea_huts_1
  refine lv_aload_n hx hb dX6_copyFrom_42 rfl (lv_at hl 1 rfl) ?_
  refine wssg_6_18_4 zc hK hM dX6_copyFrom_43 ?_
  refine lv_iconst (v := (0 : Int32)) hx hb dX6_copyFrom_46 (by decide) ?_
  refine lv_aload_n hx hb dX6_copyFrom_47 rfl (lv_at hl 0 rfl) ?_
  refine wssg_6_18_0 zc hK hM dX6_copyFrom_48 ?_
  refine lv_iconst (v := (0 : Int32)) hx hb dX6_copyFrom_51 (by decide) ?_
  refine lv_aload_n hx hb dX6_copyFrom_52 rfl (lv_at hl 0 rfl) ?_
  refine wssg_6_21_0 zc hK hM dX6_copyFrom_53 ?_
  have hs7 := hw.1
  have hw := hw.2
  have hs8 := hw.1
  have hw := hw.2
  have hs9 := hw.1
  have hw := hw.2
  refine wsscp_7_3 zc hK hM hS hl.1 (zc.2.2.2.2.1 _ km_6_25) (by decide) (by decide) hs7 hs8 hs9 (fun _ _ => rfl) (by decide) (by decide) dX6_copyFrom_56 (fun a_minutes_1 H locs ea_minutes_1 hM hS => ?_)
  have hw := hw a_minutes_1 ea_minutes_1
  exact zret_vw ⟨of_facts, a_heard_1, a_huts_1, a_minutes_1⟩ zc hS hw hM dX6_copyFrom_59
set_option maxRecDepth 20000 in
theorem c_wss_X6_copyFrom_4 (l : Launch) {E : zE} {qs qt : Nat} {f_facts : Int32} {a_heard : Nat → Int32} {a_huts : Nat → Int32} {a_minutes : Nat → Int32} {of_facts : Int32} {oa_heard : Nat → Int32} {oa_huts : Nat → Int32} {oa_minutes : Nat → Int32} {post : (Int32) → (Nat → Int32) → (Nat → Int32) → (Nat → Int32) → Prop} (hw : q_wss_X6_copyFrom_4_0 f_facts a_heard a_huts a_minutes of_facts oa_heard oa_huts oa_minutes post) : Met l yX6_copyFrom (Cond.code yX6_copyFrom cX6_copyFrom 2 none :: zb) rm_wss_X6_copyFrom_4 (va_Pc [.ref qs, .ref qt] (fun U => wssW E qs qt f_facts a_heard a_huts a_minutes of_facts oa_heard oa_huts oa_minutes U.heap ∧ zK E U)) (zQv (S := (Int32) × (Nat → Int32) × (Nat → Int32) × (Nat → Int32)) (fun u => post u.1 u.2.1 u.2.2.1 u.2.2.2) (fun u H => wssW E qs qt u.1 u.2.1 u.2.2.1 u.2.2.2 of_facts oa_heard oa_huts oa_minutes H) (wssA qs qt)) 0 0 (wssA qs qt) := by
  refine Met.ofW (cc := cX6_copyFrom) (maxL := 2) (ret := none) (by decide) rfl ?_
  intro p e s m args below meth c s₁ B hml hv
  obtain ⟨rfl, hM, hK⟩ := hv
  have zc := zc_of B hml
  have hl := lv_entry ([.ref qs, .ref qt]) (n := 2) (Nat.le_of_ble_eq_true rfl)
  rw [lg_entry_eq]
  generalize (lg_sl ([.ref qs, .ref qt]) ++ List.replicate (2 - (lg_sl ([.ref qs, .ref qt])).length) Slot.unset).toArray = ls at hl ⊢
  have hl : lv_has ls 2 [(0, .ref qs), (1, .ref qt)] := hl
  exact t_wss_X6_copyFrom_4_0 zc hK hM va_S.rf (lv_sub hl [0, 1] rfl) hw
end
section
-- wcc_X0_copyFrom_3
abbrev rm_wcc_X0_copyFrom_3 : Room := { frames := 1, cells := 0, slots := 0, locals := 40 }
def q_wcc_X0_copyFrom_3_0 (f_voices : Int32) (f_step : Int32) (a_parts : Nat → Int32) (a_heights : Nat → Int32) (of_voices : Int32) (of_step : Int32) (oa_parts : Nat → Int32) (oa_heights : Nat → Int32) (post : (Int32) → (Int32) → (Nat → Int32) → (Nat → Int32) → Prop) : Prop :=
  (¬ of_voices < 0) ∧ ((Int32.toNatClampNeg (0 : Int32) + Int32.toNatClampNeg of_voices ≤ 9) ∧ ((Int32.toNatClampNeg (0 : Int32) + Int32.toNatClampNeg of_voices ≤ 9) ∧ (∀ a_parts_1 : Nat → Int32, a_parts_1 = va_cpy oa_parts a_parts (Int32.toNatClampNeg (0 : Int32)) (Int32.toNatClampNeg (0 : Int32)) (Int32.toNatClampNeg of_voices) → ((¬ of_voices < 0) ∧ ((Int32.toNatClampNeg (0 : Int32) + Int32.toNatClampNeg of_voices ≤ 9) ∧ ((Int32.toNatClampNeg (0 : Int32) + Int32.toNatClampNeg of_voices ≤ 9) ∧ (∀ a_heights_1 : Nat → Int32, a_heights_1 = va_cpy oa_heights a_heights (Int32.toNatClampNeg (0 : Int32)) (Int32.toNatClampNeg (0 : Int32)) (Int32.toNatClampNeg of_voices) → (post of_voices of_step a_parts_1 a_heights_1))))))))
set_option maxRecDepth 20000 in
theorem t_wcc_X0_copyFrom_3_0 {p : Program} {l : Launch} {e : Env} {s : State} {m : MethodId} {args : Array Value} {below : List Frame} {meth : Method} {c : Code} {E : zE} {qc qd : Nat} {f_voices : Int32} {f_step : Int32} {a_parts : Nat → Int32} {a_heights : Nat → Int32} {of_voices : Int32} {of_step : Int32} {oa_parts : Nat → Int32} {oa_heights : Nat → Int32} {post : (Int32) → (Int32) → (Nat → Int32) → (Nat → Int32) → Prop} {ls : Array Slot} {H : Heap} {locs : List Loc}
    (zc : zC p s m args meth c cX0_copyFrom 2 RX0 none)
    (hK : zK E s)
    (hM : wccW E qc qd f_voices f_step a_parts a_heights of_voices of_step oa_parts oa_heights H)
    (hS : va_S (wccA qc qd) s.heap H locs)
    (hl : lv_has ls 2 [(0, .ref qc), (1, .ref qd)])
    (hw : q_wcc_X0_copyFrom_3_0 f_voices f_step a_parts a_heights of_voices of_step oa_parts oa_heights post) :
    W p l e rm_wcc_X0_copyFrom_3 s m args below meth c H locs 0 0 (MQ below (zQv (S := (Int32) × (Int32) × (Nat → Int32) × (Nat → Int32)) (fun u => post u.1 u.2.1 u.2.2.1 u.2.2.2) (fun u H => wccW E qc qd u.1 u.2.1 u.2.2.1 u.2.2.2 of_voices of_step oa_parts oa_heights H) (wccA qc qd)) args s 0 0 (wccA qc qd)) (F0 m 0 ls []) := by
  have hx := zc.1
  have hb := zc.2.1
  refine lv_aload_n hx hb dX0_copyFrom_0 rfl (lv_at hl 0 rfl) ?_
  refine lv_aload_n hx hb dX0_copyFrom_1 rfl (lv_at hl 1 rfl) ?_
  refine wccg_0_18_3 zc hK hM dX0_copyFrom_2 ?_
  refine wccp_0_18_0 zc hK hM hS dX0_copyFrom_5 (fun H locs hM hS => ?_)
  refine lv_aload_n hx hb dX0_copyFrom_8 rfl (lv_at hl 0 rfl) ?_
  refine lv_aload_n hx hb dX0_copyFrom_9 rfl (lv_at hl 1 rfl) ?_
  refine wccg_0_22_3 zc hK hM dX0_copyFrom_10 ?_
  refine wccp_0_22_0 zc hK hM hS dX0_copyFrom_13 (fun H locs hM hS => ?_)
  refine lv_aload_n hx hb dX0_copyFrom_16 rfl (lv_at hl 1 rfl) ?_
  refine wccg_0_9_3 zc hK hM dX0_copyFrom_17 ?_
  refine lv_iconst (v := (0 : Int32)) hx hb dX0_copyFrom_20 (by decide) ?_
  refine lv_aload_n hx hb dX0_copyFrom_21 rfl (lv_at hl 0 rfl) ?_
  refine wccg_0_9_0 zc hK hM dX0_copyFrom_22 ?_
  refine lv_iconst (v := (0 : Int32)) hx hb dX0_copyFrom_25 (by decide) ?_
  refine lv_aload_n hx hb dX0_copyFrom_26 rfl (lv_at hl 0 rfl) ?_
  refine wccg_0_18_0 zc hK hM dX0_copyFrom_27 ?_
  have hs1 := hw.1
  have hw := hw.2
  have hs2 := hw.1
  have hw := hw.2
  have hs3 := hw.1
  have hw := hw.2
  refine wcccp_4_1 zc hK hM hS hl.1 (zc.2.2.2.2.1 _ km_0_25) (by decide) (by decide) hs1 hs2 hs3 (fun _ _ => rfl) (by decide) (by decide) dX0_copyFrom_30 (fun a_parts_1 H locs ea_parts_1 hM hS => ?_)
  have hw := hw a_parts_1 ea_parts_1
  refine lv_aload_n hx hb dX0_copyFrom_33 rfl (lv_at hl 1 rfl) ?_
  refine wccg_0_15_3 zc hK hM dX0_copyFrom_34 ?_
  refine lv_iconst (v := (0 : Int32)) hx hb dX0_copyFrom_37 (by decide) ?_
  refine lv_aload_n hx hb dX0_copyFrom_38 rfl (lv_at hl 0 rfl) ?_
  refine wccg_0_15_0 zc hK hM dX0_copyFrom_39 ?_
  refine lv_iconst (v := (0 : Int32)) hx hb dX0_copyFrom_42 (by decide) ?_
  refine lv_aload_n hx hb dX0_copyFrom_43 rfl (lv_at hl 0 rfl) ?_
  refine wccg_0_18_0 zc hK hM dX0_copyFrom_44 ?_
  have hs4 := hw.1
  have hw := hw.2
  have hs5 := hw.1
  have hw := hw.2
  have hs6 := hw.1
  have hw := hw.2
  refine wcccp_5_2 zc hK hM hS hl.1 (zc.2.2.2.2.1 _ km_0_25) (by decide) (by decide) hs4 hs5 hs6 (fun _ _ => rfl) (by decide) (by decide) dX0_copyFrom_47 (fun a_heights_1 H locs ea_heights_1 hM hS => ?_)
  have hw := hw a_heights_1 ea_heights_1
  exact zret_vw ⟨of_voices, of_step, a_parts_1, a_heights_1⟩ zc hS hw hM dX0_copyFrom_50
set_option maxRecDepth 20000 in
theorem c_wcc_X0_copyFrom_3 (l : Launch) {E : zE} {qc qd : Nat} {f_voices : Int32} {f_step : Int32} {a_parts : Nat → Int32} {a_heights : Nat → Int32} {of_voices : Int32} {of_step : Int32} {oa_parts : Nat → Int32} {oa_heights : Nat → Int32} {post : (Int32) → (Int32) → (Nat → Int32) → (Nat → Int32) → Prop} (hw : q_wcc_X0_copyFrom_3_0 f_voices f_step a_parts a_heights of_voices of_step oa_parts oa_heights post) : Met l yX0_copyFrom (Cond.code yX0_copyFrom cX0_copyFrom 2 none :: zb) rm_wcc_X0_copyFrom_3 (va_Pc [.ref qc, .ref qd] (fun U => wccW E qc qd f_voices f_step a_parts a_heights of_voices of_step oa_parts oa_heights U.heap ∧ zK E U)) (zQv (S := (Int32) × (Int32) × (Nat → Int32) × (Nat → Int32)) (fun u => post u.1 u.2.1 u.2.2.1 u.2.2.2) (fun u H => wccW E qc qd u.1 u.2.1 u.2.2.1 u.2.2.2 of_voices of_step oa_parts oa_heights H) (wccA qc qd)) 0 0 (wccA qc qd) := by
  refine Met.ofW (cc := cX0_copyFrom) (maxL := 2) (ret := none) (by decide) rfl ?_
  intro p e s m args below meth c s₁ B hml hv
  obtain ⟨rfl, hM, hK⟩ := hv
  have zc := zc_of B hml
  have hl := lv_entry ([.ref qc, .ref qd]) (n := 2) (Nat.le_of_ble_eq_true rfl)
  rw [lg_entry_eq]
  generalize (lg_sl ([.ref qc, .ref qd]) ++ List.replicate (2 - (lg_sl ([.ref qc, .ref qd])).length) Slot.unset).toArray = ls at hl ⊢
  have hl : lv_has ls 2 [(0, .ref qc), (1, .ref qd)] := hl
  exact t_wcc_X0_copyFrom_3_0 zc hK hM va_S.rf (lv_sub hl [0, 1] rfl) hw
end
