-- m_trade
abbrev rm_m_trade : Room := { frames := 3, cells := 0, slots := 0, locals := 70 }
def q_m_trade_86 (P41 : Int32 → (Nat → Int32) → Prop) (P50 : Int32 → (Nat → Int32) → Prop) (f_code : Int32) (a_wins : Nat → Int32) (x1 : Int32) (x2 : Int32) (x3 : Int32) (x4 : Int32) (x5 : Int32) (x6 : Int32) (y0 : Int32) (y1 : Int32) (post : Int32 → (Int32) → (Nat → Int32) → Prop) : Prop :=
  vp_in y0 3721 ∧ (∀ a_wins_1 : Nat → Int32, a_wins_1 = upd a_wins (Int32.toNatClampNeg y0) (vp_nar .boolean y1) → (∀ v_1 : Int32, v_1 = x6 + (1 : Int32) → (P50 v_1 a_wins_1)))
def q_m_trade_50 (P41 : Int32 → (Nat → Int32) → Prop) (f_code : Int32) (a_wins : Nat → Int32) (x1 : Int32) (x2 : Int32) (x3 : Int32) (x4 : Int32) (x5 : Int32) (x6 : Int32) (post : Int32 → (Int32) → (Nat → Int32) → Prop) : Prop :=
  ∀ P50 : Int32 → (Nat → Int32) → Prop, (∀ (x6 : Int32) (a_wins : Nat → Int32), ((x2 < x6 → (∀ v_1 : Int32, v_1 = x5 + (1 : Int32) → (P41 v_1 a_wins))) ∧ (¬ x2 < x6 → (q_m_firstTake_0 a_wins x5 x6 x3 (fun r_1 => (r_1 = (-1 : Int32) → (q_m_trade_86 P41 P50 f_code a_wins x1 x2 x3 x4 x5 x6 (((61 : Int32) * x5) + x6) (0 : Int32) post)) ∧ (¬ r_1 = (-1 : Int32) → (q_m_trade_86 P41 P50 f_code a_wins x1 x2 x3 x4 x5 x6 (((61 : Int32) * x5) + x6) (1 : Int32) post)))))) → P50 x6 a_wins) → P50 x6 a_wins
def q_m_trade_41 (f_code : Int32) (a_wins : Nat → Int32) (x1 : Int32) (x2 : Int32) (x3 : Int32) (x4 : Int32) (x5 : Int32) (post : Int32 → (Int32) → (Nat → Int32) → Prop) : Prop :=
  ∀ P41 : Int32 → (Nat → Int32) → Prop, (∀ (x5 : Int32) (a_wins : Nat → Int32), ((x1 < x5 → ((x4 = 0 → (vp_in (((61 : Int32) * x1) + x2) 3721 ∧ (((a_wins (Int32.toNatClampNeg (((61 : Int32) * x1) + x2))) = 0 → (post (0 : Int32) f_code a_wins)) ∧ (¬ (a_wins (Int32.toNatClampNeg (((61 : Int32) * x1) + x2))) = 0 → (post (1 : Int32) f_code a_wins))))) ∧ (¬ x4 = 0 → (q_m_firstTake_0 a_wins x1 x2 x3 (fun r_1 => post r_1 f_code a_wins))))) ∧ (¬ x1 < x5 → (q_m_trade_50 P41 f_code a_wins x1 x2 x3 x4 x5 (0 : Int32) post))) → P41 x5 a_wins) → P41 x5 a_wins
def q_m_trade_0 (f_code : Int32) (a_wins : Nat → Int32) (x1 : Int32) (x2 : Int32) (x3 : Int32) (x4 : Int32) (post : Int32 → (Int32) → (Nat → Int32) → Prop) : Prop :=
  q_m_in_0 x1 (0 : Int32) (60 : Int32) (fun r_1 => (r_1 = 0 → (post (-2 : Int32) (0 : Int32) a_wins)) ∧ (¬ r_1 = 0 → (q_m_in_0 x2 (0 : Int32) (60 : Int32) (fun r_2 => (r_2 = 0 → (post (-2 : Int32) (0 : Int32) a_wins)) ∧ (¬ r_2 = 0 → (q_m_in_0 x3 (1 : Int32) (9 : Int32) (fun r_3 => (¬ r_3 = 0 → (q_m_trade_41 (0 : Int32) a_wins x1 x2 x3 x4 (0 : Int32) post)) ∧ (r_3 = 0 → (post (-2 : Int32) (0 : Int32) a_wins)))))))))
set_option maxRecDepth 20000 in
theorem t_m_trade_86 {p : Program} {l : Launch} {e : Env} {s : State} {m : MethodId} {args : Array Value} {below : List Frame} {meth : Method} {c : Code} {E : zE} {q : Nat} {f_code : Int32} {a_tape : Nat → Int32} {a_size : Nat → Int32} {a_fault : Nat → Int32} {a_faultPlace : Nat → Int32} {a_many : Nat → Int32} {a_lands : Nat → Int32} {a_evenings : Nat → Int32} {a_sights : Nat → Int32} {a_choirs : Nat → Int32} {f_reached : Int32} {f_length : Int32} {f_begins : Int32} {f_sort : Int32} {f_value : Int32} {f_word : Int64} {f_wrongAt : Int32} {f_laterFault : Int32} {f_laterPlace : Int32} {a_told : Nat → Int32} {a_read : Nat → Int32} {f_farHut : Int32} {f_farSinger : Int32} {f_good : Int32} {f_land : Int32} {f_huts : Int32} {f_singers : Int32} {f_evening : Int32} {a_at : Nat → Int32} {a_knows : Nat → Int32} {a_climbed : Nat → Int32} {a_snow : Nat → Int32} {a_level : Nat → Int32} {f_begun : Int32} {f_minute : Int32} {f_avalanches : Int32} {a_run : Nat → Int32} {a_covers : Nat → Int32} {a_routes : Nat → Int32} {a_longest : Nat → Int32} {a_steep : Nat → Int32} {a_laid : Nat → Int32} {a_far : Nat → Int32} {f_sight : Int32} {a_runs : Nat → Int32} {f_choir : Int32} {f_voices : Int32} {a_rest : Nat → Int64} {a_wins : Nat → Int32} {f_seed : Int32} {a_other : Nat → Int32} {a_kept : Nat → Int32} {P41 : Int32 → (Nat → Int32) → Prop} {P50 : Int32 → (Nat → Int32) → Prop} {post : Int32 → (Int32) → (Nat → Int32) → Prop} {x1 : Int32} {x2 : Int32} {x3 : Int32} {x4 : Int32} {x5 : Int32} {x6 : Int32} {y0 : Int32} {y1 : Int32} {ls : Array Slot} {H : Heap} {locs : List Loc}
    (zc : zC p s m args meth c cX11_trade 7 RX11 (some .int))
    (hK : zK E s)
    (hM : mW E q f_code a_tape a_size a_fault a_faultPlace a_many a_lands a_evenings a_sights a_choirs f_reached f_length f_begins f_sort f_value f_word f_wrongAt f_laterFault f_laterPlace a_told a_read f_farHut f_farSinger f_good f_land f_huts f_singers f_evening a_at a_knows a_climbed a_snow a_level f_begun f_minute f_avalanches a_run a_covers a_routes a_longest a_steep a_laid a_far f_sight a_runs f_choir f_voices a_rest a_wins f_seed a_other a_kept H)
    (hS : va_S (mA q) s.heap H locs)
    (hP41 : ∀ (x5 : Int32) (a_wins : Nat → Int32) (H : Heap) (locs : List Loc) (ls : Array Slot), P41 x5 a_wins → lv_has ls 7 [(0, .ref q), (1, .int x1), (2, .int x2), (3, .int x3), (4, .int x4), (5, .int x5)] → mW E q f_code a_tape a_size a_fault a_faultPlace a_many a_lands a_evenings a_sights a_choirs f_reached f_length f_begins f_sort f_value f_word f_wrongAt f_laterFault f_laterPlace a_told a_read f_farHut f_farSinger f_good f_land f_huts f_singers f_evening a_at a_knows a_climbed a_snow a_level f_begun f_minute f_avalanches a_run a_covers a_routes a_longest a_steep a_laid a_far f_sight a_runs f_choir f_voices a_rest a_wins f_seed a_other a_kept H → va_S (mA q) s.heap H locs → W p l e rm_m_trade s m args below meth c H locs 0 0 (MQ below (zQi (S := (Int32) × (Nat → Int32)) (fun r u => post r u.1 u.2) (fun u H => mW E q u.1 a_tape a_size a_fault a_faultPlace a_many a_lands a_evenings a_sights a_choirs f_reached f_length f_begins f_sort f_value f_word f_wrongAt f_laterFault f_laterPlace a_told a_read f_farHut f_farSinger f_good f_land f_huts f_singers f_evening a_at a_knows a_climbed a_snow a_level f_begun f_minute f_avalanches a_run a_covers a_routes a_longest a_steep a_laid a_far f_sight a_runs f_choir f_voices a_rest u.2 f_seed a_other a_kept H) (mA q)) args s 0 0 (mA q)) (F0 m 41 ls []))
    (hP50 : ∀ (x6 : Int32) (a_wins : Nat → Int32) (H : Heap) (locs : List Loc) (ls : Array Slot), P50 x6 a_wins → lv_has ls 7 [(0, .ref q), (1, .int x1), (2, .int x2), (3, .int x3), (4, .int x4), (5, .int x5), (6, .int x6)] → mW E q f_code a_tape a_size a_fault a_faultPlace a_many a_lands a_evenings a_sights a_choirs f_reached f_length f_begins f_sort f_value f_word f_wrongAt f_laterFault f_laterPlace a_told a_read f_farHut f_farSinger f_good f_land f_huts f_singers f_evening a_at a_knows a_climbed a_snow a_level f_begun f_minute f_avalanches a_run a_covers a_routes a_longest a_steep a_laid a_far f_sight a_runs f_choir f_voices a_rest a_wins f_seed a_other a_kept H → va_S (mA q) s.heap H locs → W p l e rm_m_trade s m args below meth c H locs 0 0 (MQ below (zQi (S := (Int32) × (Nat → Int32)) (fun r u => post r u.1 u.2) (fun u H => mW E q u.1 a_tape a_size a_fault a_faultPlace a_many a_lands a_evenings a_sights a_choirs f_reached f_length f_begins f_sort f_value f_word f_wrongAt f_laterFault f_laterPlace a_told a_read f_farHut f_farSinger f_good f_land f_huts f_singers f_evening a_at a_knows a_climbed a_snow a_level f_begun f_minute f_avalanches a_run a_covers a_routes a_longest a_steep a_laid a_far f_sight a_runs f_choir f_voices a_rest u.2 f_seed a_other a_kept H) (mA q)) args s 0 0 (mA q)) (F0 m 50 ls []))
    (hl : lv_has ls 7 [(0, .ref q), (1, .int x1), (2, .int x2), (3, .int x3), (4, .int x4), (5, .int x5), (6, .int x6)])
    (hw : q_m_trade_86 P41 P50 f_code a_wins x1 x2 x3 x4 x5 x6 y0 y1 post) :
    W p l e rm_m_trade s m args below meth c H locs 0 0 (MQ below (zQi (S := (Int32) × (Nat → Int32)) (fun r u => post r u.1 u.2) (fun u H => mW E q u.1 a_tape a_size a_fault a_faultPlace a_many a_lands a_evenings a_sights a_choirs f_reached f_length f_begins f_sort f_value f_word f_wrongAt f_laterFault f_laterPlace a_told a_read f_farHut f_farSinger f_good f_land f_huts f_singers f_evening a_at a_knows a_climbed a_snow a_level f_begun f_minute f_avalanches a_run a_covers a_routes a_longest a_steep a_laid a_far f_sight a_runs f_choir f_voices a_rest u.2 f_seed a_other a_kept H) (mA q)) args s 0 0 (mA q)) (F0 m 86 ls [.int y1, .int y0, .ref (q + 26)]) := by
  have hx := zc.1
  have hb := zc.2.1
  refine mst_26 zc hK hM hS hw.1 dX11_trade_86 (fun a_wins_1 H locs ea_wins_1 hM hS => ?_)
  have hw := hw.2 a_wins_1 ea_wins_1
  obtain ⟨v_1, ev_1⟩ : ∃ y : Int32, y = x6 + (1 : Int32) := ⟨_, rfl⟩
  have hw := hw v_1 ev_1
  refine lv_iinc (v := v_1) (k := 6) (lv' := [(6, .int v_1), (0, .ref q), (1, .int x1), (2, .int x2), (3, .int x3), (4, .int x4), (5, .int x5)]) hx hb dX11_trade_87 hl rfl (by rw [ev_1]; rfl) (by decide) rfl (fun ls hl => ?_)
  refine lv_goto (tgt := 50) hx hb dX11_trade_90 (by decide) ?_
  exact hP50 _ _ _ _ _ hw (lv_sub hl [1, 2, 3, 4, 5, 6, 0] rfl) hM hS
set_option maxRecDepth 20000 in
theorem t_m_trade_50 {p : Program} {l : Launch} {e : Env} {s : State} {m : MethodId} {args : Array Value} {below : List Frame} {meth : Method} {c : Code} {E : zE} {q : Nat} {f_code : Int32} {a_tape : Nat → Int32} {a_size : Nat → Int32} {a_fault : Nat → Int32} {a_faultPlace : Nat → Int32} {a_many : Nat → Int32} {a_lands : Nat → Int32} {a_evenings : Nat → Int32} {a_sights : Nat → Int32} {a_choirs : Nat → Int32} {f_reached : Int32} {f_length : Int32} {f_begins : Int32} {f_sort : Int32} {f_value : Int32} {f_word : Int64} {f_wrongAt : Int32} {f_laterFault : Int32} {f_laterPlace : Int32} {a_told : Nat → Int32} {a_read : Nat → Int32} {f_farHut : Int32} {f_farSinger : Int32} {f_good : Int32} {f_land : Int32} {f_huts : Int32} {f_singers : Int32} {f_evening : Int32} {a_at : Nat → Int32} {a_knows : Nat → Int32} {a_climbed : Nat → Int32} {a_snow : Nat → Int32} {a_level : Nat → Int32} {f_begun : Int32} {f_minute : Int32} {f_avalanches : Int32} {a_run : Nat → Int32} {a_covers : Nat → Int32} {a_routes : Nat → Int32} {a_longest : Nat → Int32} {a_steep : Nat → Int32} {a_laid : Nat → Int32} {a_far : Nat → Int32} {f_sight : Int32} {a_runs : Nat → Int32} {f_choir : Int32} {f_voices : Int32} {a_rest : Nat → Int64} {a_wins : Nat → Int32} {f_seed : Int32} {a_other : Nat → Int32} {a_kept : Nat → Int32} {P41 : Int32 → (Nat → Int32) → Prop} {post : Int32 → (Int32) → (Nat → Int32) → Prop} {x1 : Int32} {x2 : Int32} {x3 : Int32} {x4 : Int32} {x5 : Int32} {x6 : Int32} {ls : Array Slot} {H : Heap} {locs : List Loc}
    (zc : zC p s m args meth c cX11_trade 7 RX11 (some .int))
    (hK : zK E s)
    (hM : mW E q f_code a_tape a_size a_fault a_faultPlace a_many a_lands a_evenings a_sights a_choirs f_reached f_length f_begins f_sort f_value f_word f_wrongAt f_laterFault f_laterPlace a_told a_read f_farHut f_farSinger f_good f_land f_huts f_singers f_evening a_at a_knows a_climbed a_snow a_level f_begun f_minute f_avalanches a_run a_covers a_routes a_longest a_steep a_laid a_far f_sight a_runs f_choir f_voices a_rest a_wins f_seed a_other a_kept H)
    (hS : va_S (mA q) s.heap H locs)
    (hP41 : ∀ (x5 : Int32) (a_wins : Nat → Int32) (H : Heap) (locs : List Loc) (ls : Array Slot), P41 x5 a_wins → lv_has ls 7 [(0, .ref q), (1, .int x1), (2, .int x2), (3, .int x3), (4, .int x4), (5, .int x5)] → mW E q f_code a_tape a_size a_fault a_faultPlace a_many a_lands a_evenings a_sights a_choirs f_reached f_length f_begins f_sort f_value f_word f_wrongAt f_laterFault f_laterPlace a_told a_read f_farHut f_farSinger f_good f_land f_huts f_singers f_evening a_at a_knows a_climbed a_snow a_level f_begun f_minute f_avalanches a_run a_covers a_routes a_longest a_steep a_laid a_far f_sight a_runs f_choir f_voices a_rest a_wins f_seed a_other a_kept H → va_S (mA q) s.heap H locs → W p l e rm_m_trade s m args below meth c H locs 0 0 (MQ below (zQi (S := (Int32) × (Nat → Int32)) (fun r u => post r u.1 u.2) (fun u H => mW E q u.1 a_tape a_size a_fault a_faultPlace a_many a_lands a_evenings a_sights a_choirs f_reached f_length f_begins f_sort f_value f_word f_wrongAt f_laterFault f_laterPlace a_told a_read f_farHut f_farSinger f_good f_land f_huts f_singers f_evening a_at a_knows a_climbed a_snow a_level f_begun f_minute f_avalanches a_run a_covers a_routes a_longest a_steep a_laid a_far f_sight a_runs f_choir f_voices a_rest u.2 f_seed a_other a_kept H) (mA q)) args s 0 0 (mA q)) (F0 m 41 ls []))
    (hl : lv_has ls 7 [(0, .ref q), (1, .int x1), (2, .int x2), (3, .int x3), (4, .int x4), (5, .int x5), (6, .int x6)])
    (hw : q_m_trade_50 P41 f_code a_wins x1 x2 x3 x4 x5 x6 post) :
    W p l e rm_m_trade s m args below meth c H locs 0 0 (MQ below (zQi (S := (Int32) × (Nat → Int32)) (fun r u => post r u.1 u.2) (fun u H => mW E q u.1 a_tape a_size a_fault a_faultPlace a_many a_lands a_evenings a_sights a_choirs f_reached f_length f_begins f_sort f_value f_word f_wrongAt f_laterFault f_laterPlace a_told a_read f_farHut f_farSinger f_good f_land f_huts f_singers f_evening a_at a_knows a_climbed a_snow a_level f_begun f_minute f_avalanches a_run a_covers a_routes a_longest a_steep a_laid a_far f_sight a_runs f_choir f_voices a_rest u.2 f_seed a_other a_kept H) (mA q)) args s 0 0 (mA q)) (F0 m 50 ls []) := by
  have hx := zc.1
  have hb := zc.2.1
  refine hw (fun x6 a_wins => ∀ (H : Heap) (locs : List Loc) (ls : Array Slot), lv_has ls 7 [(0, .ref q), (1, .int x1), (2, .int x2), (3, .int x3), (4, .int x4), (5, .int x5), (6, .int x6)] → mW E q f_code a_tape a_size a_fault a_faultPlace a_many a_lands a_evenings a_sights a_choirs f_reached f_length f_begins f_sort f_value f_word f_wrongAt f_laterFault f_laterPlace a_told a_read f_farHut f_farSinger f_good f_land f_huts f_singers f_evening a_at a_knows a_climbed a_snow a_level f_begun f_minute f_avalanches a_run a_covers a_routes a_longest a_steep a_laid a_far f_sight a_runs f_choir f_voices a_rest a_wins f_seed a_other a_kept H → va_S (mA q) s.heap H locs → W p l e rm_m_trade s m args below meth c H locs 0 0 (MQ below (zQi (S := (Int32) × (Nat → Int32)) (fun r u => post r u.1 u.2) (fun u H => mW E q u.1 a_tape a_size a_fault a_faultPlace a_many a_lands a_evenings a_sights a_choirs f_reached f_length f_begins f_sort f_value f_word f_wrongAt f_laterFault f_laterPlace a_told a_read f_farHut f_farSinger f_good f_land f_huts f_singers f_evening a_at a_knows a_climbed a_snow a_level f_begun f_minute f_avalanches a_run a_covers a_routes a_longest a_steep a_laid a_far f_sight a_runs f_choir f_voices a_rest u.2 f_seed a_other a_kept H) (mA q)) args s 0 0 (mA q)) (F0 m 50 ls [])) ?_ _ _ _ hl hM hS
  intro x6 a_wins hw H locs ls hl hM hS
  refine lv_iload hx hb dX11_trade_50 (lv_at hl 6 rfl) ?_
  refine lv_iload_n hx hb dX11_trade_52 rfl (lv_at hl 2 rfl) ?_
  refine lv_icmp_gt (tgt := 93) hx hb dX11_trade_53 (by decide) (fun hc => ?_) (fun hc => ?_)
  · have hw := hw.1 hc
    obtain ⟨v_1, ev_1⟩ : ∃ y : Int32, y = x5 + (1 : Int32) := ⟨_, rfl⟩
    have hw := hw v_1 ev_1
    refine lv_iinc (v := v_1) (k := 5) (lv' := [(5, .int v_1), (0, .ref q), (1, .int x1), (2, .int x2), (3, .int x3), (4, .int x4), (6, .int x6)]) hx hb dX11_trade_93 hl rfl (by rw [ev_1]; rfl) (by decide) rfl (fun ls hl => ?_)
    refine lv_goto (tgt := 41) hx hb dX11_trade_96 (by decide) ?_
    exact hP41 _ _ _ _ _ hw (lv_sub hl [1, 2, 3, 4, 5, 0] rfl) hM hS
  · have hw := hw.2 hc
    refine lv_aload_n hx hb dX11_trade_56 rfl (lv_at hl 0 rfl) ?_
    refine mg_11_88_0 zc hK hM dX11_trade_57 ?_
    refine lv_bipush (v := (61 : Int32)) hx hb dX11_trade_60 (by decide) ?_
    refine lv_iload hx hb dX11_trade_62 (lv_at hl 5 rfl) ?_
    refine lv_imul hx hb dX11_trade_64 ?_
    refine lv_iload hx hb dX11_trade_65 (lv_at hl 6 rfl) ?_
    refine lv_iadd hx hb dX11_trade_67 ?_
    refine lv_aload_n hx hb dX11_trade_68 rfl (lv_at hl 0 rfl) ?_
    refine lv_iload hx hb dX11_trade_69 (lv_at hl 5 rfl) ?_
    refine lv_iload hx hb dX11_trade_71 (lv_at hl 6 rfl) ?_
    refine lv_iload_n hx hb dX11_trade_73 rfl (lv_at hl 3 rfl) ?_
    refine zV_i [.int x5, .int x6, .int x3] [.int (((61 : Int32) * x5) + x6), .ref (q + 26)] zc ky_X11_firstTake kz_X11_firstTake km_11_511 (c_m_firstTake l hw) (mPreV0 hK hM) rfl rfl hl.1 (Nat.le_of_ble_eq_true rfl) ⟨rfl, rfl⟩ ⟨Nat.le_of_ble_eq_true rfl, Nat.le_of_ble_eq_true rfl⟩ ⟨Nat.zero_le _, Nat.zero_le _⟩ dX11_trade_74 (fun r_1 hw => ?_)
    refine lv_iconst (v := (-1 : Int32)) hx hb dX11_trade_77 (by decide) ?_
    refine lv_icmp_eq (tgt := 85) hx hb dX11_trade_78 (by decide) (fun hc => ?_) (fun hc => ?_)
    · have hw := hw.1 hc
      refine lv_iconst (v := (0 : Int32)) hx hb dX11_trade_85 (by decide) ?_
      exact t_m_trade_86 zc hK hM hS hP41 (fun _ _ H locs ls h hl hM hS => h H locs ls hl hM hS) (lv_sub hl [0, 1, 2, 3, 4, 5, 6] rfl) hw
    · have hw := hw.2 hc
      refine lv_iconst (v := (1 : Int32)) hx hb dX11_trade_81 (by decide) ?_
      refine lv_goto (tgt := 86) hx hb dX11_trade_82 (by decide) ?_
      exact t_m_trade_86 zc hK hM hS hP41 (fun _ _ H locs ls h hl hM hS => h H locs ls hl hM hS) (lv_sub hl [0, 1, 2, 3, 4, 5, 6] rfl) hw
set_option maxRecDepth 20000 in
theorem t_m_trade_41 {p : Program} {l : Launch} {e : Env} {s : State} {m : MethodId} {args : Array Value} {below : List Frame} {meth : Method} {c : Code} {E : zE} {q : Nat} {f_code : Int32} {a_tape : Nat → Int32} {a_size : Nat → Int32} {a_fault : Nat → Int32} {a_faultPlace : Nat → Int32} {a_many : Nat → Int32} {a_lands : Nat → Int32} {a_evenings : Nat → Int32} {a_sights : Nat → Int32} {a_choirs : Nat → Int32} {f_reached : Int32} {f_length : Int32} {f_begins : Int32} {f_sort : Int32} {f_value : Int32} {f_word : Int64} {f_wrongAt : Int32} {f_laterFault : Int32} {f_laterPlace : Int32} {a_told : Nat → Int32} {a_read : Nat → Int32} {f_farHut : Int32} {f_farSinger : Int32} {f_good : Int32} {f_land : Int32} {f_huts : Int32} {f_singers : Int32} {f_evening : Int32} {a_at : Nat → Int32} {a_knows : Nat → Int32} {a_climbed : Nat → Int32} {a_snow : Nat → Int32} {a_level : Nat → Int32} {f_begun : Int32} {f_minute : Int32} {f_avalanches : Int32} {a_run : Nat → Int32} {a_covers : Nat → Int32} {a_routes : Nat → Int32} {a_longest : Nat → Int32} {a_steep : Nat → Int32} {a_laid : Nat → Int32} {a_far : Nat → Int32} {f_sight : Int32} {a_runs : Nat → Int32} {f_choir : Int32} {f_voices : Int32} {a_rest : Nat → Int64} {a_wins : Nat → Int32} {f_seed : Int32} {a_other : Nat → Int32} {a_kept : Nat → Int32} {post : Int32 → (Int32) → (Nat → Int32) → Prop} {x1 : Int32} {x2 : Int32} {x3 : Int32} {x4 : Int32} {x5 : Int32} {ls : Array Slot} {H : Heap} {locs : List Loc}
    (zc : zC p s m args meth c cX11_trade 7 RX11 (some .int))
    (hK : zK E s)
    (hM : mW E q f_code a_tape a_size a_fault a_faultPlace a_many a_lands a_evenings a_sights a_choirs f_reached f_length f_begins f_sort f_value f_word f_wrongAt f_laterFault f_laterPlace a_told a_read f_farHut f_farSinger f_good f_land f_huts f_singers f_evening a_at a_knows a_climbed a_snow a_level f_begun f_minute f_avalanches a_run a_covers a_routes a_longest a_steep a_laid a_far f_sight a_runs f_choir f_voices a_rest a_wins f_seed a_other a_kept H)
    (hS : va_S (mA q) s.heap H locs)
    (hl : lv_has ls 7 [(0, .ref q), (1, .int x1), (2, .int x2), (3, .int x3), (4, .int x4), (5, .int x5)])
    (hw : q_m_trade_41 f_code a_wins x1 x2 x3 x4 x5 post) :
    W p l e rm_m_trade s m args below meth c H locs 0 0 (MQ below (zQi (S := (Int32) × (Nat → Int32)) (fun r u => post r u.1 u.2) (fun u H => mW E q u.1 a_tape a_size a_fault a_faultPlace a_many a_lands a_evenings a_sights a_choirs f_reached f_length f_begins f_sort f_value f_word f_wrongAt f_laterFault f_laterPlace a_told a_read f_farHut f_farSinger f_good f_land f_huts f_singers f_evening a_at a_knows a_climbed a_snow a_level f_begun f_minute f_avalanches a_run a_covers a_routes a_longest a_steep a_laid a_far f_sight a_runs f_choir f_voices a_rest u.2 f_seed a_other a_kept H) (mA q)) args s 0 0 (mA q)) (F0 m 41 ls []) := by
  have hx := zc.1
  have hb := zc.2.1
  refine hw (fun x5 a_wins => ∀ (H : Heap) (locs : List Loc) (ls : Array Slot), lv_has ls 7 [(0, .ref q), (1, .int x1), (2, .int x2), (3, .int x3), (4, .int x4), (5, .int x5)] → mW E q f_code a_tape a_size a_fault a_faultPlace a_many a_lands a_evenings a_sights a_choirs f_reached f_length f_begins f_sort f_value f_word f_wrongAt f_laterFault f_laterPlace a_told a_read f_farHut f_farSinger f_good f_land f_huts f_singers f_evening a_at a_knows a_climbed a_snow a_level f_begun f_minute f_avalanches a_run a_covers a_routes a_longest a_steep a_laid a_far f_sight a_runs f_choir f_voices a_rest a_wins f_seed a_other a_kept H → va_S (mA q) s.heap H locs → W p l e rm_m_trade s m args below meth c H locs 0 0 (MQ below (zQi (S := (Int32) × (Nat → Int32)) (fun r u => post r u.1 u.2) (fun u H => mW E q u.1 a_tape a_size a_fault a_faultPlace a_many a_lands a_evenings a_sights a_choirs f_reached f_length f_begins f_sort f_value f_word f_wrongAt f_laterFault f_laterPlace a_told a_read f_farHut f_farSinger f_good f_land f_huts f_singers f_evening a_at a_knows a_climbed a_snow a_level f_begun f_minute f_avalanches a_run a_covers a_routes a_longest a_steep a_laid a_far f_sight a_runs f_choir f_voices a_rest u.2 f_seed a_other a_kept H) (mA q)) args s 0 0 (mA q)) (F0 m 41 ls [])) ?_ _ _ _ hl hM hS
  intro x5 a_wins hw H locs ls hl hM hS
  refine lv_iload hx hb dX11_trade_41 (lv_at hl 5 rfl) ?_
  refine lv_iload_n hx hb dX11_trade_43 rfl (lv_at hl 1 rfl) ?_
  refine lv_icmp_gt (tgt := 99) hx hb dX11_trade_44 (by decide) (fun hc => ?_) (fun hc => ?_)
  · have hw := hw.1 hc
    refine lv_iload hx hb dX11_trade_99 (lv_at hl 4 rfl) ?_
    refine lv_if_eq (tgt := 114) hx hb dX11_trade_101 (by decide) (fun hc => ?_) (fun hc => ?_)
    · have hw := hw.1 hc
      refine lv_aload_n hx hb dX11_trade_114 rfl (lv_at hl 0 rfl) ?_
      refine mg_11_88_0 zc hK hM dX11_trade_115 ?_
      refine lv_bipush (v := (61 : Int32)) hx hb dX11_trade_118 (by decide) ?_
      refine lv_iload_n hx hb dX11_trade_120 rfl (lv_at hl 1 rfl) ?_
      refine lv_imul hx hb dX11_trade_121 ?_
      refine lv_iload_n hx hb dX11_trade_122 rfl (lv_at hl 2 rfl) ?_
      refine lv_iadd hx hb dX11_trade_123 ?_
      refine mld_26 zc hK hM hw.1 dX11_trade_124 ?_
      have hw := hw.2
      refine lv_if_eq (tgt := 132) hx hb dX11_trade_125 (by decide) (fun hc => ?_) (fun hc => ?_)
      · have hw := hw.1 hc
        refine lv_iconst (v := (0 : Int32)) hx hb dX11_trade_132 (by decide) ?_
        exact zret_iw ⟨f_code, a_wins⟩ zc hS hw hM dX11_trade_133
      · have hw := hw.2 hc
        refine lv_iconst (v := (1 : Int32)) hx hb dX11_trade_128 (by decide) ?_
        refine lv_goto (tgt := 133) hx hb dX11_trade_129 (by decide) ?_
        exact zret_iw ⟨f_code, a_wins⟩ zc hS hw hM dX11_trade_133
    · have hw := hw.2 hc
      refine lv_aload_n hx hb dX11_trade_104 rfl (lv_at hl 0 rfl) ?_
      refine lv_iload_n hx hb dX11_trade_105 rfl (lv_at hl 1 rfl) ?_
      refine lv_iload_n hx hb dX11_trade_106 rfl (lv_at hl 2 rfl) ?_
      refine lv_iload_n hx hb dX11_trade_107 rfl (lv_at hl 3 rfl) ?_
      refine zV_i [.int x1, .int x2, .int x3] [] zc ky_X11_firstTake kz_X11_firstTake km_11_511 (c_m_firstTake l hw) (mPreV0 hK hM) rfl rfl hl.1 (Nat.le_of_ble_eq_true rfl) ⟨rfl, rfl⟩ ⟨Nat.le_of_ble_eq_true rfl, Nat.le_of_ble_eq_true rfl⟩ ⟨Nat.zero_le _, Nat.zero_le _⟩ dX11_trade_108 (fun r_1 hw => ?_)
      refine lv_goto (tgt := 133) hx hb dX11_trade_111 (by decide) ?_
      exact zret_iw ⟨f_code, a_wins⟩ zc hS hw hM dX11_trade_133
  · have hw := hw.2 hc
    refine lv_iconst (v := (0 : Int32)) hx hb dX11_trade_47 (by decide) ?_
    refine lv_istore (lv' := [(6, .int (0 : Int32)), (0, .ref q), (1, .int x1), (2, .int x2), (3, .int x3), (4, .int x4), (5, .int x5)]) hx hb dX11_trade_48 hl (by decide) rfl (fun ls hl => ?_)
    exact t_m_trade_50 zc hK hM hS (fun _ _ H locs ls h hl hM hS => h H locs ls hl hM hS) (lv_sub hl [1, 2, 3, 4, 5, 6, 0] rfl) hw
set_option maxRecDepth 20000 in
theorem t_m_trade_0 {p : Program} {l : Launch} {e : Env} {s : State} {m : MethodId} {args : Array Value} {below : List Frame} {meth : Method} {c : Code} {E : zE} {q : Nat} {f_code : Int32} {a_tape : Nat → Int32} {a_size : Nat → Int32} {a_fault : Nat → Int32} {a_faultPlace : Nat → Int32} {a_many : Nat → Int32} {a_lands : Nat → Int32} {a_evenings : Nat → Int32} {a_sights : Nat → Int32} {a_choirs : Nat → Int32} {f_reached : Int32} {f_length : Int32} {f_begins : Int32} {f_sort : Int32} {f_value : Int32} {f_word : Int64} {f_wrongAt : Int32} {f_laterFault : Int32} {f_laterPlace : Int32} {a_told : Nat → Int32} {a_read : Nat → Int32} {f_farHut : Int32} {f_farSinger : Int32} {f_good : Int32} {f_land : Int32} {f_huts : Int32} {f_singers : Int32} {f_evening : Int32} {a_at : Nat → Int32} {a_knows : Nat → Int32} {a_climbed : Nat → Int32} {a_snow : Nat → Int32} {a_level : Nat → Int32} {f_begun : Int32} {f_minute : Int32} {f_avalanches : Int32} {a_run : Nat → Int32} {a_covers : Nat → Int32} {a_routes : Nat → Int32} {a_longest : Nat → Int32} {a_steep : Nat → Int32} {a_laid : Nat → Int32} {a_far : Nat → Int32} {f_sight : Int32} {a_runs : Nat → Int32} {f_choir : Int32} {f_voices : Int32} {a_rest : Nat → Int64} {a_wins : Nat → Int32} {f_seed : Int32} {a_other : Nat → Int32} {a_kept : Nat → Int32} {post : Int32 → (Int32) → (Nat → Int32) → Prop} {x1 : Int32} {x2 : Int32} {x3 : Int32} {x4 : Int32} {ls : Array Slot} {H : Heap} {locs : List Loc}
    (zc : zC p s m args meth c cX11_trade 7 RX11 (some .int))
    (hK : zK E s)
    (hM : mW E q f_code a_tape a_size a_fault a_faultPlace a_many a_lands a_evenings a_sights a_choirs f_reached f_length f_begins f_sort f_value f_word f_wrongAt f_laterFault f_laterPlace a_told a_read f_farHut f_farSinger f_good f_land f_huts f_singers f_evening a_at a_knows a_climbed a_snow a_level f_begun f_minute f_avalanches a_run a_covers a_routes a_longest a_steep a_laid a_far f_sight a_runs f_choir f_voices a_rest a_wins f_seed a_other a_kept H)
    (hS : va_S (mA q) s.heap H locs)
    (hl : lv_has ls 7 [(0, .ref q), (1, .int x1), (2, .int x2), (3, .int x3), (4, .int x4)])
    (hw : q_m_trade_0 f_code a_wins x1 x2 x3 x4 post) :
    W p l e rm_m_trade s m args below meth c H locs 0 0 (MQ below (zQi (S := (Int32) × (Nat → Int32)) (fun r u => post r u.1 u.2) (fun u H => mW E q u.1 a_tape a_size a_fault a_faultPlace a_many a_lands a_evenings a_sights a_choirs f_reached f_length f_begins f_sort f_value f_word f_wrongAt f_laterFault f_laterPlace a_told a_read f_farHut f_farSinger f_good f_land f_huts f_singers f_evening a_at a_knows a_climbed a_snow a_level f_begun f_minute f_avalanches a_run a_covers a_routes a_longest a_steep a_laid a_far f_sight a_runs f_choir f_voices a_rest u.2 f_seed a_other a_kept H) (mA q)) args s 0 0 (mA q)) (F0 m 0 ls []) := by
  have hx := zc.1
  have hb := zc.2.1
  refine lv_aload_n hx hb dX11_trade_0 rfl (lv_at hl 0 rfl) ?_
  refine lv_iconst (v := (0 : Int32)) hx hb dX11_trade_1 (by decide) ?_
  refine mp_11_97_0 zc hK hM hS dX11_trade_2 (fun H locs hM hS => ?_)
  refine lv_iload_n hx hb dX11_trade_5 rfl (lv_at hl 1 rfl) ?_
  refine lv_iconst (v := (0 : Int32)) hx hb dX11_trade_6 (by decide) ?_
  refine lv_bipush (v := (60 : Int32)) hx hb dX11_trade_7 (by decide) ?_
  refine zS_i [.int x1, .int (0 : Int32), .int (60 : Int32)] [] zc ky_X11_in kz_X11_in km_11_109 (c_m_in l hw) (zPre0 _) rfl rfl hl.1 (Nat.le_of_ble_eq_true rfl) ⟨rfl, rfl⟩ ⟨Nat.le_of_ble_eq_true rfl, Nat.le_of_ble_eq_true rfl⟩ ⟨Nat.zero_le _, Nat.zero_le _⟩ dX11_trade_9 (fun r_1 hw => ?_)
  refine lv_if_eq (tgt := 35) hx hb dX11_trade_12 (by decide) (fun hc => ?_) (fun hc => ?_)
  · have hw := hw.1 hc
    refine lv_bipush (v := (-2 : Int32)) hx hb dX11_trade_35 (by decide) ?_
    exact zret_iw ⟨(0 : Int32), a_wins⟩ zc hS hw hM dX11_trade_37
  · have hw := hw.2 hc
    refine lv_iload_n hx hb dX11_trade_15 rfl (lv_at hl 2 rfl) ?_
    refine lv_iconst (v := (0 : Int32)) hx hb dX11_trade_16 (by decide) ?_
    refine lv_bipush (v := (60 : Int32)) hx hb dX11_trade_17 (by decide) ?_
    refine zS_i [.int x2, .int (0 : Int32), .int (60 : Int32)] [] zc ky_X11_in kz_X11_in km_11_109 (c_m_in l hw) (zPre0 _) rfl rfl hl.1 (Nat.le_of_ble_eq_true rfl) ⟨rfl, rfl⟩ ⟨Nat.le_of_ble_eq_true rfl, Nat.le_of_ble_eq_true rfl⟩ ⟨Nat.zero_le _, Nat.zero_le _⟩ dX11_trade_19 (fun r_2 hw => ?_)
    refine lv_if_eq (tgt := 35) hx hb dX11_trade_22 (by decide) (fun hc => ?_) (fun hc => ?_)
    · have hw := hw.1 hc
      refine lv_bipush (v := (-2 : Int32)) hx hb dX11_trade_35 (by decide) ?_
      exact zret_iw ⟨(0 : Int32), a_wins⟩ zc hS hw hM dX11_trade_37
    · have hw := hw.2 hc
      refine lv_iload_n hx hb dX11_trade_25 rfl (lv_at hl 3 rfl) ?_
      refine lv_iconst (v := (1 : Int32)) hx hb dX11_trade_26 (by decide) ?_
      refine lv_bipush (v := (9 : Int32)) hx hb dX11_trade_27 (by decide) ?_
      refine zS_i [.int x3, .int (1 : Int32), .int (9 : Int32)] [] zc ky_X11_in kz_X11_in km_11_109 (c_m_in l hw) (zPre0 _) rfl rfl hl.1 (Nat.le_of_ble_eq_true rfl) ⟨rfl, rfl⟩ ⟨Nat.le_of_ble_eq_true rfl, Nat.le_of_ble_eq_true rfl⟩ ⟨Nat.zero_le _, Nat.zero_le _⟩ dX11_trade_29 (fun r_3 hw => ?_)
      refine lv_if_ne (tgt := 38) hx hb dX11_trade_32 (by decide) (fun hc => ?_) (fun hc => ?_)
      · have hw := hw.1 hc
        refine lv_iconst (v := (0 : Int32)) hx hb dX11_trade_38 (by decide) ?_
        refine lv_istore (lv' := [(5, .int (0 : Int32)), (0, .ref q), (1, .int x1), (2, .int x2), (3, .int x3), (4, .int x4)]) hx hb dX11_trade_39 hl (by decide) rfl (fun ls hl => ?_)
        exact t_m_trade_41 zc hK hM hS  (lv_sub hl [1, 2, 3, 4, 5, 0] rfl) hw
      · have hw := hw.2 hc
        refine lv_bipush (v := (-2 : Int32)) hx hb dX11_trade_35 (by decide) ?_
        exact zret_iw ⟨(0 : Int32), a_wins⟩ zc hS hw hM dX11_trade_37
set_option maxRecDepth 20000 in
theorem c_m_trade (l : Launch) {E : zE} {q : Nat} {f_code : Int32} {a_tape : Nat → Int32} {a_size : Nat → Int32} {a_fault : Nat → Int32} {a_faultPlace : Nat → Int32} {a_many : Nat → Int32} {a_lands : Nat → Int32} {a_evenings : Nat → Int32} {a_sights : Nat → Int32} {a_choirs : Nat → Int32} {f_reached : Int32} {f_length : Int32} {f_begins : Int32} {f_sort : Int32} {f_value : Int32} {f_word : Int64} {f_wrongAt : Int32} {f_laterFault : Int32} {f_laterPlace : Int32} {a_told : Nat → Int32} {a_read : Nat → Int32} {f_farHut : Int32} {f_farSinger : Int32} {f_good : Int32} {f_land : Int32} {f_huts : Int32} {f_singers : Int32} {f_evening : Int32} {a_at : Nat → Int32} {a_knows : Nat → Int32} {a_climbed : Nat → Int32} {a_snow : Nat → Int32} {a_level : Nat → Int32} {f_begun : Int32} {f_minute : Int32} {f_avalanches : Int32} {a_run : Nat → Int32} {a_covers : Nat → Int32} {a_routes : Nat → Int32} {a_longest : Nat → Int32} {a_steep : Nat → Int32} {a_laid : Nat → Int32} {a_far : Nat → Int32} {f_sight : Int32} {a_runs : Nat → Int32} {f_choir : Int32} {f_voices : Int32} {a_rest : Nat → Int64} {a_wins : Nat → Int32} {f_seed : Int32} {a_other : Nat → Int32} {a_kept : Nat → Int32} {x1 : Int32} {x2 : Int32} {x3 : Int32} {x4 : Int32} {post : Int32 → (Int32) → (Nat → Int32) → Prop} (hw : q_m_trade_0 f_code a_wins x1 x2 x3 x4 post) : Met l yX11_trade (Cond.code yX11_trade cX11_trade 7 (some .int) :: zb) rm_m_trade (va_Pc [.ref q, .int x1, .int x2, .int x3, .int x4] (fun U => mW E q f_code a_tape a_size a_fault a_faultPlace a_many a_lands a_evenings a_sights a_choirs f_reached f_length f_begins f_sort f_value f_word f_wrongAt f_laterFault f_laterPlace a_told a_read f_farHut f_farSinger f_good f_land f_huts f_singers f_evening a_at a_knows a_climbed a_snow a_level f_begun f_minute f_avalanches a_run a_covers a_routes a_longest a_steep a_laid a_far f_sight a_runs f_choir f_voices a_rest a_wins f_seed a_other a_kept U.heap ∧ zK E U)) (zQi (S := (Int32) × (Nat → Int32)) (fun r u => post r u.1 u.2) (fun u H => mW E q u.1 a_tape a_size a_fault a_faultPlace a_many a_lands a_evenings a_sights a_choirs f_reached f_length f_begins f_sort f_value f_word f_wrongAt f_laterFault f_laterPlace a_told a_read f_farHut f_farSinger f_good f_land f_huts f_singers f_evening a_at a_knows a_climbed a_snow a_level f_begun f_minute f_avalanches a_run a_covers a_routes a_longest a_steep a_laid a_far f_sight a_runs f_choir f_voices a_rest u.2 f_seed a_other a_kept H) (mA q)) 0 0 (mA q) := by
  refine Met.ofW (cc := cX11_trade) (maxL := 7) (ret := (some .int)) (by decide) rfl ?_
  intro p e s m args below meth c s₁ B hml hv
  obtain ⟨rfl, hM, hK⟩ := hv
  have zc := zc_of B hml
  have hl := lv_entry ([.ref q, .int x1, .int x2, .int x3, .int x4]) (n := 7) (Nat.le_of_ble_eq_true rfl)
  rw [lg_entry_eq]
  generalize (lg_sl ([.ref q, .int x1, .int x2, .int x3, .int x4]) ++ List.replicate (7 - (lg_sl ([.ref q, .int x1, .int x2, .int x3, .int x4])).length) Slot.unset).toArray = ls at hl ⊢
  have hl : lv_has ls 7 [(0, .ref q), (1, .int x1), (2, .int x2), (3, .int x3), (4, .int x4)] := hl
  exact t_m_trade_0 zc hK hM va_S.rf (lv_sub hl [0, 1, 2, 3, 4] rfl) hw
-- m_odds
abbrev rm_m_odds : Room := { frames := 4, cells := 0, slots := 0, locals := 87 }
def q_m_odds_0 (f_code : Int32) (a_many : Nat → Int32) (f_land : Int32) (f_evening : Int32) (x1 : Int32) (x2 : Int32) (x3 : Int32) (post : Int64 → (Int32) → (Int32) → (Int32) → Prop) : Prop :=
  q_m_in_0 x3 (0 : Int32) (2 : Int32) (fun r_1 => (r_1 = 0 → (post (-1 : Int64) (0 : Int32) f_land f_evening)) ∧ (¬ r_1 = 0 → (q_m_layAll_0 a_many f_land f_evening x1 x2 (fun r_2 f_land_1 f_evening_1 => (¬ r_2 = 0 → False) ∧ (r_2 = 0 → (post (-1 : Int64) (0 : Int32) f_land_1 f_evening_1))))))
set_option maxRecDepth 20000 in
theorem t_m_odds_0 {p : Program} {l : Launch} {e : Env} {s : State} {m : MethodId} {args : Array Value} {below : List Frame} {meth : Method} {c : Code} {E : zE} {q : Nat} {f_code : Int32} {a_tape : Nat → Int32} {a_size : Nat → Int32} {a_fault : Nat → Int32} {a_faultPlace : Nat → Int32} {a_many : Nat → Int32} {a_lands : Nat → Int32} {a_evenings : Nat → Int32} {a_sights : Nat → Int32} {a_choirs : Nat → Int32} {f_reached : Int32} {f_length : Int32} {f_begins : Int32} {f_sort : Int32} {f_value : Int32} {f_word : Int64} {f_wrongAt : Int32} {f_laterFault : Int32} {f_laterPlace : Int32} {a_told : Nat → Int32} {a_read : Nat → Int32} {f_farHut : Int32} {f_farSinger : Int32} {f_good : Int32} {f_land : Int32} {f_huts : Int32} {f_singers : Int32} {f_evening : Int32} {a_at : Nat → Int32} {a_knows : Nat → Int32} {a_climbed : Nat → Int32} {a_snow : Nat → Int32} {a_level : Nat → Int32} {f_begun : Int32} {f_minute : Int32} {f_avalanches : Int32} {a_run : Nat → Int32} {a_covers : Nat → Int32} {a_routes : Nat → Int32} {a_longest : Nat → Int32} {a_steep : Nat → Int32} {a_laid : Nat → Int32} {a_far : Nat → Int32} {f_sight : Int32} {a_runs : Nat → Int32} {f_choir : Int32} {f_voices : Int32} {a_rest : Nat → Int64} {a_wins : Nat → Int32} {f_seed : Int32} {a_other : Nat → Int32} {a_kept : Nat → Int32} {post : Int64 → (Int32) → (Int32) → (Int32) → Prop} {x1 : Int32} {x2 : Int32} {x3 : Int32} {ls : Array Slot} {H : Heap} {locs : List Loc}
    (zc : zC p s m args meth c cX11_odds 10 RX11 (some .long))
    (hK : zK E s)
    (hM : mW E q f_code a_tape a_size a_fault a_faultPlace a_many a_lands a_evenings a_sights a_choirs f_reached f_length f_begins f_sort f_value f_word f_wrongAt f_laterFault f_laterPlace a_told a_read f_farHut f_farSinger f_good f_land f_huts f_singers f_evening a_at a_knows a_climbed a_snow a_level f_begun f_minute f_avalanches a_run a_covers a_routes a_longest a_steep a_laid a_far f_sight a_runs f_choir f_voices a_rest a_wins f_seed a_other a_kept H)
    (hS : va_S (mA q) s.heap H locs)
    (hl : lv_has ls 10 [(0, .ref q), (1, .int x1), (2, .int x2), (3, .int x3)])
    (hw : q_m_odds_0 f_code a_many f_land f_evening x1 x2 x3 post) :
    W p l e rm_m_odds s m args below meth c H locs 0 0 (MQ below (zQl (S := (Int32) × (Int32) × (Int32)) (fun r u => post r u.1 u.2.1 u.2.2) (fun u H => mW E q u.1 a_tape a_size a_fault a_faultPlace a_many a_lands a_evenings a_sights a_choirs f_reached f_length f_begins f_sort f_value f_word f_wrongAt f_laterFault f_laterPlace a_told a_read f_farHut f_farSinger f_good u.2.1 f_huts f_singers u.2.2 a_at a_knows a_climbed a_snow a_level f_begun f_minute f_avalanches a_run a_covers a_routes a_longest a_steep a_laid a_far f_sight a_runs f_choir f_voices a_rest a_wins f_seed a_other a_kept H) (mA q)) args s 0 0 (mA q)) (F0 m 0 ls []) := by
  have hx := zc.1
  have hb := zc.2.1
  refine lv_aload_n hx hb dX11_odds_0 rfl (lv_at hl 0 rfl) ?_
  refine lv_iconst (v := (0 : Int32)) hx hb dX11_odds_1 (by decide) ?_
  refine mp_11_97_0 zc hK hM hS dX11_odds_2 (fun H locs hM hS => ?_)
  refine lv_iload_n hx hb dX11_odds_5 rfl (lv_at hl 3 rfl) ?_
  refine lv_iconst (v := (0 : Int32)) hx hb dX11_odds_6 (by decide) ?_
  refine lv_iconst (v := (2 : Int32)) hx hb dX11_odds_7 (by decide) ?_
  refine zS_i [.int x3, .int (0 : Int32), .int (2 : Int32)] [] zc ky_X11_in kz_X11_in km_11_109 (c_m_in l hw) (zPre0 _) rfl rfl hl.1 (Nat.le_of_ble_eq_true rfl) ⟨rfl, rfl⟩ ⟨Nat.le_of_ble_eq_true rfl, Nat.le_of_ble_eq_true rfl⟩ ⟨Nat.zero_le _, Nat.zero_le _⟩ dX11_odds_8 (fun r_1 hw => ?_)
  refine lv_if_eq (tgt := 23) hx hb dX11_odds_11 (by decide) (fun hc => ?_) (fun hc => ?_)
  · have hw := hw.1 hc
    refine lv_ldc2 (v := (-1 : Int64)) hx hb zc.2.2.2.1 (zc.2.2.2.2.1 _ kc_11_503) dX11_odds_23 ?_
    exact zret_lw ⟨(0 : Int32), f_land, f_evening⟩ zc hS hw hM dX11_odds_26
  · have hw := hw.2 hc
    refine lv_aload_n hx hb dX11_odds_14 rfl (lv_at hl 0 rfl) ?_
    refine lv_iload_n hx hb dX11_odds_15 rfl (lv_at hl 1 rfl) ?_
    refine lv_iload_n hx hb dX11_odds_16 rfl (lv_at hl 2 rfl) ?_
    refine zVw_i [.int x1, .int x2] [] zc ky_X11_layAll kz_X11_layAll km_11_383 (c_m_layAll l hw) (mPreV0 hK hM) hS rfl rfl hl.1 (Nat.le_of_ble_eq_true rfl) ⟨rfl, rfl⟩ ⟨Nat.le_of_ble_eq_true rfl, Nat.le_of_ble_eq_true rfl⟩ ⟨Nat.zero_le _, Nat.zero_le _⟩ dX11_odds_17 (fun r_2 u H locs hw hM hS => ?_)
    obtain ⟨f_land_1, f_evening_1⟩ := u
    refine lv_if_ne (tgt := 27) hx hb dX11_odds_20 (by decide) (fun hc => ?_) (fun hc => ?_)
    · have hw := hw.1 hc
      refine lv_aload_n hx hb dX11_odds_27 rfl (lv_at hl 0 rfl) ?_
      refine lv_aload_n hx hb dX11_odds_28 rfl (lv_at hl 0 rfl) ?_
      exact hw.elim
    · have hw := hw.2 hc
      refine lv_ldc2 (v := (-1 : Int64)) hx hb zc.2.2.2.1 (zc.2.2.2.2.1 _ kc_11_503) dX11_odds_23 ?_
      exact zret_lw ⟨(0 : Int32), f_land_1, f_evening_1⟩ zc hS hw hM dX11_odds_26
set_option maxRecDepth 20000 in
theorem c_m_odds (l : Launch) {E : zE} {q : Nat} {f_code : Int32} {a_tape : Nat → Int32} {a_size : Nat → Int32} {a_fault : Nat → Int32} {a_faultPlace : Nat → Int32} {a_many : Nat → Int32} {a_lands : Nat → Int32} {a_evenings : Nat → Int32} {a_sights : Nat → Int32} {a_choirs : Nat → Int32} {f_reached : Int32} {f_length : Int32} {f_begins : Int32} {f_sort : Int32} {f_value : Int32} {f_word : Int64} {f_wrongAt : Int32} {f_laterFault : Int32} {f_laterPlace : Int32} {a_told : Nat → Int32} {a_read : Nat → Int32} {f_farHut : Int32} {f_farSinger : Int32} {f_good : Int32} {f_land : Int32} {f_huts : Int32} {f_singers : Int32} {f_evening : Int32} {a_at : Nat → Int32} {a_knows : Nat → Int32} {a_climbed : Nat → Int32} {a_snow : Nat → Int32} {a_level : Nat → Int32} {f_begun : Int32} {f_minute : Int32} {f_avalanches : Int32} {a_run : Nat → Int32} {a_covers : Nat → Int32} {a_routes : Nat → Int32} {a_longest : Nat → Int32} {a_steep : Nat → Int32} {a_laid : Nat → Int32} {a_far : Nat → Int32} {f_sight : Int32} {a_runs : Nat → Int32} {f_choir : Int32} {f_voices : Int32} {a_rest : Nat → Int64} {a_wins : Nat → Int32} {f_seed : Int32} {a_other : Nat → Int32} {a_kept : Nat → Int32} {x1 : Int32} {x2 : Int32} {x3 : Int32} {post : Int64 → (Int32) → (Int32) → (Int32) → Prop} (hw : q_m_odds_0 f_code a_many f_land f_evening x1 x2 x3 post) : Met l yX11_odds (Cond.code yX11_odds cX11_odds 10 (some .long) :: zb) rm_m_odds (va_Pc [.ref q, .int x1, .int x2, .int x3] (fun U => mW E q f_code a_tape a_size a_fault a_faultPlace a_many a_lands a_evenings a_sights a_choirs f_reached f_length f_begins f_sort f_value f_word f_wrongAt f_laterFault f_laterPlace a_told a_read f_farHut f_farSinger f_good f_land f_huts f_singers f_evening a_at a_knows a_climbed a_snow a_level f_begun f_minute f_avalanches a_run a_covers a_routes a_longest a_steep a_laid a_far f_sight a_runs f_choir f_voices a_rest a_wins f_seed a_other a_kept U.heap ∧ zK E U)) (zQl (S := (Int32) × (Int32) × (Int32)) (fun r u => post r u.1 u.2.1 u.2.2) (fun u H => mW E q u.1 a_tape a_size a_fault a_faultPlace a_many a_lands a_evenings a_sights a_choirs f_reached f_length f_begins f_sort f_value f_word f_wrongAt f_laterFault f_laterPlace a_told a_read f_farHut f_farSinger f_good u.2.1 f_huts f_singers u.2.2 a_at a_knows a_climbed a_snow a_level f_begun f_minute f_avalanches a_run a_covers a_routes a_longest a_steep a_laid a_far f_sight a_runs f_choir f_voices a_rest a_wins f_seed a_other a_kept H) (mA q)) 0 0 (mA q) := by
  refine Met.ofW (cc := cX11_odds) (maxL := 10) (ret := (some .long)) (by decide) rfl ?_
  intro p e s m args below meth c s₁ B hml hv
  obtain ⟨rfl, hM, hK⟩ := hv
  have zc := zc_of B hml
  have hl := lv_entry ([.ref q, .int x1, .int x2, .int x3]) (n := 10) (Nat.le_of_ble_eq_true rfl)
  rw [lg_entry_eq]
  generalize (lg_sl ([.ref q, .int x1, .int x2, .int x3]) ++ List.replicate (10 - (lg_sl ([.ref q, .int x1, .int x2, .int x3])).length) Slot.unset).toArray = ls at hl ⊢
  have hl : lv_has ls 10 [(0, .ref q), (1, .int x1), (2, .int x2), (3, .int x3)] := hl
  exact t_m_odds_0 zc hK hM va_S.rf (lv_sub hl [0, 1, 2, 3] rfl) hw
-- m_drawn
abbrev rm_m_drawn : Room := { frames := 3, cells := 0, slots := 0, locals := 65 }
def q_m_drawn_0 (f_code : Int32) (a_many : Nat → Int32) (f_land : Int32) (f_singers : Int32) (f_seed : Int32) (x1 : Int32) (x2 : Int32) (x3 : Int32) (x4 : Int32) (post : Int32 → (Int32) → (Int32) → (Int32) → Prop) : Prop :=
  q_m_in_0 x3 (0 : Int32) (60 : Int32) (fun r_1 => (r_1 = 0 → (post (-1000 : Int32) (0 : Int32) f_land f_seed)) ∧ (¬ r_1 = 0 → (q_m_hand_0 a_many f_land x1 (fun r_2 f_land_1 => (r_2 = 0 → (post (-1000 : Int32) (0 : Int32) f_land_1 f_seed)) ∧ (¬ r_2 = 0 → ((¬ f_singers = 0 → False) ∧ (f_singers = 0 → (post (-1000 : Int32) (0 : Int32) f_land_1 f_seed))))))))
set_option maxRecDepth 20000 in
theorem t_m_drawn_0 {p : Program} {l : Launch} {e : Env} {s : State} {m : MethodId} {args : Array Value} {below : List Frame} {meth : Method} {c : Code} {E : zE} {q : Nat} {f_code : Int32} {a_tape : Nat → Int32} {a_size : Nat → Int32} {a_fault : Nat → Int32} {a_faultPlace : Nat → Int32} {a_many : Nat → Int32} {a_lands : Nat → Int32} {a_evenings : Nat → Int32} {a_sights : Nat → Int32} {a_choirs : Nat → Int32} {f_reached : Int32} {f_length : Int32} {f_begins : Int32} {f_sort : Int32} {f_value : Int32} {f_word : Int64} {f_wrongAt : Int32} {f_laterFault : Int32} {f_laterPlace : Int32} {a_told : Nat → Int32} {a_read : Nat → Int32} {f_farHut : Int32} {f_farSinger : Int32} {f_good : Int32} {f_land : Int32} {f_huts : Int32} {f_singers : Int32} {f_evening : Int32} {a_at : Nat → Int32} {a_knows : Nat → Int32} {a_climbed : Nat → Int32} {a_snow : Nat → Int32} {a_level : Nat → Int32} {f_begun : Int32} {f_minute : Int32} {f_avalanches : Int32} {a_run : Nat → Int32} {a_covers : Nat → Int32} {a_routes : Nat → Int32} {a_longest : Nat → Int32} {a_steep : Nat → Int32} {a_laid : Nat → Int32} {a_far : Nat → Int32} {f_sight : Int32} {a_runs : Nat → Int32} {f_choir : Int32} {f_voices : Int32} {a_rest : Nat → Int64} {a_wins : Nat → Int32} {f_seed : Int32} {a_other : Nat → Int32} {a_kept : Nat → Int32} {post : Int32 → (Int32) → (Int32) → (Int32) → Prop} {x1 : Int32} {x2 : Int32} {x3 : Int32} {x4 : Int32} {ls : Array Slot} {H : Heap} {locs : List Loc}
    (zc : zC p s m args meth c cX11_drawn 6 RX11 (some .int))
    (hK : zK E s)
    (hM : mW E q f_code a_tape a_size a_fault a_faultPlace a_many a_lands a_evenings a_sights a_choirs f_reached f_length f_begins f_sort f_value f_word f_wrongAt f_laterFault f_laterPlace a_told a_read f_farHut f_farSinger f_good f_land f_huts f_singers f_evening a_at a_knows a_climbed a_snow a_level f_begun f_minute f_avalanches a_run a_covers a_routes a_longest a_steep a_laid a_far f_sight a_runs f_choir f_voices a_rest a_wins f_seed a_other a_kept H)
    (hS : va_S (mA q) s.heap H locs)
    (hl : lv_has ls 6 [(0, .ref q), (1, .int x1), (2, .int x2), (3, .int x3), (4, .int x4)])
    (hw : q_m_drawn_0 f_code a_many f_land f_singers f_seed x1 x2 x3 x4 post) :
    W p l e rm_m_drawn s m args below meth c H locs 0 0 (MQ below (zQi (S := (Int32) × (Int32) × (Int32)) (fun r u => post r u.1 u.2.1 u.2.2) (fun u H => mW E q u.1 a_tape a_size a_fault a_faultPlace a_many a_lands a_evenings a_sights a_choirs f_reached f_length f_begins f_sort f_value f_word f_wrongAt f_laterFault f_laterPlace a_told a_read f_farHut f_farSinger f_good u.2.1 f_huts f_singers f_evening a_at a_knows a_climbed a_snow a_level f_begun f_minute f_avalanches a_run a_covers a_routes a_longest a_steep a_laid a_far f_sight a_runs f_choir f_voices a_rest a_wins u.2.2 a_other a_kept H) (mA q)) args s 0 0 (mA q)) (F0 m 0 ls []) := by
  have hx := zc.1
  have hb := zc.2.1
  refine lv_aload_n hx hb dX11_drawn_0 rfl (lv_at hl 0 rfl) ?_
  refine lv_iconst (v := (0 : Int32)) hx hb dX11_drawn_1 (by decide) ?_
  refine mp_11_97_0 zc hK hM hS dX11_drawn_2 (fun H locs hM hS => ?_)
  refine lv_iload_n hx hb dX11_drawn_5 rfl (lv_at hl 3 rfl) ?_
  refine lv_iconst (v := (0 : Int32)) hx hb dX11_drawn_6 (by decide) ?_
  refine lv_bipush (v := (60 : Int32)) hx hb dX11_drawn_7 (by decide) ?_
  refine zS_i [.int x3, .int (0 : Int32), .int (60 : Int32)] [] zc ky_X11_in kz_X11_in km_11_109 (c_m_in l hw) (zPre0 _) rfl rfl hl.1 (Nat.le_of_ble_eq_true rfl) ⟨rfl, rfl⟩ ⟨Nat.le_of_ble_eq_true rfl, Nat.le_of_ble_eq_true rfl⟩ ⟨Nat.zero_le _, Nat.zero_le _⟩ dX11_drawn_9 (fun r_1 hw => ?_)
  refine lv_if_eq (tgt := 30) hx hb dX11_drawn_12 (by decide) (fun hc => ?_) (fun hc => ?_)
  · have hw := hw.1 hc
    refine lv_sipush (v := (-1000 : Int32)) hx hb dX11_drawn_30 (by decide) ?_
    exact zret_iw ⟨(0 : Int32), f_land, f_seed⟩ zc hS hw hM dX11_drawn_33
  · have hw := hw.2 hc
    refine lv_aload_n hx hb dX11_drawn_15 rfl (lv_at hl 0 rfl) ?_
    refine lv_iload_n hx hb dX11_drawn_16 rfl (lv_at hl 1 rfl) ?_
    refine zVw_i [.int x1] [] zc ky_X11_hand kz_X11_hand km_11_313 (c_m_hand l hw) (mPreV0 hK hM) hS rfl rfl hl.1 (Nat.le_of_ble_eq_true rfl) ⟨rfl, rfl⟩ ⟨Nat.le_of_ble_eq_true rfl, Nat.le_of_ble_eq_true rfl⟩ ⟨Nat.zero_le _, Nat.zero_le _⟩ dX11_drawn_17 (fun r_2 f_land_1 H locs hw hM hS => ?_)
    refine lv_if_eq (tgt := 30) hx hb dX11_drawn_20 (by decide) (fun hc => ?_) (fun hc => ?_)
    · have hw := hw.1 hc
      refine lv_sipush (v := (-1000 : Int32)) hx hb dX11_drawn_30 (by decide) ?_
      exact zret_iw ⟨(0 : Int32), f_land_1, f_seed⟩ zc hS hw hM dX11_drawn_33
    · have hw := hw.2 hc
      refine lv_aload_n hx hb dX11_drawn_23 rfl (lv_at hl 0 rfl) ?_
      refine mg_11_310_0 zc hK hM dX11_drawn_24 ?_
      refine lv_if_ne (tgt := 34) hx hb dX11_drawn_27 (by decide) (fun hc => ?_) (fun hc => ?_)
      · have hw := hw.1 hc
        refine lv_aload_n hx hb dX11_drawn_34 rfl (lv_at hl 0 rfl) ?_
        refine lv_iload_n hx hb dX11_drawn_35 rfl (lv_at hl 2 rfl) ?_
        refine mp_11_515_0 zc hK hM hS dX11_drawn_36 (fun H locs hM hS => ?_)
        refine lv_aload_n hx hb dX11_drawn_39 rfl (lv_at hl 0 rfl) ?_
        exact hw.elim
      · have hw := hw.2 hc
        refine lv_sipush (v := (-1000 : Int32)) hx hb dX11_drawn_30 (by decide) ?_
        exact zret_iw ⟨(0 : Int32), f_land_1, f_seed⟩ zc hS hw hM dX11_drawn_33
set_option maxRecDepth 20000 in
theorem c_m_drawn (l : Launch) {E : zE} {q : Nat} {f_code : Int32} {a_tape : Nat → Int32} {a_size : Nat → Int32} {a_fault : Nat → Int32} {a_faultPlace : Nat → Int32} {a_many : Nat → Int32} {a_lands : Nat → Int32} {a_evenings : Nat → Int32} {a_sights : Nat → Int32} {a_choirs : Nat → Int32} {f_reached : Int32} {f_length : Int32} {f_begins : Int32} {f_sort : Int32} {f_value : Int32} {f_word : Int64} {f_wrongAt : Int32} {f_laterFault : Int32} {f_laterPlace : Int32} {a_told : Nat → Int32} {a_read : Nat → Int32} {f_farHut : Int32} {f_farSinger : Int32} {f_good : Int32} {f_land : Int32} {f_huts : Int32} {f_singers : Int32} {f_evening : Int32} {a_at : Nat → Int32} {a_knows : Nat → Int32} {a_climbed : Nat → Int32} {a_snow : Nat → Int32} {a_level : Nat → Int32} {f_begun : Int32} {f_minute : Int32} {f_avalanches : Int32} {a_run : Nat → Int32} {a_covers : Nat → Int32} {a_routes : Nat → Int32} {a_longest : Nat → Int32} {a_steep : Nat → Int32} {a_laid : Nat → Int32} {a_far : Nat → Int32} {f_sight : Int32} {a_runs : Nat → Int32} {f_choir : Int32} {f_voices : Int32} {a_rest : Nat → Int64} {a_wins : Nat → Int32} {f_seed : Int32} {a_other : Nat → Int32} {a_kept : Nat → Int32} {x1 : Int32} {x2 : Int32} {x3 : Int32} {x4 : Int32} {post : Int32 → (Int32) → (Int32) → (Int32) → Prop} (hw : q_m_drawn_0 f_code a_many f_land f_singers f_seed x1 x2 x3 x4 post) : Met l yX11_drawn (Cond.code yX11_drawn cX11_drawn 6 (some .int) :: zb) rm_m_drawn (va_Pc [.ref q, .int x1, .int x2, .int x3, .int x4] (fun U => mW E q f_code a_tape a_size a_fault a_faultPlace a_many a_lands a_evenings a_sights a_choirs f_reached f_length f_begins f_sort f_value f_word f_wrongAt f_laterFault f_laterPlace a_told a_read f_farHut f_farSinger f_good f_land f_huts f_singers f_evening a_at a_knows a_climbed a_snow a_level f_begun f_minute f_avalanches a_run a_covers a_routes a_longest a_steep a_laid a_far f_sight a_runs f_choir f_voices a_rest a_wins f_seed a_other a_kept U.heap ∧ zK E U)) (zQi (S := (Int32) × (Int32) × (Int32)) (fun r u => post r u.1 u.2.1 u.2.2) (fun u H => mW E q u.1 a_tape a_size a_fault a_faultPlace a_many a_lands a_evenings a_sights a_choirs f_reached f_length f_begins f_sort f_value f_word f_wrongAt f_laterFault f_laterPlace a_told a_read f_farHut f_farSinger f_good u.2.1 f_huts f_singers f_evening a_at a_knows a_climbed a_snow a_level f_begun f_minute f_avalanches a_run a_covers a_routes a_longest a_steep a_laid a_far f_sight a_runs f_choir f_voices a_rest a_wins u.2.2 a_other a_kept H) (mA q)) 0 0 (mA q) := by
  refine Met.ofW (cc := cX11_drawn) (maxL := 6) (ret := (some .int)) (by decide) rfl ?_
  intro p e s m args below meth c s₁ B hml hv
  obtain ⟨rfl, hM, hK⟩ := hv
  have zc := zc_of B hml
  have hl := lv_entry ([.ref q, .int x1, .int x2, .int x3, .int x4]) (n := 6) (Nat.le_of_ble_eq_true rfl)
  rw [lg_entry_eq]
  generalize (lg_sl ([.ref q, .int x1, .int x2, .int x3, .int x4]) ++ List.replicate (6 - (lg_sl ([.ref q, .int x1, .int x2, .int x3, .int x4])).length) Slot.unset).toArray = ls at hl ⊢
  have hl : lv_has ls 6 [(0, .ref q), (1, .int x1), (2, .int x2), (3, .int x3), (4, .int x4)] := hl
  exact t_m_drawn_0 zc hK hM va_S.rf (lv_sub hl [0, 1, 2, 3, 4] rfl) hw
-- m_psalm
abbrev rm_m_psalm : Room := { frames := 3, cells := 0, slots := 0, locals := 65 }
def q_m_psalm_0 (f_code : Int32) (a_many : Nat → Int32) (f_land : Int32) (x1 : Int32) (x2 : Int32) (x3 : Int32) (x4 : Int32) (post : Int32 → (Int32) → (Int32) → Prop) : Prop :=
  q_m_hand_0 a_many f_land x1 (fun r_1 f_land_1 => (r_1 = 0 → (post (-2 : Int32) (0 : Int32) f_land_1)) ∧ (¬ r_1 = 0 → False))
set_option maxRecDepth 20000 in
theorem t_m_psalm_0 {p : Program} {l : Launch} {e : Env} {s : State} {m : MethodId} {args : Array Value} {below : List Frame} {meth : Method} {c : Code} {E : zE} {q : Nat} {f_code : Int32} {a_tape : Nat → Int32} {a_size : Nat → Int32} {a_fault : Nat → Int32} {a_faultPlace : Nat → Int32} {a_many : Nat → Int32} {a_lands : Nat → Int32} {a_evenings : Nat → Int32} {a_sights : Nat → Int32} {a_choirs : Nat → Int32} {f_reached : Int32} {f_length : Int32} {f_begins : Int32} {f_sort : Int32} {f_value : Int32} {f_word : Int64} {f_wrongAt : Int32} {f_laterFault : Int32} {f_laterPlace : Int32} {a_told : Nat → Int32} {a_read : Nat → Int32} {f_farHut : Int32} {f_farSinger : Int32} {f_good : Int32} {f_land : Int32} {f_huts : Int32} {f_singers : Int32} {f_evening : Int32} {a_at : Nat → Int32} {a_knows : Nat → Int32} {a_climbed : Nat → Int32} {a_snow : Nat → Int32} {a_level : Nat → Int32} {f_begun : Int32} {f_minute : Int32} {f_avalanches : Int32} {a_run : Nat → Int32} {a_covers : Nat → Int32} {a_routes : Nat → Int32} {a_longest : Nat → Int32} {a_steep : Nat → Int32} {a_laid : Nat → Int32} {a_far : Nat → Int32} {f_sight : Int32} {a_runs : Nat → Int32} {f_choir : Int32} {f_voices : Int32} {a_rest : Nat → Int64} {a_wins : Nat → Int32} {f_seed : Int32} {a_other : Nat → Int32} {a_kept : Nat → Int32} {post : Int32 → (Int32) → (Int32) → Prop} {x1 : Int32} {x2 : Int32} {x3 : Int32} {x4 : Int32} {ls : Array Slot} {H : Heap} {locs : List Loc}
    (zc : zC p s m args meth c cX11_psalm 9 RX11 (some .int))
    (hK : zK E s)
    (hM : mW E q f_code a_tape a_size a_fault a_faultPlace a_many a_lands a_evenings a_sights a_choirs f_reached f_length f_begins f_sort f_value f_word f_wrongAt f_laterFault f_laterPlace a_told a_read f_farHut f_farSinger f_good f_land f_huts f_singers f_evening a_at a_knows a_climbed a_snow a_level f_begun f_minute f_avalanches a_run a_covers a_routes a_longest a_steep a_laid a_far f_sight a_runs f_choir f_voices a_rest a_wins f_seed a_other a_kept H)
    (hS : va_S (mA q) s.heap H locs)
    (hl : lv_has ls 9 [(0, .ref q), (1, .int x1), (2, .int x2), (3, .int x3), (4, .int x4)])
    (hw : q_m_psalm_0 f_code a_many f_land x1 x2 x3 x4 post) :
    W p l e rm_m_psalm s m args below meth c H locs 0 0 (MQ below (zQi (S := (Int32) × (Int32)) (fun r u => post r u.1 u.2) (fun u H => mW E q u.1 a_tape a_size a_fault a_faultPlace a_many a_lands a_evenings a_sights a_choirs f_reached f_length f_begins f_sort f_value f_word f_wrongAt f_laterFault f_laterPlace a_told a_read f_farHut f_farSinger f_good u.2 f_huts f_singers f_evening a_at a_knows a_climbed a_snow a_level f_begun f_minute f_avalanches a_run a_covers a_routes a_longest a_steep a_laid a_far f_sight a_runs f_choir f_voices a_rest a_wins f_seed a_other a_kept H) (mA q)) args s 0 0 (mA q)) (F0 m 0 ls []) := by
  have hx := zc.1
  have hb := zc.2.1
  refine lv_aload_n hx hb dX11_psalm_0 rfl (lv_at hl 0 rfl) ?_
  refine lv_iconst (v := (0 : Int32)) hx hb dX11_psalm_1 (by decide) ?_
  refine mp_11_97_0 zc hK hM hS dX11_psalm_2 (fun H locs hM hS => ?_)
  refine lv_aload_n hx hb dX11_psalm_5 rfl (lv_at hl 0 rfl) ?_
  refine lv_iload_n hx hb dX11_psalm_6 rfl (lv_at hl 1 rfl) ?_
  refine zVw_i [.int x1] [] zc ky_X11_hand kz_X11_hand km_11_313 (c_m_hand l hw) (mPreV0 hK hM) hS rfl rfl hl.1 (Nat.le_of_ble_eq_true rfl) ⟨rfl, rfl⟩ ⟨Nat.le_of_ble_eq_true rfl, Nat.le_of_ble_eq_true rfl⟩ ⟨Nat.zero_le _, Nat.zero_le _⟩ dX11_psalm_7 (fun r_1 f_land_1 H locs hw hM hS => ?_)
  refine lv_if_eq (tgt := 41) hx hb dX11_psalm_10 (by decide) (fun hc => ?_) (fun hc => ?_)
  · have hw := hw.1 hc
    refine lv_bipush (v := (-2 : Int32)) hx hb dX11_psalm_41 (by decide) ?_
    exact zret_iw ⟨(0 : Int32), f_land_1⟩ zc hS hw hM dX11_psalm_43
  · have hw := hw.2 hc
    refine lv_aload_n hx hb dX11_psalm_13 rfl (lv_at hl 0 rfl) ?_
    refine lv_iload_n hx hb dX11_psalm_14 rfl (lv_at hl 2 rfl) ?_
    exact hw.elim
set_option maxRecDepth 20000 in
theorem c_m_psalm (l : Launch) {E : zE} {q : Nat} {f_code : Int32} {a_tape : Nat → Int32} {a_size : Nat → Int32} {a_fault : Nat → Int32} {a_faultPlace : Nat → Int32} {a_many : Nat → Int32} {a_lands : Nat → Int32} {a_evenings : Nat → Int32} {a_sights : Nat → Int32} {a_choirs : Nat → Int32} {f_reached : Int32} {f_length : Int32} {f_begins : Int32} {f_sort : Int32} {f_value : Int32} {f_word : Int64} {f_wrongAt : Int32} {f_laterFault : Int32} {f_laterPlace : Int32} {a_told : Nat → Int32} {a_read : Nat → Int32} {f_farHut : Int32} {f_farSinger : Int32} {f_good : Int32} {f_land : Int32} {f_huts : Int32} {f_singers : Int32} {f_evening : Int32} {a_at : Nat → Int32} {a_knows : Nat → Int32} {a_climbed : Nat → Int32} {a_snow : Nat → Int32} {a_level : Nat → Int32} {f_begun : Int32} {f_minute : Int32} {f_avalanches : Int32} {a_run : Nat → Int32} {a_covers : Nat → Int32} {a_routes : Nat → Int32} {a_longest : Nat → Int32} {a_steep : Nat → Int32} {a_laid : Nat → Int32} {a_far : Nat → Int32} {f_sight : Int32} {a_runs : Nat → Int32} {f_choir : Int32} {f_voices : Int32} {a_rest : Nat → Int64} {a_wins : Nat → Int32} {f_seed : Int32} {a_other : Nat → Int32} {a_kept : Nat → Int32} {x1 : Int32} {x2 : Int32} {x3 : Int32} {x4 : Int32} {post : Int32 → (Int32) → (Int32) → Prop} (hw : q_m_psalm_0 f_code a_many f_land x1 x2 x3 x4 post) : Met l yX11_psalm (Cond.code yX11_psalm cX11_psalm 9 (some .int) :: zb) rm_m_psalm (va_Pc [.ref q, .int x1, .int x2, .int x3, .int x4] (fun U => mW E q f_code a_tape a_size a_fault a_faultPlace a_many a_lands a_evenings a_sights a_choirs f_reached f_length f_begins f_sort f_value f_word f_wrongAt f_laterFault f_laterPlace a_told a_read f_farHut f_farSinger f_good f_land f_huts f_singers f_evening a_at a_knows a_climbed a_snow a_level f_begun f_minute f_avalanches a_run a_covers a_routes a_longest a_steep a_laid a_far f_sight a_runs f_choir f_voices a_rest a_wins f_seed a_other a_kept U.heap ∧ zK E U)) (zQi (S := (Int32) × (Int32)) (fun r u => post r u.1 u.2) (fun u H => mW E q u.1 a_tape a_size a_fault a_faultPlace a_many a_lands a_evenings a_sights a_choirs f_reached f_length f_begins f_sort f_value f_word f_wrongAt f_laterFault f_laterPlace a_told a_read f_farHut f_farSinger f_good u.2 f_huts f_singers f_evening a_at a_knows a_climbed a_snow a_level f_begun f_minute f_avalanches a_run a_covers a_routes a_longest a_steep a_laid a_far f_sight a_runs f_choir f_voices a_rest a_wins f_seed a_other a_kept H) (mA q)) 0 0 (mA q) := by
  refine Met.ofW (cc := cX11_psalm) (maxL := 9) (ret := (some .int)) (by decide) rfl ?_
  intro p e s m args below meth c s₁ B hml hv
  obtain ⟨rfl, hM, hK⟩ := hv
  have zc := zc_of B hml
  have hl := lv_entry ([.ref q, .int x1, .int x2, .int x3, .int x4]) (n := 9) (Nat.le_of_ble_eq_true rfl)
  rw [lg_entry_eq]
  generalize (lg_sl ([.ref q, .int x1, .int x2, .int x3, .int x4]) ++ List.replicate (9 - (lg_sl ([.ref q, .int x1, .int x2, .int x3, .int x4])).length) Slot.unset).toArray = ls at hl ⊢
  have hl : lv_has ls 9 [(0, .ref q), (1, .int x1), (2, .int x2), (3, .int x3), (4, .int x4)] := hl
  exact t_m_psalm_0 zc hK hM va_S.rf (lv_sub hl [0, 1, 2, 3, 4] rfl) hw
-- m_meet
abbrev rm_m_meet : Room := { frames := 3, cells := 0, slots := 0, locals := 65 }
def q_m_meet_0 (f_code : Int32) (a_many : Nat → Int32) (f_land : Int32) (x1 : Int32) (x2 : Int32) (x3 : Int32) (x4 : Int32) (post : Int32 → (Int32) → (Int32) → Prop) : Prop :=
  q_m_hand_0 a_many f_land x1 (fun r_1 f_land_1 => (r_1 = 0 → (post (-1 : Int32) (0 : Int32) f_land_1)) ∧ (¬ r_1 = 0 → False))
set_option maxRecDepth 20000 in
theorem t_m_meet_0 {p : Program} {l : Launch} {e : Env} {s : State} {m : MethodId} {args : Array Value} {below : List Frame} {meth : Method} {c : Code} {E : zE} {q : Nat} {f_code : Int32} {a_tape : Nat → Int32} {a_size : Nat → Int32} {a_fault : Nat → Int32} {a_faultPlace : Nat → Int32} {a_many : Nat → Int32} {a_lands : Nat → Int32} {a_evenings : Nat → Int32} {a_sights : Nat → Int32} {a_choirs : Nat → Int32} {f_reached : Int32} {f_length : Int32} {f_begins : Int32} {f_sort : Int32} {f_value : Int32} {f_word : Int64} {f_wrongAt : Int32} {f_laterFault : Int32} {f_laterPlace : Int32} {a_told : Nat → Int32} {a_read : Nat → Int32} {f_farHut : Int32} {f_farSinger : Int32} {f_good : Int32} {f_land : Int32} {f_huts : Int32} {f_singers : Int32} {f_evening : Int32} {a_at : Nat → Int32} {a_knows : Nat → Int32} {a_climbed : Nat → Int32} {a_snow : Nat → Int32} {a_level : Nat → Int32} {f_begun : Int32} {f_minute : Int32} {f_avalanches : Int32} {a_run : Nat → Int32} {a_covers : Nat → Int32} {a_routes : Nat → Int32} {a_longest : Nat → Int32} {a_steep : Nat → Int32} {a_laid : Nat → Int32} {a_far : Nat → Int32} {f_sight : Int32} {a_runs : Nat → Int32} {f_choir : Int32} {f_voices : Int32} {a_rest : Nat → Int64} {a_wins : Nat → Int32} {f_seed : Int32} {a_other : Nat → Int32} {a_kept : Nat → Int32} {post : Int32 → (Int32) → (Int32) → Prop} {x1 : Int32} {x2 : Int32} {x3 : Int32} {x4 : Int32} {ls : Array Slot} {H : Heap} {locs : List Loc}
    (zc : zC p s m args meth c cX11_meet 9 RX11 (some .int))
    (hK : zK E s)
    (hM : mW E q f_code a_tape a_size a_fault a_faultPlace a_many a_lands a_evenings a_sights a_choirs f_reached f_length f_begins f_sort f_value f_word f_wrongAt f_laterFault f_laterPlace a_told a_read f_farHut f_farSinger f_good f_land f_huts f_singers f_evening a_at a_knows a_climbed a_snow a_level f_begun f_minute f_avalanches a_run a_covers a_routes a_longest a_steep a_laid a_far f_sight a_runs f_choir f_voices a_rest a_wins f_seed a_other a_kept H)
    (hS : va_S (mA q) s.heap H locs)
    (hl : lv_has ls 9 [(0, .ref q), (1, .int x1), (2, .int x2), (3, .int x3), (4, .int x4)])
    (hw : q_m_meet_0 f_code a_many f_land x1 x2 x3 x4 post) :
    W p l e rm_m_meet s m args below meth c H locs 0 0 (MQ below (zQi (S := (Int32) × (Int32)) (fun r u => post r u.1 u.2) (fun u H => mW E q u.1 a_tape a_size a_fault a_faultPlace a_many a_lands a_evenings a_sights a_choirs f_reached f_length f_begins f_sort f_value f_word f_wrongAt f_laterFault f_laterPlace a_told a_read f_farHut f_farSinger f_good u.2 f_huts f_singers f_evening a_at a_knows a_climbed a_snow a_level f_begun f_minute f_avalanches a_run a_covers a_routes a_longest a_steep a_laid a_far f_sight a_runs f_choir f_voices a_rest a_wins f_seed a_other a_kept H) (mA q)) args s 0 0 (mA q)) (F0 m 0 ls []) := by
  have hx := zc.1
  have hb := zc.2.1
  refine lv_aload_n hx hb dX11_meet_0 rfl (lv_at hl 0 rfl) ?_
  refine lv_iconst (v := (0 : Int32)) hx hb dX11_meet_1 (by decide) ?_
  refine mp_11_97_0 zc hK hM hS dX11_meet_2 (fun H locs hM hS => ?_)
  refine lv_aload_n hx hb dX11_meet_5 rfl (lv_at hl 0 rfl) ?_
  refine lv_iload_n hx hb dX11_meet_6 rfl (lv_at hl 1 rfl) ?_
  refine zVw_i [.int x1] [] zc ky_X11_hand kz_X11_hand km_11_313 (c_m_hand l hw) (mPreV0 hK hM) hS rfl rfl hl.1 (Nat.le_of_ble_eq_true rfl) ⟨rfl, rfl⟩ ⟨Nat.le_of_ble_eq_true rfl, Nat.le_of_ble_eq_true rfl⟩ ⟨Nat.zero_le _, Nat.zero_le _⟩ dX11_meet_7 (fun r_1 f_land_1 H locs hw hM hS => ?_)
  refine lv_if_eq (tgt := 34) hx hb dX11_meet_10 (by decide) (fun hc => ?_) (fun hc => ?_)
  · have hw := hw.1 hc
    refine lv_iconst (v := (-1 : Int32)) hx hb dX11_meet_34 (by decide) ?_
    exact zret_iw ⟨(0 : Int32), f_land_1⟩ zc hS hw hM dX11_meet_35
  · have hw := hw.2 hc
    refine lv_aload_n hx hb dX11_meet_13 rfl (lv_at hl 0 rfl) ?_
    refine lv_iload_n hx hb dX11_meet_14 rfl (lv_at hl 2 rfl) ?_
    exact hw.elim
set_option maxRecDepth 20000 in
theorem c_m_meet (l : Launch) {E : zE} {q : Nat} {f_code : Int32} {a_tape : Nat → Int32} {a_size : Nat → Int32} {a_fault : Nat → Int32} {a_faultPlace : Nat → Int32} {a_many : Nat → Int32} {a_lands : Nat → Int32} {a_evenings : Nat → Int32} {a_sights : Nat → Int32} {a_choirs : Nat → Int32} {f_reached : Int32} {f_length : Int32} {f_begins : Int32} {f_sort : Int32} {f_value : Int32} {f_word : Int64} {f_wrongAt : Int32} {f_laterFault : Int32} {f_laterPlace : Int32} {a_told : Nat → Int32} {a_read : Nat → Int32} {f_farHut : Int32} {f_farSinger : Int32} {f_good : Int32} {f_land : Int32} {f_huts : Int32} {f_singers : Int32} {f_evening : Int32} {a_at : Nat → Int32} {a_knows : Nat → Int32} {a_climbed : Nat → Int32} {a_snow : Nat → Int32} {a_level : Nat → Int32} {f_begun : Int32} {f_minute : Int32} {f_avalanches : Int32} {a_run : Nat → Int32} {a_covers : Nat → Int32} {a_routes : Nat → Int32} {a_longest : Nat → Int32} {a_steep : Nat → Int32} {a_laid : Nat → Int32} {a_far : Nat → Int32} {f_sight : Int32} {a_runs : Nat → Int32} {f_choir : Int32} {f_voices : Int32} {a_rest : Nat → Int64} {a_wins : Nat → Int32} {f_seed : Int32} {a_other : Nat → Int32} {a_kept : Nat → Int32} {x1 : Int32} {x2 : Int32} {x3 : Int32} {x4 : Int32} {post : Int32 → (Int32) → (Int32) → Prop} (hw : q_m_meet_0 f_code a_many f_land x1 x2 x3 x4 post) : Met l yX11_meet (Cond.code yX11_meet cX11_meet 9 (some .int) :: zb) rm_m_meet (va_Pc [.ref q, .int x1, .int x2, .int x3, .int x4] (fun U => mW E q f_code a_tape a_size a_fault a_faultPlace a_many a_lands a_evenings a_sights a_choirs f_reached f_length f_begins f_sort f_value f_word f_wrongAt f_laterFault f_laterPlace a_told a_read f_farHut f_farSinger f_good f_land f_huts f_singers f_evening a_at a_knows a_climbed a_snow a_level f_begun f_minute f_avalanches a_run a_covers a_routes a_longest a_steep a_laid a_far f_sight a_runs f_choir f_voices a_rest a_wins f_seed a_other a_kept U.heap ∧ zK E U)) (zQi (S := (Int32) × (Int32)) (fun r u => post r u.1 u.2) (fun u H => mW E q u.1 a_tape a_size a_fault a_faultPlace a_many a_lands a_evenings a_sights a_choirs f_reached f_length f_begins f_sort f_value f_word f_wrongAt f_laterFault f_laterPlace a_told a_read f_farHut f_farSinger f_good u.2 f_huts f_singers f_evening a_at a_knows a_climbed a_snow a_level f_begun f_minute f_avalanches a_run a_covers a_routes a_longest a_steep a_laid a_far f_sight a_runs f_choir f_voices a_rest a_wins f_seed a_other a_kept H) (mA q)) 0 0 (mA q) := by
  refine Met.ofW (cc := cX11_meet) (maxL := 9) (ret := (some .int)) (by decide) rfl ?_
  intro p e s m args below meth c s₁ B hml hv
  obtain ⟨rfl, hM, hK⟩ := hv
  have zc := zc_of B hml
  have hl := lv_entry ([.ref q, .int x1, .int x2, .int x3, .int x4]) (n := 9) (Nat.le_of_ble_eq_true rfl)
  rw [lg_entry_eq]
  generalize (lg_sl ([.ref q, .int x1, .int x2, .int x3, .int x4]) ++ List.replicate (9 - (lg_sl ([.ref q, .int x1, .int x2, .int x3, .int x4])).length) Slot.unset).toArray = ls at hl ⊢
  have hl : lv_has ls 9 [(0, .ref q), (1, .int x1), (2, .int x2), (3, .int x3), (4, .int x4)] := hl
  exact t_m_meet_0 zc hK hM va_S.rf (lv_sub hl [0, 1, 2, 3, 4] rfl) hw
