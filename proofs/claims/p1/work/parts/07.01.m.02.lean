-- m_hasEvening
abbrev rm_m_hasEvening : Room := { frames := 2, cells := 0, slots := 0, locals := 44 }
def q_m_hasEvening_0 (a_many : Nat → Int32) (f_evening : Int32) (x1 : Int32) (post : Int32 → (Int32) → Prop) : Prop :=
  q_m_is_0 a_many (1 : Int32) x1 (fun r_1 => narrow .boolean (.int r_1) = .int r_1 ∧ post r_1 x1)
set_option maxRecDepth 20000 in
theorem t_m_hasEvening_0 {p : Program} {l : Launch} {e : Env} {s : State} {m : MethodId} {args : Array Value} {below : List Frame} {meth : Method} {c : Code} {E : zE} {q : Nat} {f_code : Int32} {a_tape : Nat → Int32} {a_size : Nat → Int32} {a_fault : Nat → Int32} {a_faultPlace : Nat → Int32} {a_many : Nat → Int32} {a_lands : Nat → Int32} {a_evenings : Nat → Int32} {a_sights : Nat → Int32} {a_choirs : Nat → Int32} {f_reached : Int32} {f_length : Int32} {f_begins : Int32} {f_sort : Int32} {f_value : Int32} {f_word : Int64} {f_wrongAt : Int32} {f_laterFault : Int32} {f_laterPlace : Int32} {a_told : Nat → Int32} {a_read : Nat → Int32} {f_farHut : Int32} {f_farSinger : Int32} {f_good : Int32} {f_land : Int32} {f_huts : Int32} {f_singers : Int32} {f_evening : Int32} {a_at : Nat → Int32} {a_knows : Nat → Int32} {a_climbed : Nat → Int32} {a_snow : Nat → Int32} {a_level : Nat → Int32} {f_begun : Int32} {f_minute : Int32} {f_avalanches : Int32} {a_run : Nat → Int32} {a_covers : Nat → Int32} {a_routes : Nat → Int32} {a_longest : Nat → Int32} {a_steep : Nat → Int32} {a_laid : Nat → Int32} {a_far : Nat → Int32} {f_sight : Int32} {a_runs : Nat → Int32} {f_choir : Int32} {f_voices : Int32} {a_rest : Nat → Int64} {a_wins : Nat → Int32} {f_seed : Int32} {a_other : Nat → Int32} {a_kept : Nat → Int32} {post : Int32 → (Int32) → Prop} {x1 : Int32} {ls : Array Slot} {H : Heap} {locs : List Loc}
    (zc : zC p s m args meth c cX11_hasEvening 2 RX11 (some .boolean))
    (hK : zK E s)
    (hM : mW E q f_code a_tape a_size a_fault a_faultPlace a_many a_lands a_evenings a_sights a_choirs f_reached f_length f_begins f_sort f_value f_word f_wrongAt f_laterFault f_laterPlace a_told a_read f_farHut f_farSinger f_good f_land f_huts f_singers f_evening a_at a_knows a_climbed a_snow a_level f_begun f_minute f_avalanches a_run a_covers a_routes a_longest a_steep a_laid a_far f_sight a_runs f_choir f_voices a_rest a_wins f_seed a_other a_kept H)
    (hS : va_S (mA q) s.heap H locs)
    (hl : lv_has ls 2 [(0, .ref q), (1, .int x1)])
    (hw : q_m_hasEvening_0 a_many f_evening x1 post) :
    W p l e rm_m_hasEvening s m args below meth c H locs 0 0 (MQ below (zQi (S := (Int32)) (fun r u => post r u) (fun u H => mW E q f_code a_tape a_size a_fault a_faultPlace a_many a_lands a_evenings a_sights a_choirs f_reached f_length f_begins f_sort f_value f_word f_wrongAt f_laterFault f_laterPlace a_told a_read f_farHut f_farSinger f_good f_land f_huts f_singers u a_at a_knows a_climbed a_snow a_level f_begun f_minute f_avalanches a_run a_covers a_routes a_longest a_steep a_laid a_far f_sight a_runs f_choir f_voices a_rest a_wins f_seed a_other a_kept H) (mA q)) args s 0 0 (mA q)) (F0 m 0 ls []) := by
  have hx := zc.1
  have hb := zc.2.1
  refine lv_aload_n hx hb dX11_hasEvening_0 rfl (lv_at hl 0 rfl) ?_
  refine lv_iload_n hx hb dX11_hasEvening_1 rfl (lv_at hl 1 rfl) ?_
  refine mp_11_328_0 zc hK hM hS dX11_hasEvening_2 (fun H locs hM hS => ?_)
  refine lv_aload_n hx hb dX11_hasEvening_5 rfl (lv_at hl 0 rfl) ?_
  refine lv_iconst (v := (1 : Int32)) hx hb dX11_hasEvening_6 (by decide) ?_
  refine lv_iload_n hx hb dX11_hasEvening_7 rfl (lv_at hl 1 rfl) ?_
  refine zV_i [.int (1 : Int32), .int x1] [] zc ky_X11_is kz_X11_is km_11_291 (c_m_is l hw) (mPreV0 hK hM) rfl rfl hl.1 (Nat.le_of_ble_eq_true rfl) ⟨rfl, rfl⟩ ⟨Nat.le_of_ble_eq_true rfl, Nat.le_of_ble_eq_true rfl⟩ ⟨Nat.zero_le _, Nat.zero_le _⟩ dX11_hasEvening_8 (fun r_1 hw => ?_)
  exact zret_zw x1 zc hS hw.1 hw.2 hM dX11_hasEvening_11
set_option maxRecDepth 20000 in
theorem c_m_hasEvening (l : Launch) {E : zE} {q : Nat} {f_code : Int32} {a_tape : Nat → Int32} {a_size : Nat → Int32} {a_fault : Nat → Int32} {a_faultPlace : Nat → Int32} {a_many : Nat → Int32} {a_lands : Nat → Int32} {a_evenings : Nat → Int32} {a_sights : Nat → Int32} {a_choirs : Nat → Int32} {f_reached : Int32} {f_length : Int32} {f_begins : Int32} {f_sort : Int32} {f_value : Int32} {f_word : Int64} {f_wrongAt : Int32} {f_laterFault : Int32} {f_laterPlace : Int32} {a_told : Nat → Int32} {a_read : Nat → Int32} {f_farHut : Int32} {f_farSinger : Int32} {f_good : Int32} {f_land : Int32} {f_huts : Int32} {f_singers : Int32} {f_evening : Int32} {a_at : Nat → Int32} {a_knows : Nat → Int32} {a_climbed : Nat → Int32} {a_snow : Nat → Int32} {a_level : Nat → Int32} {f_begun : Int32} {f_minute : Int32} {f_avalanches : Int32} {a_run : Nat → Int32} {a_covers : Nat → Int32} {a_routes : Nat → Int32} {a_longest : Nat → Int32} {a_steep : Nat → Int32} {a_laid : Nat → Int32} {a_far : Nat → Int32} {f_sight : Int32} {a_runs : Nat → Int32} {f_choir : Int32} {f_voices : Int32} {a_rest : Nat → Int64} {a_wins : Nat → Int32} {f_seed : Int32} {a_other : Nat → Int32} {a_kept : Nat → Int32} {x1 : Int32} {post : Int32 → (Int32) → Prop} (hw : q_m_hasEvening_0 a_many f_evening x1 post) : Met l yX11_hasEvening (Cond.code yX11_hasEvening cX11_hasEvening 2 (some .boolean) :: zb) rm_m_hasEvening (va_Pc [.ref q, .int x1] (fun U => mW E q f_code a_tape a_size a_fault a_faultPlace a_many a_lands a_evenings a_sights a_choirs f_reached f_length f_begins f_sort f_value f_word f_wrongAt f_laterFault f_laterPlace a_told a_read f_farHut f_farSinger f_good f_land f_huts f_singers f_evening a_at a_knows a_climbed a_snow a_level f_begun f_minute f_avalanches a_run a_covers a_routes a_longest a_steep a_laid a_far f_sight a_runs f_choir f_voices a_rest a_wins f_seed a_other a_kept U.heap ∧ zK E U)) (zQi (S := (Int32)) (fun r u => post r u) (fun u H => mW E q f_code a_tape a_size a_fault a_faultPlace a_many a_lands a_evenings a_sights a_choirs f_reached f_length f_begins f_sort f_value f_word f_wrongAt f_laterFault f_laterPlace a_told a_read f_farHut f_farSinger f_good f_land f_huts f_singers u a_at a_knows a_climbed a_snow a_level f_begun f_minute f_avalanches a_run a_covers a_routes a_longest a_steep a_laid a_far f_sight a_runs f_choir f_voices a_rest a_wins f_seed a_other a_kept H) (mA q)) 0 0 (mA q) := by
  refine Met.ofW (cc := cX11_hasEvening) (maxL := 2) (ret := (some .boolean)) (by decide) rfl ?_
  intro p e s m args below meth c s₁ B hml hv
  obtain ⟨rfl, hM, hK⟩ := hv
  have zc := zc_of B hml
  have hl := lv_entry ([.ref q, .int x1]) (n := 2) (Nat.le_of_ble_eq_true rfl)
  rw [lg_entry_eq]
  generalize (lg_sl ([.ref q, .int x1]) ++ List.replicate (2 - (lg_sl ([.ref q, .int x1])).length) Slot.unset).toArray = ls at hl ⊢
  have hl : lv_has ls 2 [(0, .ref q), (1, .int x1)] := hl
  exact t_m_hasEvening_0 zc hK hM va_S.rf (lv_sub hl [0, 1] rfl) hw
-- m_deed
abbrev rm_m_deed : Room := { frames := 3, cells := 0, slots := 0, locals := 65 }
def q_m_deed_0 (f_code : Int32) (a_many : Nat → Int32) (f_evening : Int32) (x1 : Int32) (x2 : Int32) (x3 : Int32) (post : Int32 → (Int32) → (Int32) → Prop) : Prop :=
  q_m_hasEvening_0 a_many f_evening x1 (fun r_1 f_evening_1 => (¬ r_1 = 0 → ((¬ x2 = (-1 : Int32) → False) ∧ (x2 = (-1 : Int32) → ((¬ x3 = 0 → (post (-2 : Int32) (0 : Int32) f_evening_1)) ∧ (x3 = 0 → False))))) ∧ (r_1 = 0 → (post (-2 : Int32) (0 : Int32) f_evening_1)))
set_option maxRecDepth 20000 in
theorem t_m_deed_0 {p : Program} {l : Launch} {e : Env} {s : State} {m : MethodId} {args : Array Value} {below : List Frame} {meth : Method} {c : Code} {E : zE} {q : Nat} {f_code : Int32} {a_tape : Nat → Int32} {a_size : Nat → Int32} {a_fault : Nat → Int32} {a_faultPlace : Nat → Int32} {a_many : Nat → Int32} {a_lands : Nat → Int32} {a_evenings : Nat → Int32} {a_sights : Nat → Int32} {a_choirs : Nat → Int32} {f_reached : Int32} {f_length : Int32} {f_begins : Int32} {f_sort : Int32} {f_value : Int32} {f_word : Int64} {f_wrongAt : Int32} {f_laterFault : Int32} {f_laterPlace : Int32} {a_told : Nat → Int32} {a_read : Nat → Int32} {f_farHut : Int32} {f_farSinger : Int32} {f_good : Int32} {f_land : Int32} {f_huts : Int32} {f_singers : Int32} {f_evening : Int32} {a_at : Nat → Int32} {a_knows : Nat → Int32} {a_climbed : Nat → Int32} {a_snow : Nat → Int32} {a_level : Nat → Int32} {f_begun : Int32} {f_minute : Int32} {f_avalanches : Int32} {a_run : Nat → Int32} {a_covers : Nat → Int32} {a_routes : Nat → Int32} {a_longest : Nat → Int32} {a_steep : Nat → Int32} {a_laid : Nat → Int32} {a_far : Nat → Int32} {f_sight : Int32} {a_runs : Nat → Int32} {f_choir : Int32} {f_voices : Int32} {a_rest : Nat → Int64} {a_wins : Nat → Int32} {f_seed : Int32} {a_other : Nat → Int32} {a_kept : Nat → Int32} {post : Int32 → (Int32) → (Int32) → Prop} {x1 : Int32} {x2 : Int32} {x3 : Int32} {ls : Array Slot} {H : Heap} {locs : List Loc}
    (zc : zC p s m args meth c cX11_deed 4 RX11 (some .int))
    (hK : zK E s)
    (hM : mW E q f_code a_tape a_size a_fault a_faultPlace a_many a_lands a_evenings a_sights a_choirs f_reached f_length f_begins f_sort f_value f_word f_wrongAt f_laterFault f_laterPlace a_told a_read f_farHut f_farSinger f_good f_land f_huts f_singers f_evening a_at a_knows a_climbed a_snow a_level f_begun f_minute f_avalanches a_run a_covers a_routes a_longest a_steep a_laid a_far f_sight a_runs f_choir f_voices a_rest a_wins f_seed a_other a_kept H)
    (hS : va_S (mA q) s.heap H locs)
    (hl : lv_has ls 4 [(0, .ref q), (1, .int x1), (2, .int x2), (3, .int x3)])
    (hw : q_m_deed_0 f_code a_many f_evening x1 x2 x3 post) :
    W p l e rm_m_deed s m args below meth c H locs 0 0 (MQ below (zQi (S := (Int32) × (Int32)) (fun r u => post r u.1 u.2) (fun u H => mW E q u.1 a_tape a_size a_fault a_faultPlace a_many a_lands a_evenings a_sights a_choirs f_reached f_length f_begins f_sort f_value f_word f_wrongAt f_laterFault f_laterPlace a_told a_read f_farHut f_farSinger f_good f_land f_huts f_singers u.2 a_at a_knows a_climbed a_snow a_level f_begun f_minute f_avalanches a_run a_covers a_routes a_longest a_steep a_laid a_far f_sight a_runs f_choir f_voices a_rest a_wins f_seed a_other a_kept H) (mA q)) args s 0 0 (mA q)) (F0 m 0 ls []) := by
  have hx := zc.1
  have hb := zc.2.1
  refine lv_aload_n hx hb dX11_deed_0 rfl (lv_at hl 0 rfl) ?_
  refine lv_iconst (v := (0 : Int32)) hx hb dX11_deed_1 (by decide) ?_
  refine mp_11_97_0 zc hK hM hS dX11_deed_2 (fun H locs hM hS => ?_)
  refine lv_aload_n hx hb dX11_deed_5 rfl (lv_at hl 0 rfl) ?_
  refine lv_iload_n hx hb dX11_deed_6 rfl (lv_at hl 1 rfl) ?_
  refine zVw_i [.int x1] [] zc ky_X11_hasEvening kz_X11_hasEvening km_11_331 (c_m_hasEvening l hw) (mPreV0 hK hM) hS rfl rfl hl.1 (Nat.le_of_ble_eq_true rfl) ⟨rfl, rfl⟩ ⟨Nat.le_of_ble_eq_true rfl, Nat.le_of_ble_eq_true rfl⟩ ⟨Nat.zero_le _, Nat.zero_le _⟩ dX11_deed_7 (fun r_1 f_evening_1 H locs hw hM hS => ?_)
  refine lv_if_ne (tgt := 16) hx hb dX11_deed_10 (by decide) (fun hc => ?_) (fun hc => ?_)
  · have hw := hw.1 hc
    refine lv_iload_n hx hb dX11_deed_16 rfl (lv_at hl 2 rfl) ?_
    refine lv_iconst (v := (-1 : Int32)) hx hb dX11_deed_17 (by decide) ?_
    refine lv_icmp_ne (tgt := 35) hx hb dX11_deed_18 (by decide) (fun hc => ?_) (fun hc => ?_)
    · have hw := hw.1 hc
      refine lv_iload_n hx hb dX11_deed_35 rfl (lv_at hl 2 rfl) ?_
      refine lv_iconst (v := (0 : Int32)) hx hb dX11_deed_36 (by decide) ?_
      refine lv_aload_n hx hb dX11_deed_37 rfl (lv_at hl 0 rfl) ?_
      exact hw.elim
    · have hw := hw.2 hc
      refine lv_iload_n hx hb dX11_deed_21 rfl (lv_at hl 3 rfl) ?_
      refine lv_if_ne (tgt := 32) hx hb dX11_deed_22 (by decide) (fun hc => ?_) (fun hc => ?_)
      · have hw := hw.1 hc
        refine lv_bipush (v := (-2 : Int32)) hx hb dX11_deed_32 (by decide) ?_
        exact zret_iw ⟨(0 : Int32), f_evening_1⟩ zc hS hw hM dX11_deed_34
      · have hw := hw.2 hc
        refine lv_aload_n hx hb dX11_deed_25 rfl (lv_at hl 0 rfl) ?_
        exact hw.elim
  · have hw := hw.2 hc
    refine lv_bipush (v := (-2 : Int32)) hx hb dX11_deed_13 (by decide) ?_
    exact zret_iw ⟨(0 : Int32), f_evening_1⟩ zc hS hw hM dX11_deed_15
set_option maxRecDepth 20000 in
theorem c_m_deed (l : Launch) {E : zE} {q : Nat} {f_code : Int32} {a_tape : Nat → Int32} {a_size : Nat → Int32} {a_fault : Nat → Int32} {a_faultPlace : Nat → Int32} {a_many : Nat → Int32} {a_lands : Nat → Int32} {a_evenings : Nat → Int32} {a_sights : Nat → Int32} {a_choirs : Nat → Int32} {f_reached : Int32} {f_length : Int32} {f_begins : Int32} {f_sort : Int32} {f_value : Int32} {f_word : Int64} {f_wrongAt : Int32} {f_laterFault : Int32} {f_laterPlace : Int32} {a_told : Nat → Int32} {a_read : Nat → Int32} {f_farHut : Int32} {f_farSinger : Int32} {f_good : Int32} {f_land : Int32} {f_huts : Int32} {f_singers : Int32} {f_evening : Int32} {a_at : Nat → Int32} {a_knows : Nat → Int32} {a_climbed : Nat → Int32} {a_snow : Nat → Int32} {a_level : Nat → Int32} {f_begun : Int32} {f_minute : Int32} {f_avalanches : Int32} {a_run : Nat → Int32} {a_covers : Nat → Int32} {a_routes : Nat → Int32} {a_longest : Nat → Int32} {a_steep : Nat → Int32} {a_laid : Nat → Int32} {a_far : Nat → Int32} {f_sight : Int32} {a_runs : Nat → Int32} {f_choir : Int32} {f_voices : Int32} {a_rest : Nat → Int64} {a_wins : Nat → Int32} {f_seed : Int32} {a_other : Nat → Int32} {a_kept : Nat → Int32} {x1 : Int32} {x2 : Int32} {x3 : Int32} {post : Int32 → (Int32) → (Int32) → Prop} (hw : q_m_deed_0 f_code a_many f_evening x1 x2 x3 post) : Met l yX11_deed (Cond.code yX11_deed cX11_deed 4 (some .int) :: zb) rm_m_deed (va_Pc [.ref q, .int x1, .int x2, .int x3] (fun U => mW E q f_code a_tape a_size a_fault a_faultPlace a_many a_lands a_evenings a_sights a_choirs f_reached f_length f_begins f_sort f_value f_word f_wrongAt f_laterFault f_laterPlace a_told a_read f_farHut f_farSinger f_good f_land f_huts f_singers f_evening a_at a_knows a_climbed a_snow a_level f_begun f_minute f_avalanches a_run a_covers a_routes a_longest a_steep a_laid a_far f_sight a_runs f_choir f_voices a_rest a_wins f_seed a_other a_kept U.heap ∧ zK E U)) (zQi (S := (Int32) × (Int32)) (fun r u => post r u.1 u.2) (fun u H => mW E q u.1 a_tape a_size a_fault a_faultPlace a_many a_lands a_evenings a_sights a_choirs f_reached f_length f_begins f_sort f_value f_word f_wrongAt f_laterFault f_laterPlace a_told a_read f_farHut f_farSinger f_good f_land f_huts f_singers u.2 a_at a_knows a_climbed a_snow a_level f_begun f_minute f_avalanches a_run a_covers a_routes a_longest a_steep a_laid a_far f_sight a_runs f_choir f_voices a_rest a_wins f_seed a_other a_kept H) (mA q)) 0 0 (mA q) := by
  refine Met.ofW (cc := cX11_deed) (maxL := 4) (ret := (some .int)) (by decide) rfl ?_
  intro p e s m args below meth c s₁ B hml hv
  obtain ⟨rfl, hM, hK⟩ := hv
  have zc := zc_of B hml
  have hl := lv_entry ([.ref q, .int x1, .int x2, .int x3]) (n := 4) (Nat.le_of_ble_eq_true rfl)
  rw [lg_entry_eq]
  generalize (lg_sl ([.ref q, .int x1, .int x2, .int x3]) ++ List.replicate (4 - (lg_sl ([.ref q, .int x1, .int x2, .int x3])).length) Slot.unset).toArray = ls at hl ⊢
  have hl : lv_has ls 4 [(0, .ref q), (1, .int x1), (2, .int x2), (3, .int x3)] := hl
  exact t_m_deed_0 zc hK hM va_S.rf (lv_sub hl [0, 1, 2, 3] rfl) hw
-- m_layAll
abbrev rm_m_layAll : Room := { frames := 3, cells := 0, slots := 0, locals := 65 }
def q_m_layAll_0 (a_many : Nat → Int32) (f_land : Int32) (f_evening : Int32) (x1 : Int32) (x2 : Int32) (post : Int32 → (Int32) → (Int32) → Prop) : Prop :=
  q_m_hasEvening_0 a_many f_evening x2 (fun r_1 f_evening_1 => (r_1 = 0 → (post (0 : Int32) f_land f_evening_1)) ∧ (¬ r_1 = 0 → (q_m_hand_0 a_many f_land x1 (fun r_2 f_land_1 => (r_2 = 0 → (post (0 : Int32) f_land_1 f_evening_1)) ∧ (¬ r_2 = 0 → (post (1 : Int32) f_land_1 f_evening_1))))))
set_option maxRecDepth 20000 in
theorem t_m_layAll_0 {p : Program} {l : Launch} {e : Env} {s : State} {m : MethodId} {args : Array Value} {below : List Frame} {meth : Method} {c : Code} {E : zE} {q : Nat} {f_code : Int32} {a_tape : Nat → Int32} {a_size : Nat → Int32} {a_fault : Nat → Int32} {a_faultPlace : Nat → Int32} {a_many : Nat → Int32} {a_lands : Nat → Int32} {a_evenings : Nat → Int32} {a_sights : Nat → Int32} {a_choirs : Nat → Int32} {f_reached : Int32} {f_length : Int32} {f_begins : Int32} {f_sort : Int32} {f_value : Int32} {f_word : Int64} {f_wrongAt : Int32} {f_laterFault : Int32} {f_laterPlace : Int32} {a_told : Nat → Int32} {a_read : Nat → Int32} {f_farHut : Int32} {f_farSinger : Int32} {f_good : Int32} {f_land : Int32} {f_huts : Int32} {f_singers : Int32} {f_evening : Int32} {a_at : Nat → Int32} {a_knows : Nat → Int32} {a_climbed : Nat → Int32} {a_snow : Nat → Int32} {a_level : Nat → Int32} {f_begun : Int32} {f_minute : Int32} {f_avalanches : Int32} {a_run : Nat → Int32} {a_covers : Nat → Int32} {a_routes : Nat → Int32} {a_longest : Nat → Int32} {a_steep : Nat → Int32} {a_laid : Nat → Int32} {a_far : Nat → Int32} {f_sight : Int32} {a_runs : Nat → Int32} {f_choir : Int32} {f_voices : Int32} {a_rest : Nat → Int64} {a_wins : Nat → Int32} {f_seed : Int32} {a_other : Nat → Int32} {a_kept : Nat → Int32} {post : Int32 → (Int32) → (Int32) → Prop} {x1 : Int32} {x2 : Int32} {ls : Array Slot} {H : Heap} {locs : List Loc}
    (zc : zC p s m args meth c cX11_layAll 3 RX11 (some .boolean))
    (hK : zK E s)
    (hM : mW E q f_code a_tape a_size a_fault a_faultPlace a_many a_lands a_evenings a_sights a_choirs f_reached f_length f_begins f_sort f_value f_word f_wrongAt f_laterFault f_laterPlace a_told a_read f_farHut f_farSinger f_good f_land f_huts f_singers f_evening a_at a_knows a_climbed a_snow a_level f_begun f_minute f_avalanches a_run a_covers a_routes a_longest a_steep a_laid a_far f_sight a_runs f_choir f_voices a_rest a_wins f_seed a_other a_kept H)
    (hS : va_S (mA q) s.heap H locs)
    (hl : lv_has ls 3 [(0, .ref q), (1, .int x1), (2, .int x2)])
    (hw : q_m_layAll_0 a_many f_land f_evening x1 x2 post) :
    W p l e rm_m_layAll s m args below meth c H locs 0 0 (MQ below (zQi (S := (Int32) × (Int32)) (fun r u => post r u.1 u.2) (fun u H => mW E q f_code a_tape a_size a_fault a_faultPlace a_many a_lands a_evenings a_sights a_choirs f_reached f_length f_begins f_sort f_value f_word f_wrongAt f_laterFault f_laterPlace a_told a_read f_farHut f_farSinger f_good u.1 f_huts f_singers u.2 a_at a_knows a_climbed a_snow a_level f_begun f_minute f_avalanches a_run a_covers a_routes a_longest a_steep a_laid a_far f_sight a_runs f_choir f_voices a_rest a_wins f_seed a_other a_kept H) (mA q)) args s 0 0 (mA q)) (F0 m 0 ls []) := by
  have hx := zc.1
  have hb := zc.2.1
  refine lv_aload_n hx hb dX11_layAll_0 rfl (lv_at hl 0 rfl) ?_
  refine lv_iload_n hx hb dX11_layAll_1 rfl (lv_at hl 2 rfl) ?_
  refine zVw_i [.int x2] [] zc ky_X11_hasEvening kz_X11_hasEvening km_11_331 (c_m_hasEvening l hw) (mPreV0 hK hM) hS rfl rfl hl.1 (Nat.le_of_ble_eq_true rfl) ⟨rfl, rfl⟩ ⟨Nat.le_of_ble_eq_true rfl, Nat.le_of_ble_eq_true rfl⟩ ⟨Nat.zero_le _, Nat.zero_le _⟩ dX11_layAll_2 (fun r_1 f_evening_1 H locs hw hM hS => ?_)
  refine lv_if_eq (tgt := 20) hx hb dX11_layAll_5 (by decide) (fun hc => ?_) (fun hc => ?_)
  · have hw := hw.1 hc
    refine lv_iconst (v := (0 : Int32)) hx hb dX11_layAll_20 (by decide) ?_
    exact zret_zw ⟨f_land, f_evening_1⟩ zc hS rfl hw hM dX11_layAll_21
  · have hw := hw.2 hc
    refine lv_aload_n hx hb dX11_layAll_8 rfl (lv_at hl 0 rfl) ?_
    refine lv_iload_n hx hb dX11_layAll_9 rfl (lv_at hl 1 rfl) ?_
    refine zVw_i [.int x1] [] zc ky_X11_hand kz_X11_hand km_11_313 (c_m_hand l hw) (mPreV0 hK hM) hS rfl rfl hl.1 (Nat.le_of_ble_eq_true rfl) ⟨rfl, rfl⟩ ⟨Nat.le_of_ble_eq_true rfl, Nat.le_of_ble_eq_true rfl⟩ ⟨Nat.zero_le _, Nat.zero_le _⟩ dX11_layAll_10 (fun r_2 f_land_1 H locs hw hM hS => ?_)
    refine lv_if_eq (tgt := 20) hx hb dX11_layAll_13 (by decide) (fun hc => ?_) (fun hc => ?_)
    · have hw := hw.1 hc
      refine lv_iconst (v := (0 : Int32)) hx hb dX11_layAll_20 (by decide) ?_
      exact zret_zw ⟨f_land_1, f_evening_1⟩ zc hS rfl hw hM dX11_layAll_21
    · have hw := hw.2 hc
      refine lv_iconst (v := (1 : Int32)) hx hb dX11_layAll_16 (by decide) ?_
      refine lv_goto (tgt := 21) hx hb dX11_layAll_17 (by decide) ?_
      exact zret_zw ⟨f_land_1, f_evening_1⟩ zc hS rfl hw hM dX11_layAll_21
set_option maxRecDepth 20000 in
theorem c_m_layAll (l : Launch) {E : zE} {q : Nat} {f_code : Int32} {a_tape : Nat → Int32} {a_size : Nat → Int32} {a_fault : Nat → Int32} {a_faultPlace : Nat → Int32} {a_many : Nat → Int32} {a_lands : Nat → Int32} {a_evenings : Nat → Int32} {a_sights : Nat → Int32} {a_choirs : Nat → Int32} {f_reached : Int32} {f_length : Int32} {f_begins : Int32} {f_sort : Int32} {f_value : Int32} {f_word : Int64} {f_wrongAt : Int32} {f_laterFault : Int32} {f_laterPlace : Int32} {a_told : Nat → Int32} {a_read : Nat → Int32} {f_farHut : Int32} {f_farSinger : Int32} {f_good : Int32} {f_land : Int32} {f_huts : Int32} {f_singers : Int32} {f_evening : Int32} {a_at : Nat → Int32} {a_knows : Nat → Int32} {a_climbed : Nat → Int32} {a_snow : Nat → Int32} {a_level : Nat → Int32} {f_begun : Int32} {f_minute : Int32} {f_avalanches : Int32} {a_run : Nat → Int32} {a_covers : Nat → Int32} {a_routes : Nat → Int32} {a_longest : Nat → Int32} {a_steep : Nat → Int32} {a_laid : Nat → Int32} {a_far : Nat → Int32} {f_sight : Int32} {a_runs : Nat → Int32} {f_choir : Int32} {f_voices : Int32} {a_rest : Nat → Int64} {a_wins : Nat → Int32} {f_seed : Int32} {a_other : Nat → Int32} {a_kept : Nat → Int32} {x1 : Int32} {x2 : Int32} {post : Int32 → (Int32) → (Int32) → Prop} (hw : q_m_layAll_0 a_many f_land f_evening x1 x2 post) : Met l yX11_layAll (Cond.code yX11_layAll cX11_layAll 3 (some .boolean) :: zb) rm_m_layAll (va_Pc [.ref q, .int x1, .int x2] (fun U => mW E q f_code a_tape a_size a_fault a_faultPlace a_many a_lands a_evenings a_sights a_choirs f_reached f_length f_begins f_sort f_value f_word f_wrongAt f_laterFault f_laterPlace a_told a_read f_farHut f_farSinger f_good f_land f_huts f_singers f_evening a_at a_knows a_climbed a_snow a_level f_begun f_minute f_avalanches a_run a_covers a_routes a_longest a_steep a_laid a_far f_sight a_runs f_choir f_voices a_rest a_wins f_seed a_other a_kept U.heap ∧ zK E U)) (zQi (S := (Int32) × (Int32)) (fun r u => post r u.1 u.2) (fun u H => mW E q f_code a_tape a_size a_fault a_faultPlace a_many a_lands a_evenings a_sights a_choirs f_reached f_length f_begins f_sort f_value f_word f_wrongAt f_laterFault f_laterPlace a_told a_read f_farHut f_farSinger f_good u.1 f_huts f_singers u.2 a_at a_knows a_climbed a_snow a_level f_begun f_minute f_avalanches a_run a_covers a_routes a_longest a_steep a_laid a_far f_sight a_runs f_choir f_voices a_rest a_wins f_seed a_other a_kept H) (mA q)) 0 0 (mA q) := by
  refine Met.ofW (cc := cX11_layAll) (maxL := 3) (ret := (some .boolean)) (by decide) rfl ?_
  intro p e s m args below meth c s₁ B hml hv
  obtain ⟨rfl, hM, hK⟩ := hv
  have zc := zc_of B hml
  have hl := lv_entry ([.ref q, .int x1, .int x2]) (n := 3) (Nat.le_of_ble_eq_true rfl)
  rw [lg_entry_eq]
  generalize (lg_sl ([.ref q, .int x1, .int x2]) ++ List.replicate (3 - (lg_sl ([.ref q, .int x1, .int x2])).length) Slot.unset).toArray = ls at hl ⊢
  have hl : lv_has ls 3 [(0, .ref q), (1, .int x1), (2, .int x2)] := hl
  exact t_m_layAll_0 zc hK hM va_S.rf (lv_sub hl [0, 1, 2] rfl) hw
-- m_stop
abbrev rm_m_stop : Room := { frames := 4, cells := 0, slots := 0, locals := 87 }
def q_m_stop_0 (f_code : Int32) (a_many : Nat → Int32) (f_land : Int32) (f_evening : Int32) (x1 : Int32) (x2 : Int32) (post : Int32 → (Int32) → (Int32) → (Int32) → Prop) : Prop :=
  q_m_layAll_0 a_many f_land f_evening x1 x2 (fun r_1 f_land_1 f_evening_1 => (r_1 = 0 → (post (-1 : Int32) (0 : Int32) f_land_1 f_evening_1)) ∧ (¬ r_1 = 0 → False))
set_option maxRecDepth 20000 in
theorem t_m_stop_0 {p : Program} {l : Launch} {e : Env} {s : State} {m : MethodId} {args : Array Value} {below : List Frame} {meth : Method} {c : Code} {E : zE} {q : Nat} {f_code : Int32} {a_tape : Nat → Int32} {a_size : Nat → Int32} {a_fault : Nat → Int32} {a_faultPlace : Nat → Int32} {a_many : Nat → Int32} {a_lands : Nat → Int32} {a_evenings : Nat → Int32} {a_sights : Nat → Int32} {a_choirs : Nat → Int32} {f_reached : Int32} {f_length : Int32} {f_begins : Int32} {f_sort : Int32} {f_value : Int32} {f_word : Int64} {f_wrongAt : Int32} {f_laterFault : Int32} {f_laterPlace : Int32} {a_told : Nat → Int32} {a_read : Nat → Int32} {f_farHut : Int32} {f_farSinger : Int32} {f_good : Int32} {f_land : Int32} {f_huts : Int32} {f_singers : Int32} {f_evening : Int32} {a_at : Nat → Int32} {a_knows : Nat → Int32} {a_climbed : Nat → Int32} {a_snow : Nat → Int32} {a_level : Nat → Int32} {f_begun : Int32} {f_minute : Int32} {f_avalanches : Int32} {a_run : Nat → Int32} {a_covers : Nat → Int32} {a_routes : Nat → Int32} {a_longest : Nat → Int32} {a_steep : Nat → Int32} {a_laid : Nat → Int32} {a_far : Nat → Int32} {f_sight : Int32} {a_runs : Nat → Int32} {f_choir : Int32} {f_voices : Int32} {a_rest : Nat → Int64} {a_wins : Nat → Int32} {f_seed : Int32} {a_other : Nat → Int32} {a_kept : Nat → Int32} {post : Int32 → (Int32) → (Int32) → (Int32) → Prop} {x1 : Int32} {x2 : Int32} {ls : Array Slot} {H : Heap} {locs : List Loc}
    (zc : zC p s m args meth c cX11_stop 3 RX11 (some .int))
    (hK : zK E s)
    (hM : mW E q f_code a_tape a_size a_fault a_faultPlace a_many a_lands a_evenings a_sights a_choirs f_reached f_length f_begins f_sort f_value f_word f_wrongAt f_laterFault f_laterPlace a_told a_read f_farHut f_farSinger f_good f_land f_huts f_singers f_evening a_at a_knows a_climbed a_snow a_level f_begun f_minute f_avalanches a_run a_covers a_routes a_longest a_steep a_laid a_far f_sight a_runs f_choir f_voices a_rest a_wins f_seed a_other a_kept H)
    (hS : va_S (mA q) s.heap H locs)
    (hl : lv_has ls 3 [(0, .ref q), (1, .int x1), (2, .int x2)])
    (hw : q_m_stop_0 f_code a_many f_land f_evening x1 x2 post) :
    W p l e rm_m_stop s m args below meth c H locs 0 0 (MQ below (zQi (S := (Int32) × (Int32) × (Int32)) (fun r u => post r u.1 u.2.1 u.2.2) (fun u H => mW E q u.1 a_tape a_size a_fault a_faultPlace a_many a_lands a_evenings a_sights a_choirs f_reached f_length f_begins f_sort f_value f_word f_wrongAt f_laterFault f_laterPlace a_told a_read f_farHut f_farSinger f_good u.2.1 f_huts f_singers u.2.2 a_at a_knows a_climbed a_snow a_level f_begun f_minute f_avalanches a_run a_covers a_routes a_longest a_steep a_laid a_far f_sight a_runs f_choir f_voices a_rest a_wins f_seed a_other a_kept H) (mA q)) args s 0 0 (mA q)) (F0 m 0 ls []) := by
  have hx := zc.1
  have hb := zc.2.1
  refine lv_aload_n hx hb dX11_stop_0 rfl (lv_at hl 0 rfl) ?_
  refine lv_iconst (v := (0 : Int32)) hx hb dX11_stop_1 (by decide) ?_
  refine mp_11_97_0 zc hK hM hS dX11_stop_2 (fun H locs hM hS => ?_)
  refine lv_aload_n hx hb dX11_stop_5 rfl (lv_at hl 0 rfl) ?_
  refine lv_iload_n hx hb dX11_stop_6 rfl (lv_at hl 1 rfl) ?_
  refine lv_iload_n hx hb dX11_stop_7 rfl (lv_at hl 2 rfl) ?_
  refine zVw_i [.int x1, .int x2] [] zc ky_X11_layAll kz_X11_layAll km_11_383 (c_m_layAll l hw) (mPreV0 hK hM) hS rfl rfl hl.1 (Nat.le_of_ble_eq_true rfl) ⟨rfl, rfl⟩ ⟨Nat.le_of_ble_eq_true rfl, Nat.le_of_ble_eq_true rfl⟩ ⟨Nat.zero_le _, Nat.zero_le _⟩ dX11_stop_8 (fun r_1 u H locs hw hM hS => ?_)
  obtain ⟨f_land_1, f_evening_1⟩ := u
  refine lv_if_eq (tgt := 25) hx hb dX11_stop_11 (by decide) (fun hc => ?_) (fun hc => ?_)
  · have hw := hw.1 hc
    refine lv_iconst (v := (-1 : Int32)) hx hb dX11_stop_25 (by decide) ?_
    exact zret_iw ⟨(0 : Int32), f_land_1, f_evening_1⟩ zc hS hw hM dX11_stop_26
  · have hw := hw.2 hc
    refine lv_aload_n hx hb dX11_stop_14 rfl (lv_at hl 0 rfl) ?_
    refine lv_aload_n hx hb dX11_stop_15 rfl (lv_at hl 0 rfl) ?_
    exact hw.elim
set_option maxRecDepth 20000 in
theorem c_m_stop (l : Launch) {E : zE} {q : Nat} {f_code : Int32} {a_tape : Nat → Int32} {a_size : Nat → Int32} {a_fault : Nat → Int32} {a_faultPlace : Nat → Int32} {a_many : Nat → Int32} {a_lands : Nat → Int32} {a_evenings : Nat → Int32} {a_sights : Nat → Int32} {a_choirs : Nat → Int32} {f_reached : Int32} {f_length : Int32} {f_begins : Int32} {f_sort : Int32} {f_value : Int32} {f_word : Int64} {f_wrongAt : Int32} {f_laterFault : Int32} {f_laterPlace : Int32} {a_told : Nat → Int32} {a_read : Nat → Int32} {f_farHut : Int32} {f_farSinger : Int32} {f_good : Int32} {f_land : Int32} {f_huts : Int32} {f_singers : Int32} {f_evening : Int32} {a_at : Nat → Int32} {a_knows : Nat → Int32} {a_climbed : Nat → Int32} {a_snow : Nat → Int32} {a_level : Nat → Int32} {f_begun : Int32} {f_minute : Int32} {f_avalanches : Int32} {a_run : Nat → Int32} {a_covers : Nat → Int32} {a_routes : Nat → Int32} {a_longest : Nat → Int32} {a_steep : Nat → Int32} {a_laid : Nat → Int32} {a_far : Nat → Int32} {f_sight : Int32} {a_runs : Nat → Int32} {f_choir : Int32} {f_voices : Int32} {a_rest : Nat → Int64} {a_wins : Nat → Int32} {f_seed : Int32} {a_other : Nat → Int32} {a_kept : Nat → Int32} {x1 : Int32} {x2 : Int32} {post : Int32 → (Int32) → (Int32) → (Int32) → Prop} (hw : q_m_stop_0 f_code a_many f_land f_evening x1 x2 post) : Met l yX11_stop (Cond.code yX11_stop cX11_stop 3 (some .int) :: zb) rm_m_stop (va_Pc [.ref q, .int x1, .int x2] (fun U => mW E q f_code a_tape a_size a_fault a_faultPlace a_many a_lands a_evenings a_sights a_choirs f_reached f_length f_begins f_sort f_value f_word f_wrongAt f_laterFault f_laterPlace a_told a_read f_farHut f_farSinger f_good f_land f_huts f_singers f_evening a_at a_knows a_climbed a_snow a_level f_begun f_minute f_avalanches a_run a_covers a_routes a_longest a_steep a_laid a_far f_sight a_runs f_choir f_voices a_rest a_wins f_seed a_other a_kept U.heap ∧ zK E U)) (zQi (S := (Int32) × (Int32) × (Int32)) (fun r u => post r u.1 u.2.1 u.2.2) (fun u H => mW E q u.1 a_tape a_size a_fault a_faultPlace a_many a_lands a_evenings a_sights a_choirs f_reached f_length f_begins f_sort f_value f_word f_wrongAt f_laterFault f_laterPlace a_told a_read f_farHut f_farSinger f_good u.2.1 f_huts f_singers u.2.2 a_at a_knows a_climbed a_snow a_level f_begun f_minute f_avalanches a_run a_covers a_routes a_longest a_steep a_laid a_far f_sight a_runs f_choir f_voices a_rest a_wins f_seed a_other a_kept H) (mA q)) 0 0 (mA q) := by
  refine Met.ofW (cc := cX11_stop) (maxL := 3) (ret := (some .int)) (by decide) rfl ?_
  intro p e s m args below meth c s₁ B hml hv
  obtain ⟨rfl, hM, hK⟩ := hv
  have zc := zc_of B hml
  have hl := lv_entry ([.ref q, .int x1, .int x2]) (n := 3) (Nat.le_of_ble_eq_true rfl)
  rw [lg_entry_eq]
  generalize (lg_sl ([.ref q, .int x1, .int x2]) ++ List.replicate (3 - (lg_sl ([.ref q, .int x1, .int x2])).length) Slot.unset).toArray = ls at hl ⊢
  have hl : lv_has ls 3 [(0, .ref q), (1, .int x1), (2, .int x2)] := hl
  exact t_m_stop_0 zc hK hM va_S.rf (lv_sub hl [0, 1, 2] rfl) hw
-- m_state
abbrev rm_m_state : Room := { frames := 4, cells := 0, slots := 0, locals := 87 }
def q_m_state_0 (f_code : Int32) (a_many : Nat → Int32) (f_land : Int32) (f_evening : Int32) (x1 : Int32) (x2 : Int32) (x3 : Int32) (x4 : Int32) (post : Int32 → (Int32) → (Int32) → (Int32) → Prop) : Prop :=
  q_m_layAll_0 a_many f_land f_evening x1 x2 (fun r_1 f_land_1 f_evening_1 => (r_1 = 0 → (post (-1000 : Int32) (0 : Int32) f_land_1 f_evening_1)) ∧ (¬ r_1 = 0 → False))
set_option maxRecDepth 20000 in
theorem t_m_state_0 {p : Program} {l : Launch} {e : Env} {s : State} {m : MethodId} {args : Array Value} {below : List Frame} {meth : Method} {c : Code} {E : zE} {q : Nat} {f_code : Int32} {a_tape : Nat → Int32} {a_size : Nat → Int32} {a_fault : Nat → Int32} {a_faultPlace : Nat → Int32} {a_many : Nat → Int32} {a_lands : Nat → Int32} {a_evenings : Nat → Int32} {a_sights : Nat → Int32} {a_choirs : Nat → Int32} {f_reached : Int32} {f_length : Int32} {f_begins : Int32} {f_sort : Int32} {f_value : Int32} {f_word : Int64} {f_wrongAt : Int32} {f_laterFault : Int32} {f_laterPlace : Int32} {a_told : Nat → Int32} {a_read : Nat → Int32} {f_farHut : Int32} {f_farSinger : Int32} {f_good : Int32} {f_land : Int32} {f_huts : Int32} {f_singers : Int32} {f_evening : Int32} {a_at : Nat → Int32} {a_knows : Nat → Int32} {a_climbed : Nat → Int32} {a_snow : Nat → Int32} {a_level : Nat → Int32} {f_begun : Int32} {f_minute : Int32} {f_avalanches : Int32} {a_run : Nat → Int32} {a_covers : Nat → Int32} {a_routes : Nat → Int32} {a_longest : Nat → Int32} {a_steep : Nat → Int32} {a_laid : Nat → Int32} {a_far : Nat → Int32} {f_sight : Int32} {a_runs : Nat → Int32} {f_choir : Int32} {f_voices : Int32} {a_rest : Nat → Int64} {a_wins : Nat → Int32} {f_seed : Int32} {a_other : Nat → Int32} {a_kept : Nat → Int32} {post : Int32 → (Int32) → (Int32) → (Int32) → Prop} {x1 : Int32} {x2 : Int32} {x3 : Int32} {x4 : Int32} {ls : Array Slot} {H : Heap} {locs : List Loc}
    (zc : zC p s m args meth c cX11_state 5 RX11 (some .int))
    (hK : zK E s)
    (hM : mW E q f_code a_tape a_size a_fault a_faultPlace a_many a_lands a_evenings a_sights a_choirs f_reached f_length f_begins f_sort f_value f_word f_wrongAt f_laterFault f_laterPlace a_told a_read f_farHut f_farSinger f_good f_land f_huts f_singers f_evening a_at a_knows a_climbed a_snow a_level f_begun f_minute f_avalanches a_run a_covers a_routes a_longest a_steep a_laid a_far f_sight a_runs f_choir f_voices a_rest a_wins f_seed a_other a_kept H)
    (hS : va_S (mA q) s.heap H locs)
    (hl : lv_has ls 5 [(0, .ref q), (1, .int x1), (2, .int x2), (3, .int x3), (4, .int x4)])
    (hw : q_m_state_0 f_code a_many f_land f_evening x1 x2 x3 x4 post) :
    W p l e rm_m_state s m args below meth c H locs 0 0 (MQ below (zQi (S := (Int32) × (Int32) × (Int32)) (fun r u => post r u.1 u.2.1 u.2.2) (fun u H => mW E q u.1 a_tape a_size a_fault a_faultPlace a_many a_lands a_evenings a_sights a_choirs f_reached f_length f_begins f_sort f_value f_word f_wrongAt f_laterFault f_laterPlace a_told a_read f_farHut f_farSinger f_good u.2.1 f_huts f_singers u.2.2 a_at a_knows a_climbed a_snow a_level f_begun f_minute f_avalanches a_run a_covers a_routes a_longest a_steep a_laid a_far f_sight a_runs f_choir f_voices a_rest a_wins f_seed a_other a_kept H) (mA q)) args s 0 0 (mA q)) (F0 m 0 ls []) := by
  have hx := zc.1
  have hb := zc.2.1
  refine lv_aload_n hx hb dX11_state_0 rfl (lv_at hl 0 rfl) ?_
  refine lv_iconst (v := (0 : Int32)) hx hb dX11_state_1 (by decide) ?_
  refine mp_11_97_0 zc hK hM hS dX11_state_2 (fun H locs hM hS => ?_)
  refine lv_aload_n hx hb dX11_state_5 rfl (lv_at hl 0 rfl) ?_
  refine lv_iload_n hx hb dX11_state_6 rfl (lv_at hl 1 rfl) ?_
  refine lv_iload_n hx hb dX11_state_7 rfl (lv_at hl 2 rfl) ?_
  refine zVw_i [.int x1, .int x2] [] zc ky_X11_layAll kz_X11_layAll km_11_383 (c_m_layAll l hw) (mPreV0 hK hM) hS rfl rfl hl.1 (Nat.le_of_ble_eq_true rfl) ⟨rfl, rfl⟩ ⟨Nat.le_of_ble_eq_true rfl, Nat.le_of_ble_eq_true rfl⟩ ⟨Nat.zero_le _, Nat.zero_le _⟩ dX11_state_8 (fun r_1 u H locs hw hM hS => ?_)
  obtain ⟨f_land_1, f_evening_1⟩ := u
  refine lv_if_eq (tgt := 44) hx hb dX11_state_11 (by decide) (fun hc => ?_) (fun hc => ?_)
  · have hw := hw.1 hc
    refine lv_sipush (v := (-1000 : Int32)) hx hb dX11_state_44 (by decide) ?_
    exact zret_iw ⟨(0 : Int32), f_land_1, f_evening_1⟩ zc hS hw hM dX11_state_47
  · have hw := hw.2 hc
    refine lv_iload_n hx hb dX11_state_14 rfl (lv_at hl 3 rfl) ?_
    refine lv_iconst (v := (0 : Int32)) hx hb dX11_state_15 (by decide) ?_
    refine lv_aload_n hx hb dX11_state_16 rfl (lv_at hl 0 rfl) ?_
    exact hw.elim
set_option maxRecDepth 20000 in
theorem c_m_state (l : Launch) {E : zE} {q : Nat} {f_code : Int32} {a_tape : Nat → Int32} {a_size : Nat → Int32} {a_fault : Nat → Int32} {a_faultPlace : Nat → Int32} {a_many : Nat → Int32} {a_lands : Nat → Int32} {a_evenings : Nat → Int32} {a_sights : Nat → Int32} {a_choirs : Nat → Int32} {f_reached : Int32} {f_length : Int32} {f_begins : Int32} {f_sort : Int32} {f_value : Int32} {f_word : Int64} {f_wrongAt : Int32} {f_laterFault : Int32} {f_laterPlace : Int32} {a_told : Nat → Int32} {a_read : Nat → Int32} {f_farHut : Int32} {f_farSinger : Int32} {f_good : Int32} {f_land : Int32} {f_huts : Int32} {f_singers : Int32} {f_evening : Int32} {a_at : Nat → Int32} {a_knows : Nat → Int32} {a_climbed : Nat → Int32} {a_snow : Nat → Int32} {a_level : Nat → Int32} {f_begun : Int32} {f_minute : Int32} {f_avalanches : Int32} {a_run : Nat → Int32} {a_covers : Nat → Int32} {a_routes : Nat → Int32} {a_longest : Nat → Int32} {a_steep : Nat → Int32} {a_laid : Nat → Int32} {a_far : Nat → Int32} {f_sight : Int32} {a_runs : Nat → Int32} {f_choir : Int32} {f_voices : Int32} {a_rest : Nat → Int64} {a_wins : Nat → Int32} {f_seed : Int32} {a_other : Nat → Int32} {a_kept : Nat → Int32} {x1 : Int32} {x2 : Int32} {x3 : Int32} {x4 : Int32} {post : Int32 → (Int32) → (Int32) → (Int32) → Prop} (hw : q_m_state_0 f_code a_many f_land f_evening x1 x2 x3 x4 post) : Met l yX11_state (Cond.code yX11_state cX11_state 5 (some .int) :: zb) rm_m_state (va_Pc [.ref q, .int x1, .int x2, .int x3, .int x4] (fun U => mW E q f_code a_tape a_size a_fault a_faultPlace a_many a_lands a_evenings a_sights a_choirs f_reached f_length f_begins f_sort f_value f_word f_wrongAt f_laterFault f_laterPlace a_told a_read f_farHut f_farSinger f_good f_land f_huts f_singers f_evening a_at a_knows a_climbed a_snow a_level f_begun f_minute f_avalanches a_run a_covers a_routes a_longest a_steep a_laid a_far f_sight a_runs f_choir f_voices a_rest a_wins f_seed a_other a_kept U.heap ∧ zK E U)) (zQi (S := (Int32) × (Int32) × (Int32)) (fun r u => post r u.1 u.2.1 u.2.2) (fun u H => mW E q u.1 a_tape a_size a_fault a_faultPlace a_many a_lands a_evenings a_sights a_choirs f_reached f_length f_begins f_sort f_value f_word f_wrongAt f_laterFault f_laterPlace a_told a_read f_farHut f_farSinger f_good u.2.1 f_huts f_singers u.2.2 a_at a_knows a_climbed a_snow a_level f_begun f_minute f_avalanches a_run a_covers a_routes a_longest a_steep a_laid a_far f_sight a_runs f_choir f_voices a_rest a_wins f_seed a_other a_kept H) (mA q)) 0 0 (mA q) := by
  refine Met.ofW (cc := cX11_state) (maxL := 5) (ret := (some .int)) (by decide) rfl ?_
  intro p e s m args below meth c s₁ B hml hv
  obtain ⟨rfl, hM, hK⟩ := hv
  have zc := zc_of B hml
  have hl := lv_entry ([.ref q, .int x1, .int x2, .int x3, .int x4]) (n := 5) (Nat.le_of_ble_eq_true rfl)
  rw [lg_entry_eq]
  generalize (lg_sl ([.ref q, .int x1, .int x2, .int x3, .int x4]) ++ List.replicate (5 - (lg_sl ([.ref q, .int x1, .int x2, .int x3, .int x4])).length) Slot.unset).toArray = ls at hl ⊢
  have hl : lv_has ls 5 [(0, .ref q), (1, .int x1), (2, .int x2), (3, .int x3), (4, .int x4)] := hl
  exact t_m_state_0 zc hK hM va_S.rf (lv_sub hl [0, 1, 2, 3, 4] rfl) hw
-- m_comes
abbrev rm_m_comes : Room := { frames := 3, cells := 0, slots := 0, locals := 65 }
def q_m_comes_0 (f_code : Int32) (a_many : Nat → Int32) (f_land : Int32) (x1 : Int32) (x2 : Int32) (x3 : Int32) (post : Int32 → (Int32) → (Int32) → Prop) : Prop :=
  q_m_hand_0 a_many f_land x1 (fun r_1 f_land_1 => (r_1 = 0 → (post (-1 : Int32) (0 : Int32) f_land_1)) ∧ (¬ r_1 = 0 → False))
set_option maxRecDepth 20000 in
theorem t_m_comes_0 {p : Program} {l : Launch} {e : Env} {s : State} {m : MethodId} {args : Array Value} {below : List Frame} {meth : Method} {c : Code} {E : zE} {q : Nat} {f_code : Int32} {a_tape : Nat → Int32} {a_size : Nat → Int32} {a_fault : Nat → Int32} {a_faultPlace : Nat → Int32} {a_many : Nat → Int32} {a_lands : Nat → Int32} {a_evenings : Nat → Int32} {a_sights : Nat → Int32} {a_choirs : Nat → Int32} {f_reached : Int32} {f_length : Int32} {f_begins : Int32} {f_sort : Int32} {f_value : Int32} {f_word : Int64} {f_wrongAt : Int32} {f_laterFault : Int32} {f_laterPlace : Int32} {a_told : Nat → Int32} {a_read : Nat → Int32} {f_farHut : Int32} {f_farSinger : Int32} {f_good : Int32} {f_land : Int32} {f_huts : Int32} {f_singers : Int32} {f_evening : Int32} {a_at : Nat → Int32} {a_knows : Nat → Int32} {a_climbed : Nat → Int32} {a_snow : Nat → Int32} {a_level : Nat → Int32} {f_begun : Int32} {f_minute : Int32} {f_avalanches : Int32} {a_run : Nat → Int32} {a_covers : Nat → Int32} {a_routes : Nat → Int32} {a_longest : Nat → Int32} {a_steep : Nat → Int32} {a_laid : Nat → Int32} {a_far : Nat → Int32} {f_sight : Int32} {a_runs : Nat → Int32} {f_choir : Int32} {f_voices : Int32} {a_rest : Nat → Int64} {a_wins : Nat → Int32} {f_seed : Int32} {a_other : Nat → Int32} {a_kept : Nat → Int32} {post : Int32 → (Int32) → (Int32) → Prop} {x1 : Int32} {x2 : Int32} {x3 : Int32} {ls : Array Slot} {H : Heap} {locs : List Loc}
    (zc : zC p s m args meth c cX11_comes 4 RX11 (some .int))
    (hK : zK E s)
    (hM : mW E q f_code a_tape a_size a_fault a_faultPlace a_many a_lands a_evenings a_sights a_choirs f_reached f_length f_begins f_sort f_value f_word f_wrongAt f_laterFault f_laterPlace a_told a_read f_farHut f_farSinger f_good f_land f_huts f_singers f_evening a_at a_knows a_climbed a_snow a_level f_begun f_minute f_avalanches a_run a_covers a_routes a_longest a_steep a_laid a_far f_sight a_runs f_choir f_voices a_rest a_wins f_seed a_other a_kept H)
    (hS : va_S (mA q) s.heap H locs)
    (hl : lv_has ls 4 [(0, .ref q), (1, .int x1), (2, .int x2), (3, .int x3)])
    (hw : q_m_comes_0 f_code a_many f_land x1 x2 x3 post) :
    W p l e rm_m_comes s m args below meth c H locs 0 0 (MQ below (zQi (S := (Int32) × (Int32)) (fun r u => post r u.1 u.2) (fun u H => mW E q u.1 a_tape a_size a_fault a_faultPlace a_many a_lands a_evenings a_sights a_choirs f_reached f_length f_begins f_sort f_value f_word f_wrongAt f_laterFault f_laterPlace a_told a_read f_farHut f_farSinger f_good u.2 f_huts f_singers f_evening a_at a_knows a_climbed a_snow a_level f_begun f_minute f_avalanches a_run a_covers a_routes a_longest a_steep a_laid a_far f_sight a_runs f_choir f_voices a_rest a_wins f_seed a_other a_kept H) (mA q)) args s 0 0 (mA q)) (F0 m 0 ls []) := by
  have hx := zc.1
  have hb := zc.2.1
  refine lv_aload_n hx hb dX11_comes_0 rfl (lv_at hl 0 rfl) ?_
  refine lv_iconst (v := (0 : Int32)) hx hb dX11_comes_1 (by decide) ?_
  refine mp_11_97_0 zc hK hM hS dX11_comes_2 (fun H locs hM hS => ?_)
  refine lv_aload_n hx hb dX11_comes_5 rfl (lv_at hl 0 rfl) ?_
  refine lv_iload_n hx hb dX11_comes_6 rfl (lv_at hl 1 rfl) ?_
  refine zVw_i [.int x1] [] zc ky_X11_hand kz_X11_hand km_11_313 (c_m_hand l hw) (mPreV0 hK hM) hS rfl rfl hl.1 (Nat.le_of_ble_eq_true rfl) ⟨rfl, rfl⟩ ⟨Nat.le_of_ble_eq_true rfl, Nat.le_of_ble_eq_true rfl⟩ ⟨Nat.zero_le _, Nat.zero_le _⟩ dX11_comes_7 (fun r_1 f_land_1 H locs hw hM hS => ?_)
  refine lv_if_eq (tgt := 29) hx hb dX11_comes_10 (by decide) (fun hc => ?_) (fun hc => ?_)
  · have hw := hw.1 hc
    refine lv_iconst (v := (-1 : Int32)) hx hb dX11_comes_29 (by decide) ?_
    exact zret_iw ⟨(0 : Int32), f_land_1⟩ zc hS hw hM dX11_comes_30
  · have hw := hw.2 hc
    refine lv_aload_n hx hb dX11_comes_13 rfl (lv_at hl 0 rfl) ?_
    refine lv_iload_n hx hb dX11_comes_14 rfl (lv_at hl 2 rfl) ?_
    exact hw.elim
set_option maxRecDepth 20000 in
theorem c_m_comes (l : Launch) {E : zE} {q : Nat} {f_code : Int32} {a_tape : Nat → Int32} {a_size : Nat → Int32} {a_fault : Nat → Int32} {a_faultPlace : Nat → Int32} {a_many : Nat → Int32} {a_lands : Nat → Int32} {a_evenings : Nat → Int32} {a_sights : Nat → Int32} {a_choirs : Nat → Int32} {f_reached : Int32} {f_length : Int32} {f_begins : Int32} {f_sort : Int32} {f_value : Int32} {f_word : Int64} {f_wrongAt : Int32} {f_laterFault : Int32} {f_laterPlace : Int32} {a_told : Nat → Int32} {a_read : Nat → Int32} {f_farHut : Int32} {f_farSinger : Int32} {f_good : Int32} {f_land : Int32} {f_huts : Int32} {f_singers : Int32} {f_evening : Int32} {a_at : Nat → Int32} {a_knows : Nat → Int32} {a_climbed : Nat → Int32} {a_snow : Nat → Int32} {a_level : Nat → Int32} {f_begun : Int32} {f_minute : Int32} {f_avalanches : Int32} {a_run : Nat → Int32} {a_covers : Nat → Int32} {a_routes : Nat → Int32} {a_longest : Nat → Int32} {a_steep : Nat → Int32} {a_laid : Nat → Int32} {a_far : Nat → Int32} {f_sight : Int32} {a_runs : Nat → Int32} {f_choir : Int32} {f_voices : Int32} {a_rest : Nat → Int64} {a_wins : Nat → Int32} {f_seed : Int32} {a_other : Nat → Int32} {a_kept : Nat → Int32} {x1 : Int32} {x2 : Int32} {x3 : Int32} {post : Int32 → (Int32) → (Int32) → Prop} (hw : q_m_comes_0 f_code a_many f_land x1 x2 x3 post) : Met l yX11_comes (Cond.code yX11_comes cX11_comes 4 (some .int) :: zb) rm_m_comes (va_Pc [.ref q, .int x1, .int x2, .int x3] (fun U => mW E q f_code a_tape a_size a_fault a_faultPlace a_many a_lands a_evenings a_sights a_choirs f_reached f_length f_begins f_sort f_value f_word f_wrongAt f_laterFault f_laterPlace a_told a_read f_farHut f_farSinger f_good f_land f_huts f_singers f_evening a_at a_knows a_climbed a_snow a_level f_begun f_minute f_avalanches a_run a_covers a_routes a_longest a_steep a_laid a_far f_sight a_runs f_choir f_voices a_rest a_wins f_seed a_other a_kept U.heap ∧ zK E U)) (zQi (S := (Int32) × (Int32)) (fun r u => post r u.1 u.2) (fun u H => mW E q u.1 a_tape a_size a_fault a_faultPlace a_many a_lands a_evenings a_sights a_choirs f_reached f_length f_begins f_sort f_value f_word f_wrongAt f_laterFault f_laterPlace a_told a_read f_farHut f_farSinger f_good u.2 f_huts f_singers f_evening a_at a_knows a_climbed a_snow a_level f_begun f_minute f_avalanches a_run a_covers a_routes a_longest a_steep a_laid a_far f_sight a_runs f_choir f_voices a_rest a_wins f_seed a_other a_kept H) (mA q)) 0 0 (mA q) := by
  refine Met.ofW (cc := cX11_comes) (maxL := 4) (ret := (some .int)) (by decide) rfl ?_
  intro p e s m args below meth c s₁ B hml hv
  obtain ⟨rfl, hM, hK⟩ := hv
  have zc := zc_of B hml
  have hl := lv_entry ([.ref q, .int x1, .int x2, .int x3]) (n := 4) (Nat.le_of_ble_eq_true rfl)
  rw [lg_entry_eq]
  generalize (lg_sl ([.ref q, .int x1, .int x2, .int x3]) ++ List.replicate (4 - (lg_sl ([.ref q, .int x1, .int x2, .int x3])).length) Slot.unset).toArray = ls at hl ⊢
  have hl : lv_has ls 4 [(0, .ref q), (1, .int x1), (2, .int x2), (3, .int x3)] := hl
  exact t_m_comes_0 zc hK hM va_S.rf (lv_sub hl [0, 1, 2, 3] rfl) hw
-- m_villages
abbrev rm_m_villages : Room := { frames := 3, cells := 0, slots := 0, locals := 65 }
def q_m_villages_0 (f_code : Int32) (a_many : Nat → Int32) (f_land : Int32) (x1 : Int32) (x2 : Int32) (x3 : Int32) (post : Int32 → (Int32) → (Int32) → Prop) : Prop :=
  q_m_hand_0 a_many f_land x1 (fun r_1 f_land_1 => (r_1 = 0 → (post (-2 : Int32) (0 : Int32) f_land_1)) ∧ (¬ r_1 = 0 → (q_m_in_0 x2 (0 : Int32) (99 : Int32) (fun r_2 => (r_2 = 0 → (post (-2 : Int32) (0 : Int32) f_land_1)) ∧ (¬ r_2 = 0 → (q_m_in_0 x3 (0 : Int32) (1 : Int32) (fun r_3 => (¬ r_3 = 0 → False) ∧ (r_3 = 0 → (post (-2 : Int32) (0 : Int32) f_land_1)))))))))
set_option maxRecDepth 20000 in
theorem t_m_villages_0 {p : Program} {l : Launch} {e : Env} {s : State} {m : MethodId} {args : Array Value} {below : List Frame} {meth : Method} {c : Code} {E : zE} {q : Nat} {f_code : Int32} {a_tape : Nat → Int32} {a_size : Nat → Int32} {a_fault : Nat → Int32} {a_faultPlace : Nat → Int32} {a_many : Nat → Int32} {a_lands : Nat → Int32} {a_evenings : Nat → Int32} {a_sights : Nat → Int32} {a_choirs : Nat → Int32} {f_reached : Int32} {f_length : Int32} {f_begins : Int32} {f_sort : Int32} {f_value : Int32} {f_word : Int64} {f_wrongAt : Int32} {f_laterFault : Int32} {f_laterPlace : Int32} {a_told : Nat → Int32} {a_read : Nat → Int32} {f_farHut : Int32} {f_farSinger : Int32} {f_good : Int32} {f_land : Int32} {f_huts : Int32} {f_singers : Int32} {f_evening : Int32} {a_at : Nat → Int32} {a_knows : Nat → Int32} {a_climbed : Nat → Int32} {a_snow : Nat → Int32} {a_level : Nat → Int32} {f_begun : Int32} {f_minute : Int32} {f_avalanches : Int32} {a_run : Nat → Int32} {a_covers : Nat → Int32} {a_routes : Nat → Int32} {a_longest : Nat → Int32} {a_steep : Nat → Int32} {a_laid : Nat → Int32} {a_far : Nat → Int32} {f_sight : Int32} {a_runs : Nat → Int32} {f_choir : Int32} {f_voices : Int32} {a_rest : Nat → Int64} {a_wins : Nat → Int32} {f_seed : Int32} {a_other : Nat → Int32} {a_kept : Nat → Int32} {post : Int32 → (Int32) → (Int32) → Prop} {x1 : Int32} {x2 : Int32} {x3 : Int32} {ls : Array Slot} {H : Heap} {locs : List Loc}
    (zc : zC p s m args meth c cX11_villages 5 RX11 (some .int))
    (hK : zK E s)
    (hM : mW E q f_code a_tape a_size a_fault a_faultPlace a_many a_lands a_evenings a_sights a_choirs f_reached f_length f_begins f_sort f_value f_word f_wrongAt f_laterFault f_laterPlace a_told a_read f_farHut f_farSinger f_good f_land f_huts f_singers f_evening a_at a_knows a_climbed a_snow a_level f_begun f_minute f_avalanches a_run a_covers a_routes a_longest a_steep a_laid a_far f_sight a_runs f_choir f_voices a_rest a_wins f_seed a_other a_kept H)
    (hS : va_S (mA q) s.heap H locs)
    (hl : lv_has ls 5 [(0, .ref q), (1, .int x1), (2, .int x2), (3, .int x3)])
    (hw : q_m_villages_0 f_code a_many f_land x1 x2 x3 post) :
    W p l e rm_m_villages s m args below meth c H locs 0 0 (MQ below (zQi (S := (Int32) × (Int32)) (fun r u => post r u.1 u.2) (fun u H => mW E q u.1 a_tape a_size a_fault a_faultPlace a_many a_lands a_evenings a_sights a_choirs f_reached f_length f_begins f_sort f_value f_word f_wrongAt f_laterFault f_laterPlace a_told a_read f_farHut f_farSinger f_good u.2 f_huts f_singers f_evening a_at a_knows a_climbed a_snow a_level f_begun f_minute f_avalanches a_run a_covers a_routes a_longest a_steep a_laid a_far f_sight a_runs f_choir f_voices a_rest a_wins f_seed a_other a_kept H) (mA q)) args s 0 0 (mA q)) (F0 m 0 ls []) := by
  have hx := zc.1
  have hb := zc.2.1
  refine lv_aload_n hx hb dX11_villages_0 rfl (lv_at hl 0 rfl) ?_
  refine lv_iconst (v := (0 : Int32)) hx hb dX11_villages_1 (by decide) ?_
  refine mp_11_97_0 zc hK hM hS dX11_villages_2 (fun H locs hM hS => ?_)
  refine lv_aload_n hx hb dX11_villages_5 rfl (lv_at hl 0 rfl) ?_
  refine lv_iload_n hx hb dX11_villages_6 rfl (lv_at hl 1 rfl) ?_
  refine zVw_i [.int x1] [] zc ky_X11_hand kz_X11_hand km_11_313 (c_m_hand l hw) (mPreV0 hK hM) hS rfl rfl hl.1 (Nat.le_of_ble_eq_true rfl) ⟨rfl, rfl⟩ ⟨Nat.le_of_ble_eq_true rfl, Nat.le_of_ble_eq_true rfl⟩ ⟨Nat.zero_le _, Nat.zero_le _⟩ dX11_villages_7 (fun r_1 f_land_1 H locs hw hM hS => ?_)
  refine lv_if_eq (tgt := 32) hx hb dX11_villages_10 (by decide) (fun hc => ?_) (fun hc => ?_)
  · have hw := hw.1 hc
    refine lv_bipush (v := (-2 : Int32)) hx hb dX11_villages_32 (by decide) ?_
    exact zret_iw ⟨(0 : Int32), f_land_1⟩ zc hS hw hM dX11_villages_34
  · have hw := hw.2 hc
    refine lv_iload_n hx hb dX11_villages_13 rfl (lv_at hl 2 rfl) ?_
    refine lv_iconst (v := (0 : Int32)) hx hb dX11_villages_14 (by decide) ?_
    refine lv_bipush (v := (99 : Int32)) hx hb dX11_villages_15 (by decide) ?_
    refine zS_i [.int x2, .int (0 : Int32), .int (99 : Int32)] [] zc ky_X11_in kz_X11_in km_11_109 (c_m_in l hw) (zPre0 _) rfl rfl hl.1 (Nat.le_of_ble_eq_true rfl) ⟨rfl, rfl⟩ ⟨Nat.le_of_ble_eq_true rfl, Nat.le_of_ble_eq_true rfl⟩ ⟨Nat.zero_le _, Nat.zero_le _⟩ dX11_villages_17 (fun r_2 hw => ?_)
    refine lv_if_eq (tgt := 32) hx hb dX11_villages_20 (by decide) (fun hc => ?_) (fun hc => ?_)
    · have hw := hw.1 hc
      refine lv_bipush (v := (-2 : Int32)) hx hb dX11_villages_32 (by decide) ?_
      exact zret_iw ⟨(0 : Int32), f_land_1⟩ zc hS hw hM dX11_villages_34
    · have hw := hw.2 hc
      refine lv_iload_n hx hb dX11_villages_23 rfl (lv_at hl 3 rfl) ?_
      refine lv_iconst (v := (0 : Int32)) hx hb dX11_villages_24 (by decide) ?_
      refine lv_iconst (v := (1 : Int32)) hx hb dX11_villages_25 (by decide) ?_
      refine zS_i [.int x3, .int (0 : Int32), .int (1 : Int32)] [] zc ky_X11_in kz_X11_in km_11_109 (c_m_in l hw) (zPre0 _) rfl rfl hl.1 (Nat.le_of_ble_eq_true rfl) ⟨rfl, rfl⟩ ⟨Nat.le_of_ble_eq_true rfl, Nat.le_of_ble_eq_true rfl⟩ ⟨Nat.zero_le _, Nat.zero_le _⟩ dX11_villages_26 (fun r_3 hw => ?_)
      refine lv_if_ne (tgt := 35) hx hb dX11_villages_29 (by decide) (fun hc => ?_) (fun hc => ?_)
      · have hw := hw.1 hc
        refine lv_aload_n hx hb dX11_villages_35 rfl (lv_at hl 0 rfl) ?_
        refine lv_iload_n hx hb dX11_villages_36 rfl (lv_at hl 2 rfl) ?_
        exact hw.elim
      · have hw := hw.2 hc
        refine lv_bipush (v := (-2 : Int32)) hx hb dX11_villages_32 (by decide) ?_
        exact zret_iw ⟨(0 : Int32), f_land_1⟩ zc hS hw hM dX11_villages_34
set_option maxRecDepth 20000 in
theorem c_m_villages (l : Launch) {E : zE} {q : Nat} {f_code : Int32} {a_tape : Nat → Int32} {a_size : Nat → Int32} {a_fault : Nat → Int32} {a_faultPlace : Nat → Int32} {a_many : Nat → Int32} {a_lands : Nat → Int32} {a_evenings : Nat → Int32} {a_sights : Nat → Int32} {a_choirs : Nat → Int32} {f_reached : Int32} {f_length : Int32} {f_begins : Int32} {f_sort : Int32} {f_value : Int32} {f_word : Int64} {f_wrongAt : Int32} {f_laterFault : Int32} {f_laterPlace : Int32} {a_told : Nat → Int32} {a_read : Nat → Int32} {f_farHut : Int32} {f_farSinger : Int32} {f_good : Int32} {f_land : Int32} {f_huts : Int32} {f_singers : Int32} {f_evening : Int32} {a_at : Nat → Int32} {a_knows : Nat → Int32} {a_climbed : Nat → Int32} {a_snow : Nat → Int32} {a_level : Nat → Int32} {f_begun : Int32} {f_minute : Int32} {f_avalanches : Int32} {a_run : Nat → Int32} {a_covers : Nat → Int32} {a_routes : Nat → Int32} {a_longest : Nat → Int32} {a_steep : Nat → Int32} {a_laid : Nat → Int32} {a_far : Nat → Int32} {f_sight : Int32} {a_runs : Nat → Int32} {f_choir : Int32} {f_voices : Int32} {a_rest : Nat → Int64} {a_wins : Nat → Int32} {f_seed : Int32} {a_other : Nat → Int32} {a_kept : Nat → Int32} {x1 : Int32} {x2 : Int32} {x3 : Int32} {post : Int32 → (Int32) → (Int32) → Prop} (hw : q_m_villages_0 f_code a_many f_land x1 x2 x3 post) : Met l yX11_villages (Cond.code yX11_villages cX11_villages 5 (some .int) :: zb) rm_m_villages (va_Pc [.ref q, .int x1, .int x2, .int x3] (fun U => mW E q f_code a_tape a_size a_fault a_faultPlace a_many a_lands a_evenings a_sights a_choirs f_reached f_length f_begins f_sort f_value f_word f_wrongAt f_laterFault f_laterPlace a_told a_read f_farHut f_farSinger f_good f_land f_huts f_singers f_evening a_at a_knows a_climbed a_snow a_level f_begun f_minute f_avalanches a_run a_covers a_routes a_longest a_steep a_laid a_far f_sight a_runs f_choir f_voices a_rest a_wins f_seed a_other a_kept U.heap ∧ zK E U)) (zQi (S := (Int32) × (Int32)) (fun r u => post r u.1 u.2) (fun u H => mW E q u.1 a_tape a_size a_fault a_faultPlace a_many a_lands a_evenings a_sights a_choirs f_reached f_length f_begins f_sort f_value f_word f_wrongAt f_laterFault f_laterPlace a_told a_read f_farHut f_farSinger f_good u.2 f_huts f_singers f_evening a_at a_knows a_climbed a_snow a_level f_begun f_minute f_avalanches a_run a_covers a_routes a_longest a_steep a_laid a_far f_sight a_runs f_choir f_voices a_rest a_wins f_seed a_other a_kept H) (mA q)) 0 0 (mA q) := by
  refine Met.ofW (cc := cX11_villages) (maxL := 5) (ret := (some .int)) (by decide) rfl ?_
  intro p e s m args below meth c s₁ B hml hv
  obtain ⟨rfl, hM, hK⟩ := hv
  have zc := zc_of B hml
  have hl := lv_entry ([.ref q, .int x1, .int x2, .int x3]) (n := 5) (Nat.le_of_ble_eq_true rfl)
  rw [lg_entry_eq]
  generalize (lg_sl ([.ref q, .int x1, .int x2, .int x3]) ++ List.replicate (5 - (lg_sl ([.ref q, .int x1, .int x2, .int x3])).length) Slot.unset).toArray = ls at hl ⊢
  have hl : lv_has ls 5 [(0, .ref q), (1, .int x1), (2, .int x2), (3, .int x3)] := hl
  exact t_m_villages_0 zc hK hM va_S.rf (lv_sub hl [0, 1, 2, 3] rfl) hw
-- m_best
abbrev rm_m_best : Room := { frames := 3, cells := 0, slots := 0, locals := 65 }
def q_m_best_100 (f_code : Int32) (a_many : Nat → Int32) (f_land : Int32) (f_huts : Int32) (x3 : Int32) (post : Int32 → (Int32) → (Int32) → Prop) : Prop :=
  post x3 f_code f_land
def q_m_best_25 (f_code : Int32) (a_many : Nat → Int32) (f_land : Int32) (f_huts : Int32) (x2 : Int32) (x3 : Int32) (x4 : Int32) (x5 : Int32) (post : Int32 → (Int32) → (Int32) → Prop) : Prop :=
  (f_huts ≤ x5 → ((x3 = (-1 : Int32) → (q_m_best_100 f_code a_many f_land f_huts x3 post)) ∧ (¬ x3 = (-1 : Int32) → ((¬ x2 = 0 → (post x4 f_code f_land)) ∧ (x2 = 0 → (q_m_best_100 f_code a_many f_land f_huts x3 post)))))) ∧ (¬ f_huts ≤ x5 → False)
def q_m_best_0 (f_code : Int32) (a_many : Nat → Int32) (f_land : Int32) (f_huts : Int32) (x1 : Int32) (x2 : Int32) (post : Int32 → (Int32) → (Int32) → Prop) : Prop :=
  q_m_hand_0 a_many f_land x1 (fun r_1 f_land_1 => (¬ r_1 = 0 → (q_m_best_25 (0 : Int32) a_many f_land_1 f_huts x2 (-1 : Int32) (1000000 : Int32) (0 : Int32) post)) ∧ (r_1 = 0 → (post (-1 : Int32) (0 : Int32) f_land_1)))
set_option maxRecDepth 20000 in
theorem t_m_best_100 {p : Program} {l : Launch} {e : Env} {s : State} {m : MethodId} {args : Array Value} {below : List Frame} {meth : Method} {c : Code} {E : zE} {q : Nat} {f_code : Int32} {a_tape : Nat → Int32} {a_size : Nat → Int32} {a_fault : Nat → Int32} {a_faultPlace : Nat → Int32} {a_many : Nat → Int32} {a_lands : Nat → Int32} {a_evenings : Nat → Int32} {a_sights : Nat → Int32} {a_choirs : Nat → Int32} {f_reached : Int32} {f_length : Int32} {f_begins : Int32} {f_sort : Int32} {f_value : Int32} {f_word : Int64} {f_wrongAt : Int32} {f_laterFault : Int32} {f_laterPlace : Int32} {a_told : Nat → Int32} {a_read : Nat → Int32} {f_farHut : Int32} {f_farSinger : Int32} {f_good : Int32} {f_land : Int32} {f_huts : Int32} {f_singers : Int32} {f_evening : Int32} {a_at : Nat → Int32} {a_knows : Nat → Int32} {a_climbed : Nat → Int32} {a_snow : Nat → Int32} {a_level : Nat → Int32} {f_begun : Int32} {f_minute : Int32} {f_avalanches : Int32} {a_run : Nat → Int32} {a_covers : Nat → Int32} {a_routes : Nat → Int32} {a_longest : Nat → Int32} {a_steep : Nat → Int32} {a_laid : Nat → Int32} {a_far : Nat → Int32} {f_sight : Int32} {a_runs : Nat → Int32} {f_choir : Int32} {f_voices : Int32} {a_rest : Nat → Int64} {a_wins : Nat → Int32} {f_seed : Int32} {a_other : Nat → Int32} {a_kept : Nat → Int32} {post : Int32 → (Int32) → (Int32) → Prop} {x3 : Int32} {ls : Array Slot} {H : Heap} {locs : List Loc}
    (zc : zC p s m args meth c cX11_best 7 RX11 (some .int))
    (hK : zK E s)
    (hM : mW E q f_code a_tape a_size a_fault a_faultPlace a_many a_lands a_evenings a_sights a_choirs f_reached f_length f_begins f_sort f_value f_word f_wrongAt f_laterFault f_laterPlace a_told a_read f_farHut f_farSinger f_good f_land f_huts f_singers f_evening a_at a_knows a_climbed a_snow a_level f_begun f_minute f_avalanches a_run a_covers a_routes a_longest a_steep a_laid a_far f_sight a_runs f_choir f_voices a_rest a_wins f_seed a_other a_kept H)
    (hS : va_S (mA q) s.heap H locs)
    (hl : lv_has ls 7 [(3, .int x3)])
    (hw : q_m_best_100 f_code a_many f_land f_huts x3 post) :
    W p l e rm_m_best s m args below meth c H locs 0 0 (MQ below (zQi (S := (Int32) × (Int32)) (fun r u => post r u.1 u.2) (fun u H => mW E q u.1 a_tape a_size a_fault a_faultPlace a_many a_lands a_evenings a_sights a_choirs f_reached f_length f_begins f_sort f_value f_word f_wrongAt f_laterFault f_laterPlace a_told a_read f_farHut f_farSinger f_good u.2 f_huts f_singers f_evening a_at a_knows a_climbed a_snow a_level f_begun f_minute f_avalanches a_run a_covers a_routes a_longest a_steep a_laid a_far f_sight a_runs f_choir f_voices a_rest a_wins f_seed a_other a_kept H) (mA q)) args s 0 0 (mA q)) (F0 m 100 ls []) := by
  have hx := zc.1
  have hb := zc.2.1
  refine lv_iload_n hx hb dX11_best_100 rfl (lv_at hl 0 rfl) ?_
  refine lv_goto (tgt := 106) hx hb dX11_best_101 (by decide) ?_
  exact zret_iw ⟨f_code, f_land⟩ zc hS hw hM dX11_best_106
set_option maxRecDepth 20000 in
theorem t_m_best_25 {p : Program} {l : Launch} {e : Env} {s : State} {m : MethodId} {args : Array Value} {below : List Frame} {meth : Method} {c : Code} {E : zE} {q : Nat} {f_code : Int32} {a_tape : Nat → Int32} {a_size : Nat → Int32} {a_fault : Nat → Int32} {a_faultPlace : Nat → Int32} {a_many : Nat → Int32} {a_lands : Nat → Int32} {a_evenings : Nat → Int32} {a_sights : Nat → Int32} {a_choirs : Nat → Int32} {f_reached : Int32} {f_length : Int32} {f_begins : Int32} {f_sort : Int32} {f_value : Int32} {f_word : Int64} {f_wrongAt : Int32} {f_laterFault : Int32} {f_laterPlace : Int32} {a_told : Nat → Int32} {a_read : Nat → Int32} {f_farHut : Int32} {f_farSinger : Int32} {f_good : Int32} {f_land : Int32} {f_huts : Int32} {f_singers : Int32} {f_evening : Int32} {a_at : Nat → Int32} {a_knows : Nat → Int32} {a_climbed : Nat → Int32} {a_snow : Nat → Int32} {a_level : Nat → Int32} {f_begun : Int32} {f_minute : Int32} {f_avalanches : Int32} {a_run : Nat → Int32} {a_covers : Nat → Int32} {a_routes : Nat → Int32} {a_longest : Nat → Int32} {a_steep : Nat → Int32} {a_laid : Nat → Int32} {a_far : Nat → Int32} {f_sight : Int32} {a_runs : Nat → Int32} {f_choir : Int32} {f_voices : Int32} {a_rest : Nat → Int64} {a_wins : Nat → Int32} {f_seed : Int32} {a_other : Nat → Int32} {a_kept : Nat → Int32} {post : Int32 → (Int32) → (Int32) → Prop} {x2 : Int32} {x3 : Int32} {x4 : Int32} {x5 : Int32} {ls : Array Slot} {H : Heap} {locs : List Loc}
    (zc : zC p s m args meth c cX11_best 7 RX11 (some .int))
    (hK : zK E s)
    (hM : mW E q f_code a_tape a_size a_fault a_faultPlace a_many a_lands a_evenings a_sights a_choirs f_reached f_length f_begins f_sort f_value f_word f_wrongAt f_laterFault f_laterPlace a_told a_read f_farHut f_farSinger f_good f_land f_huts f_singers f_evening a_at a_knows a_climbed a_snow a_level f_begun f_minute f_avalanches a_run a_covers a_routes a_longest a_steep a_laid a_far f_sight a_runs f_choir f_voices a_rest a_wins f_seed a_other a_kept H)
    (hS : va_S (mA q) s.heap H locs)
    (hl : lv_has ls 7 [(0, .ref q), (2, .int x2), (3, .int x3), (4, .int x4), (5, .int x5)])
    (hw : q_m_best_25 f_code a_many f_land f_huts x2 x3 x4 x5 post) :
    W p l e rm_m_best s m args below meth c H locs 0 0 (MQ below (zQi (S := (Int32) × (Int32)) (fun r u => post r u.1 u.2) (fun u H => mW E q u.1 a_tape a_size a_fault a_faultPlace a_many a_lands a_evenings a_sights a_choirs f_reached f_length f_begins f_sort f_value f_word f_wrongAt f_laterFault f_laterPlace a_told a_read f_farHut f_farSinger f_good u.2 f_huts f_singers f_evening a_at a_knows a_climbed a_snow a_level f_begun f_minute f_avalanches a_run a_covers a_routes a_longest a_steep a_laid a_far f_sight a_runs f_choir f_voices a_rest a_wins f_seed a_other a_kept H) (mA q)) args s 0 0 (mA q)) (F0 m 25 ls []) := by
  have hx := zc.1
  have hb := zc.2.1
  refine lv_iload hx hb dX11_best_25 (lv_at hl 4 rfl) ?_
  refine lv_aload_n hx hb dX11_best_27 rfl (lv_at hl 0 rfl) ?_
  refine mg_11_307_0 zc hK hM dX11_best_28 ?_
  refine lv_icmp_ge (tgt := 91) hx hb dX11_best_31 (by decide) (fun hc => ?_) (fun hc => ?_)
  · have hw := hw.1 hc
    refine lv_iload_n hx hb dX11_best_91 rfl (lv_at hl 2 rfl) ?_
    refine lv_iconst (v := (-1 : Int32)) hx hb dX11_best_92 (by decide) ?_
    refine lv_icmp_eq (tgt := 100) hx hb dX11_best_93 (by decide) (fun hc => ?_) (fun hc => ?_)
    · have hw := hw.1 hc
      exact t_m_best_100 zc hK hM hS  (lv_sub hl [2] rfl) hw
    · have hw := hw.2 hc
      refine lv_iload_n hx hb dX11_best_96 rfl (lv_at hl 1 rfl) ?_
      refine lv_if_ne (tgt := 104) hx hb dX11_best_97 (by decide) (fun hc => ?_) (fun hc => ?_)
      · have hw := hw.1 hc
        refine lv_iload hx hb dX11_best_104 (lv_at hl 3 rfl) ?_
        exact zret_iw ⟨f_code, f_land⟩ zc hS hw hM dX11_best_106
      · have hw := hw.2 hc
        exact t_m_best_100 zc hK hM hS  (lv_sub hl [2] rfl) hw
  · have hw := hw.2 hc
    refine lv_aload_n hx hb dX11_best_34 rfl (lv_at hl 0 rfl) ?_
    refine lv_iload hx hb dX11_best_35 (lv_at hl 4 rfl) ?_
    refine lv_iconst (v := (0 : Int32)) hx hb dX11_best_37 (by decide) ?_
    exact hw.elim
set_option maxRecDepth 20000 in
theorem t_m_best_0 {p : Program} {l : Launch} {e : Env} {s : State} {m : MethodId} {args : Array Value} {below : List Frame} {meth : Method} {c : Code} {E : zE} {q : Nat} {f_code : Int32} {a_tape : Nat → Int32} {a_size : Nat → Int32} {a_fault : Nat → Int32} {a_faultPlace : Nat → Int32} {a_many : Nat → Int32} {a_lands : Nat → Int32} {a_evenings : Nat → Int32} {a_sights : Nat → Int32} {a_choirs : Nat → Int32} {f_reached : Int32} {f_length : Int32} {f_begins : Int32} {f_sort : Int32} {f_value : Int32} {f_word : Int64} {f_wrongAt : Int32} {f_laterFault : Int32} {f_laterPlace : Int32} {a_told : Nat → Int32} {a_read : Nat → Int32} {f_farHut : Int32} {f_farSinger : Int32} {f_good : Int32} {f_land : Int32} {f_huts : Int32} {f_singers : Int32} {f_evening : Int32} {a_at : Nat → Int32} {a_knows : Nat → Int32} {a_climbed : Nat → Int32} {a_snow : Nat → Int32} {a_level : Nat → Int32} {f_begun : Int32} {f_minute : Int32} {f_avalanches : Int32} {a_run : Nat → Int32} {a_covers : Nat → Int32} {a_routes : Nat → Int32} {a_longest : Nat → Int32} {a_steep : Nat → Int32} {a_laid : Nat → Int32} {a_far : Nat → Int32} {f_sight : Int32} {a_runs : Nat → Int32} {f_choir : Int32} {f_voices : Int32} {a_rest : Nat → Int64} {a_wins : Nat → Int32} {f_seed : Int32} {a_other : Nat → Int32} {a_kept : Nat → Int32} {post : Int32 → (Int32) → (Int32) → Prop} {x1 : Int32} {x2 : Int32} {ls : Array Slot} {H : Heap} {locs : List Loc}
    (zc : zC p s m args meth c cX11_best 7 RX11 (some .int))
    (hK : zK E s)
    (hM : mW E q f_code a_tape a_size a_fault a_faultPlace a_many a_lands a_evenings a_sights a_choirs f_reached f_length f_begins f_sort f_value f_word f_wrongAt f_laterFault f_laterPlace a_told a_read f_farHut f_farSinger f_good f_land f_huts f_singers f_evening a_at a_knows a_climbed a_snow a_level f_begun f_minute f_avalanches a_run a_covers a_routes a_longest a_steep a_laid a_far f_sight a_runs f_choir f_voices a_rest a_wins f_seed a_other a_kept H)
    (hS : va_S (mA q) s.heap H locs)
    (hl : lv_has ls 7 [(0, .ref q), (1, .int x1), (2, .int x2)])
    (hw : q_m_best_0 f_code a_many f_land f_huts x1 x2 post) :
    W p l e rm_m_best s m args below meth c H locs 0 0 (MQ below (zQi (S := (Int32) × (Int32)) (fun r u => post r u.1 u.2) (fun u H => mW E q u.1 a_tape a_size a_fault a_faultPlace a_many a_lands a_evenings a_sights a_choirs f_reached f_length f_begins f_sort f_value f_word f_wrongAt f_laterFault f_laterPlace a_told a_read f_farHut f_farSinger f_good u.2 f_huts f_singers f_evening a_at a_knows a_climbed a_snow a_level f_begun f_minute f_avalanches a_run a_covers a_routes a_longest a_steep a_laid a_far f_sight a_runs f_choir f_voices a_rest a_wins f_seed a_other a_kept H) (mA q)) args s 0 0 (mA q)) (F0 m 0 ls []) := by
  have hx := zc.1
  have hb := zc.2.1
  refine lv_aload_n hx hb dX11_best_0 rfl (lv_at hl 0 rfl) ?_
  refine lv_iconst (v := (0 : Int32)) hx hb dX11_best_1 (by decide) ?_
  refine mp_11_97_0 zc hK hM hS dX11_best_2 (fun H locs hM hS => ?_)
  refine lv_aload_n hx hb dX11_best_5 rfl (lv_at hl 0 rfl) ?_
  refine lv_iload_n hx hb dX11_best_6 rfl (lv_at hl 1 rfl) ?_
  refine zVw_i [.int x1] [] zc ky_X11_hand kz_X11_hand km_11_313 (c_m_hand l hw) (mPreV0 hK hM) hS rfl rfl hl.1 (Nat.le_of_ble_eq_true rfl) ⟨rfl, rfl⟩ ⟨Nat.le_of_ble_eq_true rfl, Nat.le_of_ble_eq_true rfl⟩ ⟨Nat.zero_le _, Nat.zero_le _⟩ dX11_best_7 (fun r_1 f_land_1 H locs hw hM hS => ?_)
  refine lv_if_ne (tgt := 15) hx hb dX11_best_10 (by decide) (fun hc => ?_) (fun hc => ?_)
  · have hw := hw.1 hc
    refine lv_iconst (v := (-1 : Int32)) hx hb dX11_best_15 (by decide) ?_
    refine lv_istore_n (lv' := [(3, .int (-1 : Int32)), (0, .ref q), (1, .int x1), (2, .int x2)]) hx hb dX11_best_16 rfl hl (by decide) rfl (fun ls hl => ?_)
    refine lv_ldcw (v := (1000000 : Int32)) hx hb zc.2.2.2.1 (zc.2.2.2.2.1 _ kc_11_410) dX11_best_17 ?_
    refine lv_istore (lv' := [(4, .int (1000000 : Int32)), (3, .int (-1 : Int32)), (0, .ref q), (1, .int x1), (2, .int x2)]) hx hb dX11_best_20 hl (by decide) rfl (fun ls hl => ?_)
    refine lv_iconst (v := (0 : Int32)) hx hb dX11_best_22 (by decide) ?_
    refine lv_istore (lv' := [(5, .int (0 : Int32)), (4, .int (1000000 : Int32)), (3, .int (-1 : Int32)), (0, .ref q), (1, .int x1), (2, .int x2)]) hx hb dX11_best_23 hl (by decide) rfl (fun ls hl => ?_)
    exact t_m_best_25 zc hK hM hS  (lv_sub hl [3, 5, 2, 1, 0] rfl) hw
  · have hw := hw.2 hc
    refine lv_iconst (v := (-1 : Int32)) hx hb dX11_best_13 (by decide) ?_
    exact zret_iw ⟨(0 : Int32), f_land_1⟩ zc hS hw hM dX11_best_14
set_option maxRecDepth 20000 in
theorem c_m_best (l : Launch) {E : zE} {q : Nat} {f_code : Int32} {a_tape : Nat → Int32} {a_size : Nat → Int32} {a_fault : Nat → Int32} {a_faultPlace : Nat → Int32} {a_many : Nat → Int32} {a_lands : Nat → Int32} {a_evenings : Nat → Int32} {a_sights : Nat → Int32} {a_choirs : Nat → Int32} {f_reached : Int32} {f_length : Int32} {f_begins : Int32} {f_sort : Int32} {f_value : Int32} {f_word : Int64} {f_wrongAt : Int32} {f_laterFault : Int32} {f_laterPlace : Int32} {a_told : Nat → Int32} {a_read : Nat → Int32} {f_farHut : Int32} {f_farSinger : Int32} {f_good : Int32} {f_land : Int32} {f_huts : Int32} {f_singers : Int32} {f_evening : Int32} {a_at : Nat → Int32} {a_knows : Nat → Int32} {a_climbed : Nat → Int32} {a_snow : Nat → Int32} {a_level : Nat → Int32} {f_begun : Int32} {f_minute : Int32} {f_avalanches : Int32} {a_run : Nat → Int32} {a_covers : Nat → Int32} {a_routes : Nat → Int32} {a_longest : Nat → Int32} {a_steep : Nat → Int32} {a_laid : Nat → Int32} {a_far : Nat → Int32} {f_sight : Int32} {a_runs : Nat → Int32} {f_choir : Int32} {f_voices : Int32} {a_rest : Nat → Int64} {a_wins : Nat → Int32} {f_seed : Int32} {a_other : Nat → Int32} {a_kept : Nat → Int32} {x1 : Int32} {x2 : Int32} {post : Int32 → (Int32) → (Int32) → Prop} (hw : q_m_best_0 f_code a_many f_land f_huts x1 x2 post) : Met l yX11_best (Cond.code yX11_best cX11_best 7 (some .int) :: zb) rm_m_best (va_Pc [.ref q, .int x1, .int x2] (fun U => mW E q f_code a_tape a_size a_fault a_faultPlace a_many a_lands a_evenings a_sights a_choirs f_reached f_length f_begins f_sort f_value f_word f_wrongAt f_laterFault f_laterPlace a_told a_read f_farHut f_farSinger f_good f_land f_huts f_singers f_evening a_at a_knows a_climbed a_snow a_level f_begun f_minute f_avalanches a_run a_covers a_routes a_longest a_steep a_laid a_far f_sight a_runs f_choir f_voices a_rest a_wins f_seed a_other a_kept U.heap ∧ zK E U)) (zQi (S := (Int32) × (Int32)) (fun r u => post r u.1 u.2) (fun u H => mW E q u.1 a_tape a_size a_fault a_faultPlace a_many a_lands a_evenings a_sights a_choirs f_reached f_length f_begins f_sort f_value f_word f_wrongAt f_laterFault f_laterPlace a_told a_read f_farHut f_farSinger f_good u.2 f_huts f_singers f_evening a_at a_knows a_climbed a_snow a_level f_begun f_minute f_avalanches a_run a_covers a_routes a_longest a_steep a_laid a_far f_sight a_runs f_choir f_voices a_rest a_wins f_seed a_other a_kept H) (mA q)) 0 0 (mA q) := by
  refine Met.ofW (cc := cX11_best) (maxL := 7) (ret := (some .int)) (by decide) rfl ?_
  intro p e s m args below meth c s₁ B hml hv
  obtain ⟨rfl, hM, hK⟩ := hv
  have zc := zc_of B hml
  have hl := lv_entry ([.ref q, .int x1, .int x2]) (n := 7) (Nat.le_of_ble_eq_true rfl)
  rw [lg_entry_eq]
  generalize (lg_sl ([.ref q, .int x1, .int x2]) ++ List.replicate (7 - (lg_sl ([.ref q, .int x1, .int x2])).length) Slot.unset).toArray = ls at hl ⊢
  have hl : lv_has ls 7 [(0, .ref q), (1, .int x1), (2, .int x2)] := hl
  exact t_m_best_0 zc hK hM va_S.rf (lv_sub hl [0, 1, 2] rfl) hw
-- m_routes
abbrev rm_m_routes : Room := { frames := 3, cells := 0, slots := 0, locals := 65 }
def q_m_routes_0 (f_code : Int32) (a_many : Nat → Int32) (f_land : Int32) (x1 : Int32) (x2 : Int32) (x3 : Int32) (x4 : Int32) (post : Int32 → (Int32) → (Int32) → Prop) : Prop :=
  q_m_hand_0 a_many f_land x1 (fun r_1 f_land_1 => (r_1 = 0 → (post (-2 : Int32) (0 : Int32) f_land_1)) ∧ (¬ r_1 = 0 → False))
set_option maxRecDepth 20000 in
theorem t_m_routes_0 {p : Program} {l : Launch} {e : Env} {s : State} {m : MethodId} {args : Array Value} {below : List Frame} {meth : Method} {c : Code} {E : zE} {q : Nat} {f_code : Int32} {a_tape : Nat → Int32} {a_size : Nat → Int32} {a_fault : Nat → Int32} {a_faultPlace : Nat → Int32} {a_many : Nat → Int32} {a_lands : Nat → Int32} {a_evenings : Nat → Int32} {a_sights : Nat → Int32} {a_choirs : Nat → Int32} {f_reached : Int32} {f_length : Int32} {f_begins : Int32} {f_sort : Int32} {f_value : Int32} {f_word : Int64} {f_wrongAt : Int32} {f_laterFault : Int32} {f_laterPlace : Int32} {a_told : Nat → Int32} {a_read : Nat → Int32} {f_farHut : Int32} {f_farSinger : Int32} {f_good : Int32} {f_land : Int32} {f_huts : Int32} {f_singers : Int32} {f_evening : Int32} {a_at : Nat → Int32} {a_knows : Nat → Int32} {a_climbed : Nat → Int32} {a_snow : Nat → Int32} {a_level : Nat → Int32} {f_begun : Int32} {f_minute : Int32} {f_avalanches : Int32} {a_run : Nat → Int32} {a_covers : Nat → Int32} {a_routes : Nat → Int32} {a_longest : Nat → Int32} {a_steep : Nat → Int32} {a_laid : Nat → Int32} {a_far : Nat → Int32} {f_sight : Int32} {a_runs : Nat → Int32} {f_choir : Int32} {f_voices : Int32} {a_rest : Nat → Int64} {a_wins : Nat → Int32} {f_seed : Int32} {a_other : Nat → Int32} {a_kept : Nat → Int32} {post : Int32 → (Int32) → (Int32) → Prop} {x1 : Int32} {x2 : Int32} {x3 : Int32} {x4 : Int32} {ls : Array Slot} {H : Heap} {locs : List Loc}
    (zc : zC p s m args meth c cX11_routes 5 RX11 (some .int))
    (hK : zK E s)
    (hM : mW E q f_code a_tape a_size a_fault a_faultPlace a_many a_lands a_evenings a_sights a_choirs f_reached f_length f_begins f_sort f_value f_word f_wrongAt f_laterFault f_laterPlace a_told a_read f_farHut f_farSinger f_good f_land f_huts f_singers f_evening a_at a_knows a_climbed a_snow a_level f_begun f_minute f_avalanches a_run a_covers a_routes a_longest a_steep a_laid a_far f_sight a_runs f_choir f_voices a_rest a_wins f_seed a_other a_kept H)
    (hS : va_S (mA q) s.heap H locs)
    (hl : lv_has ls 5 [(0, .ref q), (1, .int x1), (2, .int x2), (3, .int x3), (4, .int x4)])
    (hw : q_m_routes_0 f_code a_many f_land x1 x2 x3 x4 post) :
    W p l e rm_m_routes s m args below meth c H locs 0 0 (MQ below (zQi (S := (Int32) × (Int32)) (fun r u => post r u.1 u.2) (fun u H => mW E q u.1 a_tape a_size a_fault a_faultPlace a_many a_lands a_evenings a_sights a_choirs f_reached f_length f_begins f_sort f_value f_word f_wrongAt f_laterFault f_laterPlace a_told a_read f_farHut f_farSinger f_good u.2 f_huts f_singers f_evening a_at a_knows a_climbed a_snow a_level f_begun f_minute f_avalanches a_run a_covers a_routes a_longest a_steep a_laid a_far f_sight a_runs f_choir f_voices a_rest a_wins f_seed a_other a_kept H) (mA q)) args s 0 0 (mA q)) (F0 m 0 ls []) := by
  have hx := zc.1
  have hb := zc.2.1
  refine lv_aload_n hx hb dX11_routes_0 rfl (lv_at hl 0 rfl) ?_
  refine lv_iconst (v := (0 : Int32)) hx hb dX11_routes_1 (by decide) ?_
  refine mp_11_97_0 zc hK hM hS dX11_routes_2 (fun H locs hM hS => ?_)
  refine lv_aload_n hx hb dX11_routes_5 rfl (lv_at hl 0 rfl) ?_
  refine lv_iload_n hx hb dX11_routes_6 rfl (lv_at hl 1 rfl) ?_
  refine zVw_i [.int x1] [] zc ky_X11_hand kz_X11_hand km_11_313 (c_m_hand l hw) (mPreV0 hK hM) hS rfl rfl hl.1 (Nat.le_of_ble_eq_true rfl) ⟨rfl, rfl⟩ ⟨Nat.le_of_ble_eq_true rfl, Nat.le_of_ble_eq_true rfl⟩ ⟨Nat.zero_le _, Nat.zero_le _⟩ dX11_routes_7 (fun r_1 f_land_1 H locs hw hM hS => ?_)
  refine lv_if_eq (tgt := 44) hx hb dX11_routes_10 (by decide) (fun hc => ?_) (fun hc => ?_)
  · have hw := hw.1 hc
    refine lv_bipush (v := (-2 : Int32)) hx hb dX11_routes_44 (by decide) ?_
    exact zret_iw ⟨(0 : Int32), f_land_1⟩ zc hS hw hM dX11_routes_46
  · have hw := hw.2 hc
    refine lv_aload_n hx hb dX11_routes_13 rfl (lv_at hl 0 rfl) ?_
    refine lv_iload_n hx hb dX11_routes_14 rfl (lv_at hl 2 rfl) ?_
    exact hw.elim
set_option maxRecDepth 20000 in
theorem c_m_routes (l : Launch) {E : zE} {q : Nat} {f_code : Int32} {a_tape : Nat → Int32} {a_size : Nat → Int32} {a_fault : Nat → Int32} {a_faultPlace : Nat → Int32} {a_many : Nat → Int32} {a_lands : Nat → Int32} {a_evenings : Nat → Int32} {a_sights : Nat → Int32} {a_choirs : Nat → Int32} {f_reached : Int32} {f_length : Int32} {f_begins : Int32} {f_sort : Int32} {f_value : Int32} {f_word : Int64} {f_wrongAt : Int32} {f_laterFault : Int32} {f_laterPlace : Int32} {a_told : Nat → Int32} {a_read : Nat → Int32} {f_farHut : Int32} {f_farSinger : Int32} {f_good : Int32} {f_land : Int32} {f_huts : Int32} {f_singers : Int32} {f_evening : Int32} {a_at : Nat → Int32} {a_knows : Nat → Int32} {a_climbed : Nat → Int32} {a_snow : Nat → Int32} {a_level : Nat → Int32} {f_begun : Int32} {f_minute : Int32} {f_avalanches : Int32} {a_run : Nat → Int32} {a_covers : Nat → Int32} {a_routes : Nat → Int32} {a_longest : Nat → Int32} {a_steep : Nat → Int32} {a_laid : Nat → Int32} {a_far : Nat → Int32} {f_sight : Int32} {a_runs : Nat → Int32} {f_choir : Int32} {f_voices : Int32} {a_rest : Nat → Int64} {a_wins : Nat → Int32} {f_seed : Int32} {a_other : Nat → Int32} {a_kept : Nat → Int32} {x1 : Int32} {x2 : Int32} {x3 : Int32} {x4 : Int32} {post : Int32 → (Int32) → (Int32) → Prop} (hw : q_m_routes_0 f_code a_many f_land x1 x2 x3 x4 post) : Met l yX11_routes (Cond.code yX11_routes cX11_routes 5 (some .int) :: zb) rm_m_routes (va_Pc [.ref q, .int x1, .int x2, .int x3, .int x4] (fun U => mW E q f_code a_tape a_size a_fault a_faultPlace a_many a_lands a_evenings a_sights a_choirs f_reached f_length f_begins f_sort f_value f_word f_wrongAt f_laterFault f_laterPlace a_told a_read f_farHut f_farSinger f_good f_land f_huts f_singers f_evening a_at a_knows a_climbed a_snow a_level f_begun f_minute f_avalanches a_run a_covers a_routes a_longest a_steep a_laid a_far f_sight a_runs f_choir f_voices a_rest a_wins f_seed a_other a_kept U.heap ∧ zK E U)) (zQi (S := (Int32) × (Int32)) (fun r u => post r u.1 u.2) (fun u H => mW E q u.1 a_tape a_size a_fault a_faultPlace a_many a_lands a_evenings a_sights a_choirs f_reached f_length f_begins f_sort f_value f_word f_wrongAt f_laterFault f_laterPlace a_told a_read f_farHut f_farSinger f_good u.2 f_huts f_singers f_evening a_at a_knows a_climbed a_snow a_level f_begun f_minute f_avalanches a_run a_covers a_routes a_longest a_steep a_laid a_far f_sight a_runs f_choir f_voices a_rest a_wins f_seed a_other a_kept H) (mA q)) 0 0 (mA q) := by
  refine Met.ofW (cc := cX11_routes) (maxL := 5) (ret := (some .int)) (by decide) rfl ?_
  intro p e s m args below meth c s₁ B hml hv
  obtain ⟨rfl, hM, hK⟩ := hv
  have zc := zc_of B hml
  have hl := lv_entry ([.ref q, .int x1, .int x2, .int x3, .int x4]) (n := 5) (Nat.le_of_ble_eq_true rfl)
  rw [lg_entry_eq]
  generalize (lg_sl ([.ref q, .int x1, .int x2, .int x3, .int x4]) ++ List.replicate (5 - (lg_sl ([.ref q, .int x1, .int x2, .int x3, .int x4])).length) Slot.unset).toArray = ls at hl ⊢
  have hl : lv_has ls 5 [(0, .ref q), (1, .int x1), (2, .int x2), (3, .int x3), (4, .int x4)] := hl
  exact t_m_routes_0 zc hK hM va_S.rf (lv_sub hl [0, 1, 2, 3, 4] rfl) hw
-- m_mutes
abbrev rm_m_mutes : Room := { frames := 3, cells := 0, slots := 0, locals := 65 }
def q_m_mutes_0 (f_code : Int32) (a_many : Nat → Int32) (f_land : Int32) (x1 : Int32) (x2 : Int32) (x3 : Int32) (post : Int32 → (Int32) → (Int32) → Prop) : Prop :=
  q_m_hand_0 a_many f_land x1 (fun r_1 f_land_1 => (r_1 = 0 → (post (-2 : Int32) (0 : Int32) f_land_1)) ∧ (¬ r_1 = 0 → False))
set_option maxRecDepth 20000 in
theorem t_m_mutes_0 {p : Program} {l : Launch} {e : Env} {s : State} {m : MethodId} {args : Array Value} {below : List Frame} {meth : Method} {c : Code} {E : zE} {q : Nat} {f_code : Int32} {a_tape : Nat → Int32} {a_size : Nat → Int32} {a_fault : Nat → Int32} {a_faultPlace : Nat → Int32} {a_many : Nat → Int32} {a_lands : Nat → Int32} {a_evenings : Nat → Int32} {a_sights : Nat → Int32} {a_choirs : Nat → Int32} {f_reached : Int32} {f_length : Int32} {f_begins : Int32} {f_sort : Int32} {f_value : Int32} {f_word : Int64} {f_wrongAt : Int32} {f_laterFault : Int32} {f_laterPlace : Int32} {a_told : Nat → Int32} {a_read : Nat → Int32} {f_farHut : Int32} {f_farSinger : Int32} {f_good : Int32} {f_land : Int32} {f_huts : Int32} {f_singers : Int32} {f_evening : Int32} {a_at : Nat → Int32} {a_knows : Nat → Int32} {a_climbed : Nat → Int32} {a_snow : Nat → Int32} {a_level : Nat → Int32} {f_begun : Int32} {f_minute : Int32} {f_avalanches : Int32} {a_run : Nat → Int32} {a_covers : Nat → Int32} {a_routes : Nat → Int32} {a_longest : Nat → Int32} {a_steep : Nat → Int32} {a_laid : Nat → Int32} {a_far : Nat → Int32} {f_sight : Int32} {a_runs : Nat → Int32} {f_choir : Int32} {f_voices : Int32} {a_rest : Nat → Int64} {a_wins : Nat → Int32} {f_seed : Int32} {a_other : Nat → Int32} {a_kept : Nat → Int32} {post : Int32 → (Int32) → (Int32) → Prop} {x1 : Int32} {x2 : Int32} {x3 : Int32} {ls : Array Slot} {H : Heap} {locs : List Loc}
    (zc : zC p s m args meth c cX11_mutes 8 RX11 (some .int))
    (hK : zK E s)
    (hM : mW E q f_code a_tape a_size a_fault a_faultPlace a_many a_lands a_evenings a_sights a_choirs f_reached f_length f_begins f_sort f_value f_word f_wrongAt f_laterFault f_laterPlace a_told a_read f_farHut f_farSinger f_good f_land f_huts f_singers f_evening a_at a_knows a_climbed a_snow a_level f_begun f_minute f_avalanches a_run a_covers a_routes a_longest a_steep a_laid a_far f_sight a_runs f_choir f_voices a_rest a_wins f_seed a_other a_kept H)
    (hS : va_S (mA q) s.heap H locs)
    (hl : lv_has ls 8 [(0, .ref q), (1, .int x1), (2, .int x2), (3, .int x3)])
    (hw : q_m_mutes_0 f_code a_many f_land x1 x2 x3 post) :
    W p l e rm_m_mutes s m args below meth c H locs 0 0 (MQ below (zQi (S := (Int32) × (Int32)) (fun r u => post r u.1 u.2) (fun u H => mW E q u.1 a_tape a_size a_fault a_faultPlace a_many a_lands a_evenings a_sights a_choirs f_reached f_length f_begins f_sort f_value f_word f_wrongAt f_laterFault f_laterPlace a_told a_read f_farHut f_farSinger f_good u.2 f_huts f_singers f_evening a_at a_knows a_climbed a_snow a_level f_begun f_minute f_avalanches a_run a_covers a_routes a_longest a_steep a_laid a_far f_sight a_runs f_choir f_voices a_rest a_wins f_seed a_other a_kept H) (mA q)) args s 0 0 (mA q)) (F0 m 0 ls []) := by
  have hx := zc.1
  have hb := zc.2.1
  refine lv_aload_n hx hb dX11_mutes_0 rfl (lv_at hl 0 rfl) ?_
  refine lv_iconst (v := (0 : Int32)) hx hb dX11_mutes_1 (by decide) ?_
  refine mp_11_97_0 zc hK hM hS dX11_mutes_2 (fun H locs hM hS => ?_)
  refine lv_aload_n hx hb dX11_mutes_5 rfl (lv_at hl 0 rfl) ?_
  refine lv_iload_n hx hb dX11_mutes_6 rfl (lv_at hl 1 rfl) ?_
  refine zVw_i [.int x1] [] zc ky_X11_hand kz_X11_hand km_11_313 (c_m_hand l hw) (mPreV0 hK hM) hS rfl rfl hl.1 (Nat.le_of_ble_eq_true rfl) ⟨rfl, rfl⟩ ⟨Nat.le_of_ble_eq_true rfl, Nat.le_of_ble_eq_true rfl⟩ ⟨Nat.zero_le _, Nat.zero_le _⟩ dX11_mutes_7 (fun r_1 f_land_1 H locs hw hM hS => ?_)
  refine lv_if_eq (tgt := 55) hx hb dX11_mutes_10 (by decide) (fun hc => ?_) (fun hc => ?_)
  · have hw := hw.1 hc
    refine lv_bipush (v := (-2 : Int32)) hx hb dX11_mutes_55 (by decide) ?_
    exact zret_iw ⟨(0 : Int32), f_land_1⟩ zc hS hw hM dX11_mutes_57
  · have hw := hw.2 hc
    refine lv_aload_n hx hb dX11_mutes_13 rfl (lv_at hl 0 rfl) ?_
    refine lv_iload_n hx hb dX11_mutes_14 rfl (lv_at hl 2 rfl) ?_
    exact hw.elim
set_option maxRecDepth 20000 in
theorem c_m_mutes (l : Launch) {E : zE} {q : Nat} {f_code : Int32} {a_tape : Nat → Int32} {a_size : Nat → Int32} {a_fault : Nat → Int32} {a_faultPlace : Nat → Int32} {a_many : Nat → Int32} {a_lands : Nat → Int32} {a_evenings : Nat → Int32} {a_sights : Nat → Int32} {a_choirs : Nat → Int32} {f_reached : Int32} {f_length : Int32} {f_begins : Int32} {f_sort : Int32} {f_value : Int32} {f_word : Int64} {f_wrongAt : Int32} {f_laterFault : Int32} {f_laterPlace : Int32} {a_told : Nat → Int32} {a_read : Nat → Int32} {f_farHut : Int32} {f_farSinger : Int32} {f_good : Int32} {f_land : Int32} {f_huts : Int32} {f_singers : Int32} {f_evening : Int32} {a_at : Nat → Int32} {a_knows : Nat → Int32} {a_climbed : Nat → Int32} {a_snow : Nat → Int32} {a_level : Nat → Int32} {f_begun : Int32} {f_minute : Int32} {f_avalanches : Int32} {a_run : Nat → Int32} {a_covers : Nat → Int32} {a_routes : Nat → Int32} {a_longest : Nat → Int32} {a_steep : Nat → Int32} {a_laid : Nat → Int32} {a_far : Nat → Int32} {f_sight : Int32} {a_runs : Nat → Int32} {f_choir : Int32} {f_voices : Int32} {a_rest : Nat → Int64} {a_wins : Nat → Int32} {f_seed : Int32} {a_other : Nat → Int32} {a_kept : Nat → Int32} {x1 : Int32} {x2 : Int32} {x3 : Int32} {post : Int32 → (Int32) → (Int32) → Prop} (hw : q_m_mutes_0 f_code a_many f_land x1 x2 x3 post) : Met l yX11_mutes (Cond.code yX11_mutes cX11_mutes 8 (some .int) :: zb) rm_m_mutes (va_Pc [.ref q, .int x1, .int x2, .int x3] (fun U => mW E q f_code a_tape a_size a_fault a_faultPlace a_many a_lands a_evenings a_sights a_choirs f_reached f_length f_begins f_sort f_value f_word f_wrongAt f_laterFault f_laterPlace a_told a_read f_farHut f_farSinger f_good f_land f_huts f_singers f_evening a_at a_knows a_climbed a_snow a_level f_begun f_minute f_avalanches a_run a_covers a_routes a_longest a_steep a_laid a_far f_sight a_runs f_choir f_voices a_rest a_wins f_seed a_other a_kept U.heap ∧ zK E U)) (zQi (S := (Int32) × (Int32)) (fun r u => post r u.1 u.2) (fun u H => mW E q u.1 a_tape a_size a_fault a_faultPlace a_many a_lands a_evenings a_sights a_choirs f_reached f_length f_begins f_sort f_value f_word f_wrongAt f_laterFault f_laterPlace a_told a_read f_farHut f_farSinger f_good u.2 f_huts f_singers f_evening a_at a_knows a_climbed a_snow a_level f_begun f_minute f_avalanches a_run a_covers a_routes a_longest a_steep a_laid a_far f_sight a_runs f_choir f_voices a_rest a_wins f_seed a_other a_kept H) (mA q)) 0 0 (mA q) := by
  refine Met.ofW (cc := cX11_mutes) (maxL := 8) (ret := (some .int)) (by decide) rfl ?_
  intro p e s m args below meth c s₁ B hml hv
  obtain ⟨rfl, hM, hK⟩ := hv
  have zc := zc_of B hml
  have hl := lv_entry ([.ref q, .int x1, .int x2, .int x3]) (n := 8) (Nat.le_of_ble_eq_true rfl)
  rw [lg_entry_eq]
  generalize (lg_sl ([.ref q, .int x1, .int x2, .int x3]) ++ List.replicate (8 - (lg_sl ([.ref q, .int x1, .int x2, .int x3])).length) Slot.unset).toArray = ls at hl ⊢
  have hl : lv_has ls 8 [(0, .ref q), (1, .int x1), (2, .int x2), (3, .int x3)] := hl
  exact t_m_mutes_0 zc hK hM va_S.rf (lv_sub hl [0, 1, 2, 3] rfl) hw
-- m_masses
abbrev rm_m_masses : Room := { frames := 3, cells := 0, slots := 0, locals := 65 }
def q_m_masses_0 (f_code : Int32) (a_many : Nat → Int32) (f_land : Int32) (x1 : Int32) (x2 : Int32) (x3 : Int32) (post : Int32 → (Int32) → (Int32) → Prop) : Prop :=
  q_m_hand_0 a_many f_land x1 (fun r_1 f_land_1 => (r_1 = 0 → (post (-1 : Int32) (0 : Int32) f_land_1)) ∧ (¬ r_1 = 0 → (q_m_in_0 x2 (0 : Int32) (99 : Int32) (fun r_2 => (¬ r_2 = 0 → False) ∧ (r_2 = 0 → (post (-1 : Int32) (0 : Int32) f_land_1))))))
set_option maxRecDepth 20000 in
theorem t_m_masses_0 {p : Program} {l : Launch} {e : Env} {s : State} {m : MethodId} {args : Array Value} {below : List Frame} {meth : Method} {c : Code} {E : zE} {q : Nat} {f_code : Int32} {a_tape : Nat → Int32} {a_size : Nat → Int32} {a_fault : Nat → Int32} {a_faultPlace : Nat → Int32} {a_many : Nat → Int32} {a_lands : Nat → Int32} {a_evenings : Nat → Int32} {a_sights : Nat → Int32} {a_choirs : Nat → Int32} {f_reached : Int32} {f_length : Int32} {f_begins : Int32} {f_sort : Int32} {f_value : Int32} {f_word : Int64} {f_wrongAt : Int32} {f_laterFault : Int32} {f_laterPlace : Int32} {a_told : Nat → Int32} {a_read : Nat → Int32} {f_farHut : Int32} {f_farSinger : Int32} {f_good : Int32} {f_land : Int32} {f_huts : Int32} {f_singers : Int32} {f_evening : Int32} {a_at : Nat → Int32} {a_knows : Nat → Int32} {a_climbed : Nat → Int32} {a_snow : Nat → Int32} {a_level : Nat → Int32} {f_begun : Int32} {f_minute : Int32} {f_avalanches : Int32} {a_run : Nat → Int32} {a_covers : Nat → Int32} {a_routes : Nat → Int32} {a_longest : Nat → Int32} {a_steep : Nat → Int32} {a_laid : Nat → Int32} {a_far : Nat → Int32} {f_sight : Int32} {a_runs : Nat → Int32} {f_choir : Int32} {f_voices : Int32} {a_rest : Nat → Int64} {a_wins : Nat → Int32} {f_seed : Int32} {a_other : Nat → Int32} {a_kept : Nat → Int32} {post : Int32 → (Int32) → (Int32) → Prop} {x1 : Int32} {x2 : Int32} {x3 : Int32} {ls : Array Slot} {H : Heap} {locs : List Loc}
    (zc : zC p s m args meth c cX11_masses 6 RX11 (some .int))
    (hK : zK E s)
    (hM : mW E q f_code a_tape a_size a_fault a_faultPlace a_many a_lands a_evenings a_sights a_choirs f_reached f_length f_begins f_sort f_value f_word f_wrongAt f_laterFault f_laterPlace a_told a_read f_farHut f_farSinger f_good f_land f_huts f_singers f_evening a_at a_knows a_climbed a_snow a_level f_begun f_minute f_avalanches a_run a_covers a_routes a_longest a_steep a_laid a_far f_sight a_runs f_choir f_voices a_rest a_wins f_seed a_other a_kept H)
    (hS : va_S (mA q) s.heap H locs)
    (hl : lv_has ls 6 [(0, .ref q), (1, .int x1), (2, .int x2), (3, .int x3)])
    (hw : q_m_masses_0 f_code a_many f_land x1 x2 x3 post) :
    W p l e rm_m_masses s m args below meth c H locs 0 0 (MQ below (zQi (S := (Int32) × (Int32)) (fun r u => post r u.1 u.2) (fun u H => mW E q u.1 a_tape a_size a_fault a_faultPlace a_many a_lands a_evenings a_sights a_choirs f_reached f_length f_begins f_sort f_value f_word f_wrongAt f_laterFault f_laterPlace a_told a_read f_farHut f_farSinger f_good u.2 f_huts f_singers f_evening a_at a_knows a_climbed a_snow a_level f_begun f_minute f_avalanches a_run a_covers a_routes a_longest a_steep a_laid a_far f_sight a_runs f_choir f_voices a_rest a_wins f_seed a_other a_kept H) (mA q)) args s 0 0 (mA q)) (F0 m 0 ls []) := by
  have hx := zc.1
  have hb := zc.2.1
  refine lv_aload_n hx hb dX11_masses_0 rfl (lv_at hl 0 rfl) ?_
  refine lv_iconst (v := (0 : Int32)) hx hb dX11_masses_1 (by decide) ?_
  refine mp_11_97_0 zc hK hM hS dX11_masses_2 (fun H locs hM hS => ?_)
  refine lv_aload_n hx hb dX11_masses_5 rfl (lv_at hl 0 rfl) ?_
  refine lv_iload_n hx hb dX11_masses_6 rfl (lv_at hl 1 rfl) ?_
  refine zVw_i [.int x1] [] zc ky_X11_hand kz_X11_hand km_11_313 (c_m_hand l hw) (mPreV0 hK hM) hS rfl rfl hl.1 (Nat.le_of_ble_eq_true rfl) ⟨rfl, rfl⟩ ⟨Nat.le_of_ble_eq_true rfl, Nat.le_of_ble_eq_true rfl⟩ ⟨Nat.zero_le _, Nat.zero_le _⟩ dX11_masses_7 (fun r_1 f_land_1 H locs hw hM hS => ?_)
  refine lv_if_eq (tgt := 23) hx hb dX11_masses_10 (by decide) (fun hc => ?_) (fun hc => ?_)
  · have hw := hw.1 hc
    refine lv_iconst (v := (-1 : Int32)) hx hb dX11_masses_23 (by decide) ?_
    exact zret_iw ⟨(0 : Int32), f_land_1⟩ zc hS hw hM dX11_masses_24
  · have hw := hw.2 hc
    refine lv_iload_n hx hb dX11_masses_13 rfl (lv_at hl 2 rfl) ?_
    refine lv_iconst (v := (0 : Int32)) hx hb dX11_masses_14 (by decide) ?_
    refine lv_bipush (v := (99 : Int32)) hx hb dX11_masses_15 (by decide) ?_
    refine zS_i [.int x2, .int (0 : Int32), .int (99 : Int32)] [] zc ky_X11_in kz_X11_in km_11_109 (c_m_in l hw) (zPre0 _) rfl rfl hl.1 (Nat.le_of_ble_eq_true rfl) ⟨rfl, rfl⟩ ⟨Nat.le_of_ble_eq_true rfl, Nat.le_of_ble_eq_true rfl⟩ ⟨Nat.zero_le _, Nat.zero_le _⟩ dX11_masses_17 (fun r_2 hw => ?_)
    refine lv_if_ne (tgt := 25) hx hb dX11_masses_20 (by decide) (fun hc => ?_) (fun hc => ?_)
    · have hw := hw.1 hc
      refine lv_aload_n hx hb dX11_masses_25 rfl (lv_at hl 0 rfl) ?_
      exact hw.elim
    · have hw := hw.2 hc
      refine lv_iconst (v := (-1 : Int32)) hx hb dX11_masses_23 (by decide) ?_
      exact zret_iw ⟨(0 : Int32), f_land_1⟩ zc hS hw hM dX11_masses_24
set_option maxRecDepth 20000 in
theorem c_m_masses (l : Launch) {E : zE} {q : Nat} {f_code : Int32} {a_tape : Nat → Int32} {a_size : Nat → Int32} {a_fault : Nat → Int32} {a_faultPlace : Nat → Int32} {a_many : Nat → Int32} {a_lands : Nat → Int32} {a_evenings : Nat → Int32} {a_sights : Nat → Int32} {a_choirs : Nat → Int32} {f_reached : Int32} {f_length : Int32} {f_begins : Int32} {f_sort : Int32} {f_value : Int32} {f_word : Int64} {f_wrongAt : Int32} {f_laterFault : Int32} {f_laterPlace : Int32} {a_told : Nat → Int32} {a_read : Nat → Int32} {f_farHut : Int32} {f_farSinger : Int32} {f_good : Int32} {f_land : Int32} {f_huts : Int32} {f_singers : Int32} {f_evening : Int32} {a_at : Nat → Int32} {a_knows : Nat → Int32} {a_climbed : Nat → Int32} {a_snow : Nat → Int32} {a_level : Nat → Int32} {f_begun : Int32} {f_minute : Int32} {f_avalanches : Int32} {a_run : Nat → Int32} {a_covers : Nat → Int32} {a_routes : Nat → Int32} {a_longest : Nat → Int32} {a_steep : Nat → Int32} {a_laid : Nat → Int32} {a_far : Nat → Int32} {f_sight : Int32} {a_runs : Nat → Int32} {f_choir : Int32} {f_voices : Int32} {a_rest : Nat → Int64} {a_wins : Nat → Int32} {f_seed : Int32} {a_other : Nat → Int32} {a_kept : Nat → Int32} {x1 : Int32} {x2 : Int32} {x3 : Int32} {post : Int32 → (Int32) → (Int32) → Prop} (hw : q_m_masses_0 f_code a_many f_land x1 x2 x3 post) : Met l yX11_masses (Cond.code yX11_masses cX11_masses 6 (some .int) :: zb) rm_m_masses (va_Pc [.ref q, .int x1, .int x2, .int x3] (fun U => mW E q f_code a_tape a_size a_fault a_faultPlace a_many a_lands a_evenings a_sights a_choirs f_reached f_length f_begins f_sort f_value f_word f_wrongAt f_laterFault f_laterPlace a_told a_read f_farHut f_farSinger f_good f_land f_huts f_singers f_evening a_at a_knows a_climbed a_snow a_level f_begun f_minute f_avalanches a_run a_covers a_routes a_longest a_steep a_laid a_far f_sight a_runs f_choir f_voices a_rest a_wins f_seed a_other a_kept U.heap ∧ zK E U)) (zQi (S := (Int32) × (Int32)) (fun r u => post r u.1 u.2) (fun u H => mW E q u.1 a_tape a_size a_fault a_faultPlace a_many a_lands a_evenings a_sights a_choirs f_reached f_length f_begins f_sort f_value f_word f_wrongAt f_laterFault f_laterPlace a_told a_read f_farHut f_farSinger f_good u.2 f_huts f_singers f_evening a_at a_knows a_climbed a_snow a_level f_begun f_minute f_avalanches a_run a_covers a_routes a_longest a_steep a_laid a_far f_sight a_runs f_choir f_voices a_rest a_wins f_seed a_other a_kept H) (mA q)) 0 0 (mA q) := by
  refine Met.ofW (cc := cX11_masses) (maxL := 6) (ret := (some .int)) (by decide) rfl ?_
  intro p e s m args below meth c s₁ B hml hv
  obtain ⟨rfl, hM, hK⟩ := hv
  have zc := zc_of B hml
  have hl := lv_entry ([.ref q, .int x1, .int x2, .int x3]) (n := 6) (Nat.le_of_ble_eq_true rfl)
  rw [lg_entry_eq]
  generalize (lg_sl ([.ref q, .int x1, .int x2, .int x3]) ++ List.replicate (6 - (lg_sl ([.ref q, .int x1, .int x2, .int x3])).length) Slot.unset).toArray = ls at hl ⊢
  have hl : lv_has ls 6 [(0, .ref q), (1, .int x1), (2, .int x2), (3, .int x3)] := hl
  exact t_m_masses_0 zc hK hM va_S.rf (lv_sub hl [0, 1, 2, 3] rfl) hw
