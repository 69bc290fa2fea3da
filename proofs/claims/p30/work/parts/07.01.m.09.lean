section
-- m_findRoutes
abbrev rm_m_findRoutes : Room := { frames := 3, cells := 0, slots := 0, locals := 66 }
def q_m_findRoutes_33 (P2 : Int32 → (Nat → Int32) → (Nat → Int32) → (Nat → Int32) → (Nat → Int32) → Prop) (a_lands : Nat → Int32) (f_land : Int32) (f_huts : Int32) (a_routes : Nat → Int32) (a_longest : Nat → Int32) (a_steep : Nat → Int32) (a_laid : Nat → Int32) (x1 : Int32) (x2 : Int32) (y0 : Int32) (y1 : Int32) (post : (Nat → Int32) → (Nat → Int32) → (Nat → Int32) → (Nat → Int32) → Prop) : Prop :=
  vp_in y0 9 ∧ (∀ a_routes_1 : Nat → Int32, a_routes_1 = upd a_routes (Int32.toNatClampNeg y0) y1 → (vp_in x2 9 ∧ (∀ a_longest_1 : Nat → Int32, a_longest_1 = upd a_longest (Int32.toNatClampNeg x2) (0 : Int32) → (vp_in x2 9 ∧ (∀ a_steep_1 : Nat → Int32, a_steep_1 = upd a_steep (Int32.toNatClampNeg x2) (0 : Int32) → (vp_in x2 9 ∧ (∀ a_laid_1 : Nat → Int32, a_laid_1 = upd a_laid (Int32.toNatClampNeg x2) (vp_nar .boolean (0 : Int32)) → (∀ v_1 : Int32, v_1 = x2 + (1 : Int32) → (P2 v_1 a_routes_1 a_longest_1 a_steep_1 a_laid_1)))))))))
def q_m_findRoutes_32 (P2 : Int32 → (Nat → Int32) → (Nat → Int32) → (Nat → Int32) → (Nat → Int32) → Prop) (a_lands : Nat → Int32) (f_land : Int32) (f_huts : Int32) (a_routes : Nat → Int32) (a_longest : Nat → Int32) (a_steep : Nat → Int32) (a_laid : Nat → Int32) (x1 : Int32) (x2 : Int32) (y0 : Int32) (post : (Nat → Int32) → (Nat → Int32) → (Nat → Int32) → (Nat → Int32) → Prop) : Prop :=
  q_m_findRoutes_33 P2 a_lands f_land f_huts a_routes a_longest a_steep a_laid x1 x2 y0 (0 : Int32) post
def q_m_findRoutes_86 (P63 : Int32 → (Nat → Int32) → (Nat → Int32) → (Nat → Int32) → (Nat → Int32) → Prop) (a_lands : Nat → Int32) (f_land : Int32) (f_huts : Int32) (a_routes : Nat → Int32) (a_longest : Nat → Int32) (a_steep : Nat → Int32) (a_laid : Nat → Int32) (x2 : Int32) (x3 : Int32) (x4 : Int32) (post : (Nat → Int32) → (Nat → Int32) → (Nat → Int32) → (Nat → Int32) → Prop) : Prop :=
  ∀ P86 : Int32 → (Nat → Int32) → (Nat → Int32) → (Nat → Int32) → Prop, (∀ (x4 : Int32) (a_routes : Nat → Int32) (a_longest : Nat → Int32) (a_steep : Nat → Int32), ((f_huts ≤ x4 → (∀ v_1 : Int32, v_1 = x2 + (1 : Int32) → (P63 v_1 a_routes a_longest a_steep a_laid))) ∧ (¬ f_huts ≤ x4 → (q_m_goesDown_0 a_lands f_land a_routes a_longest a_steep x3 x4 (fun a_routes_1 a_longest_1 a_steep_1 => ∀ v_2 : Int32, v_2 = x4 + (1 : Int32) → (P86 v_2 a_routes_1 a_longest_1 a_steep_1))))) → P86 x4 a_routes a_longest a_steep) → P86 x4 a_routes a_longest a_steep
def q_m_findRoutes_63 (a_lands : Nat → Int32) (f_land : Int32) (f_huts : Int32) (a_routes : Nat → Int32) (a_longest : Nat → Int32) (a_steep : Nat → Int32) (a_laid : Nat → Int32) (x2 : Int32) (post : (Nat → Int32) → (Nat → Int32) → (Nat → Int32) → (Nat → Int32) → Prop) : Prop :=
  ∀ P63 : Int32 → (Nat → Int32) → (Nat → Int32) → (Nat → Int32) → (Nat → Int32) → Prop, (∀ (x2 : Int32) (a_routes : Nat → Int32) (a_longest : Nat → Int32) (a_steep : Nat → Int32) (a_laid : Nat → Int32), ((f_huts ≤ x2 → (post a_routes a_longest a_steep a_laid)) ∧ (¬ f_huts ≤ x2 → (q_m_nextDown_0 a_lands f_land f_huts a_laid (fun r_1 => vp_in r_1 9 ∧ (∀ a_laid_1 : Nat → Int32, a_laid_1 = upd a_laid (Int32.toNatClampNeg r_1) (vp_nar .boolean (1 : Int32)) → (q_m_findRoutes_86 P63 a_lands f_land f_huts a_routes a_longest a_steep a_laid_1 x2 r_1 (0 : Int32) post)))))) → P63 x2 a_routes a_longest a_steep a_laid) → P63 x2 a_routes a_longest a_steep a_laid
def q_m_findRoutes_2 (a_lands : Nat → Int32) (f_land : Int32) (f_huts : Int32) (a_routes : Nat → Int32) (a_longest : Nat → Int32) (a_steep : Nat → Int32) (a_laid : Nat → Int32) (x1 : Int32) (x2 : Int32) (post : (Nat → Int32) → (Nat → Int32) → (Nat → Int32) → (Nat → Int32) → Prop) : Prop :=
  ∀ P2 : Int32 → (Nat → Int32) → (Nat → Int32) → (Nat → Int32) → (Nat → Int32) → Prop, (∀ (x2 : Int32) (a_routes : Nat → Int32) (a_longest : Nat → Int32) (a_steep : Nat → Int32) (a_laid : Nat → Int32), ((f_huts ≤ x2 → (q_m_findRoutes_63 a_lands f_land f_huts a_routes a_longest a_steep a_laid (0 : Int32) post)) ∧ (¬ f_huts ≤ x2 → ((¬ x2 = x1 → (q_m_findRoutes_32 P2 a_lands f_land f_huts a_routes a_longest a_steep a_laid x1 x2 x2 post)) ∧ (x2 = x1 → (q_m_isDam_0 a_lands f_land x2 (fun r_1 => (¬ r_1 = 0 → (q_m_findRoutes_32 P2 a_lands f_land f_huts a_routes a_longest a_steep a_laid x1 x2 x2 post)) ∧ (r_1 = 0 → (q_m_findRoutes_33 P2 a_lands f_land f_huts a_routes a_longest a_steep a_laid x1 x2 x2 (1 : Int32) post)))))))) → P2 x2 a_routes a_longest a_steep a_laid) → P2 x2 a_routes a_longest a_steep a_laid
def q_m_findRoutes_0 (a_lands : Nat → Int32) (f_land : Int32) (f_huts : Int32) (a_routes : Nat → Int32) (a_longest : Nat → Int32) (a_steep : Nat → Int32) (a_laid : Nat → Int32) (x1 : Int32) (post : (Nat → Int32) → (Nat → Int32) → (Nat → Int32) → (Nat → Int32) → Prop) : Prop :=
  q_m_findRoutes_2 a_lands f_land f_huts a_routes a_longest a_steep a_laid x1 (0 : Int32) post
set_option maxRecDepth 20000 in
theorem t_m_findRoutes_33 {p : Program} {l : Launch} {e : Env} {s : State} {m : MethodId} {args : Array Value} {below : List Frame} {meth : Method} {c : Code} {E : zE} {q : Nat} {f_code : Int32} {a_tape : Nat → Int32} {a_size : Nat → Int32} {a_fault : Nat → Int32} {a_faultPlace : Nat → Int32} {a_many : Nat → Int32} {a_lands : Nat → Int32} {a_evenings : Nat → Int32} {a_sights : Nat → Int32} {a_choirs : Nat → Int32} {f_reached : Int32} {f_length : Int32} {f_begins : Int32} {f_sort : Int32} {f_value : Int32} {f_word : Int64} {f_wrongAt : Int32} {f_laterFault : Int32} {f_laterPlace : Int32} {a_told : Nat → Int32} {a_read : Nat → Int32} {f_farHut : Int32} {f_farSinger : Int32} {f_good : Int32} {f_land : Int32} {f_huts : Int32} {f_singers : Int32} {f_evening : Int32} {a_at : Nat → Int32} {a_knows : Nat → Int32} {a_climbed : Nat → Int32} {a_snow : Nat → Int32} {a_level : Nat → Int32} {f_begun : Int32} {f_minute : Int32} {f_avalanches : Int32} {a_run : Nat → Int32} {a_covers : Nat → Int32} {a_routes : Nat → Int32} {a_longest : Nat → Int32} {a_steep : Nat → Int32} {a_laid : Nat → Int32} {a_far : Nat → Int32} {f_sight : Int32} {a_runs : Nat → Int32} {f_choir : Int32} {f_voices : Int32} {a_rest : Nat → Int64} {a_wins : Nat → Int32} {f_seed : Int32} {a_other : Nat → Int32} {a_kept : Nat → Int32} {P2 : Int32 → (Nat → Int32) → (Nat → Int32) → (Nat → Int32) → (Nat → Int32) → Prop} {post : (Nat → Int32) → (Nat → Int32) → (Nat → Int32) → (Nat → Int32) → Prop} {x1 : Int32} {x2 : Int32} {y0 : Int32} {y1 : Int32} {ls : Array Slot} {H : Heap} {locs : List Loc}
    (zc : zC p s m args meth c cX11_findRoutes 5 RX11 none)
    (hK : zK E s)
    (hM : mW E q f_code a_tape a_size a_fault a_faultPlace a_many a_lands a_evenings a_sights a_choirs f_reached f_length f_begins f_sort f_value f_word f_wrongAt f_laterFault f_laterPlace a_told a_read f_farHut f_farSinger f_good f_land f_huts f_singers f_evening a_at a_knows a_climbed a_snow a_level f_begun f_minute f_avalanches a_run a_covers a_routes a_longest a_steep a_laid a_far f_sight a_runs f_choir f_voices a_rest a_wins f_seed a_other a_kept H)
    (hS : va_S (mA q) s.heap H locs)
    (hP2 : ∀ (x2 : Int32) (a_routes : Nat → Int32) (a_longest : Nat → Int32) (a_steep : Nat → Int32) (a_laid : Nat → Int32) (H : Heap) (locs : List Loc) (ls : Array Slot), P2 x2 a_routes a_longest a_steep a_laid → lv_has ls 5 [(0, .ref q), (1, .int x1), (2, .int x2)] → mW E q f_code a_tape a_size a_fault a_faultPlace a_many a_lands a_evenings a_sights a_choirs f_reached f_length f_begins f_sort f_value f_word f_wrongAt f_laterFault f_laterPlace a_told a_read f_farHut f_farSinger f_good f_land f_huts f_singers f_evening a_at a_knows a_climbed a_snow a_level f_begun f_minute f_avalanches a_run a_covers a_routes a_longest a_steep a_laid a_far f_sight a_runs f_choir f_voices a_rest a_wins f_seed a_other a_kept H → va_S (mA q) s.heap H locs → W p l e rm_m_findRoutes s m args below meth c H locs 0 0 (MQ below (zQv (S := (Nat → Int32) × (Nat → Int32) × (Nat → Int32) × (Nat → Int32)) (fun u => post u.1 u.2.1 u.2.2.1 u.2.2.2) (fun u H => mW E q f_code a_tape a_size a_fault a_faultPlace a_many a_lands a_evenings a_sights a_choirs f_reached f_length f_begins f_sort f_value f_word f_wrongAt f_laterFault f_laterPlace a_told a_read f_farHut f_farSinger f_good f_land f_huts f_singers f_evening a_at a_knows a_climbed a_snow a_level f_begun f_minute f_avalanches a_run a_covers u.1 u.2.1 u.2.2.1 u.2.2.2 a_far f_sight a_runs f_choir f_voices a_rest a_wins f_seed a_other a_kept H) (mA q)) args s 0 0 (mA q)) (F0 m 2 ls []))
    (hl : lv_has ls 5 [(0, .ref q), (1, .int x1), (2, .int x2)])
    (hw : q_m_findRoutes_33 P2 a_lands f_land f_huts a_routes a_longest a_steep a_laid x1 x2 y0 y1 post) :
    W p l e rm_m_findRoutes s m args below meth c H locs 0 0 (MQ below (zQv (S := (Nat → Int32) × (Nat → Int32) × (Nat → Int32) × (Nat → Int32)) (fun u => post u.1 u.2.1 u.2.2.1 u.2.2.2) (fun u H => mW E q f_code a_tape a_size a_fault a_faultPlace a_many a_lands a_evenings a_sights a_choirs f_reached f_length f_begins f_sort f_value f_word f_wrongAt f_laterFault f_laterPlace a_told a_read f_farHut f_farSinger f_good f_land f_huts f_singers f_evening a_at a_knows a_climbed a_snow a_level f_begun f_minute f_avalanches a_run a_covers u.1 u.2.1 u.2.2.1 u.2.2.2 a_far f_sight a_runs f_choir f_voices a_rest a_wins f_seed a_other a_kept H) (mA q)) args s 0 0 (mA q)) (F0 m 33 ls [.int y1, .int y0, .ref (q + 19)]) := by
  have hx := zc.1
  have hb := zc.2.1
  refine mst_19 zc hK hM hS hw.1 dX11_findRoutes_33 (fun a_routes_1 H locs ea_routes_1 hM hS => ?_)
  have hw := hw.2 a_routes_1 ea_routes_1
  refine lv_aload_n hx hb dX11_findRoutes_34 rfl (lv_at hl 0 rfl) ?_
  refine mg_11_68_0 zc hK hM dX11_findRoutes_35 ?_
  refine lv_iload_n hx hb dX11_findRoutes_38 rfl (lv_at hl 2 rfl) ?_
  refine lv_iconst (v := (0 : Int32)) hx hb dX11_findRoutes_39 (by decide) ?_
  refine mst_20 zc hK hM hS hw.1 dX11_findRoutes_40 (fun a_longest_1 H locs ea_longest_1 hM hS => ?_)
  have hw := hw.2 a_longest_1 ea_longest_1
  refine lv_aload_n hx hb dX11_findRoutes_41 rfl (lv_at hl 0 rfl) ?_
  refine mg_11_71_0 zc hK hM dX11_findRoutes_42 ?_
  refine lv_iload_n hx hb dX11_findRoutes_45 rfl (lv_at hl 2 rfl) ?_
  refine lv_iconst (v := (0 : Int32)) hx hb dX11_findRoutes_46 (by decide) ?_
  refine mst_21 zc hK hM hS hw.1 dX11_findRoutes_47 (fun a_steep_1 H locs ea_steep_1 hM hS => ?_)
  have hw := hw.2 a_steep_1 ea_steep_1
  refine lv_aload_n hx hb dX11_findRoutes_48 rfl (lv_at hl 0 rfl) ?_
  refine mg_11_74_0 zc hK hM dX11_findRoutes_49 ?_
  refine lv_iload_n hx hb dX11_findRoutes_52 rfl (lv_at hl 2 rfl) ?_
  refine lv_iconst (v := (0 : Int32)) hx hb dX11_findRoutes_53 (by decide) ?_
  refine mst_22 zc hK hM hS hw.1 dX11_findRoutes_54 (fun a_laid_1 H locs ea_laid_1 hM hS => ?_)
  have hw := hw.2 a_laid_1 ea_laid_1
  obtain ⟨v_1, ev_1⟩ : ∃ y : Int32, y = x2 + (1 : Int32) := ⟨_, rfl⟩
  have hw := hw v_1 ev_1
  refine lv_iinc (v := v_1) (k := 2) (lv' := [(2, .int v_1), (0, .ref q), (1, .int x1)]) hx hb dX11_findRoutes_55 hl rfl (by rw [ev_1]; rfl) (by decide) rfl (fun ls hl => ?_)
  refine lv_goto (tgt := 2) hx hb dX11_findRoutes_58 (by decide) ?_
  exact hP2 _ _ _ _ _ _ _ _ hw (lv_sub hl [1, 2, 0] rfl) hM hS
set_option maxRecDepth 20000 in
theorem t_m_findRoutes_32 {p : Program} {l : Launch} {e : Env} {s : State} {m : MethodId} {args : Array Value} {below : List Frame} {meth : Method} {c : Code} {E : zE} {q : Nat} {f_code : Int32} {a_tape : Nat → Int32} {a_size : Nat → Int32} {a_fault : Nat → Int32} {a_faultPlace : Nat → Int32} {a_many : Nat → Int32} {a_lands : Nat → Int32} {a_evenings : Nat → Int32} {a_sights : Nat → Int32} {a_choirs : Nat → Int32} {f_reached : Int32} {f_length : Int32} {f_begins : Int32} {f_sort : Int32} {f_value : Int32} {f_word : Int64} {f_wrongAt : Int32} {f_laterFault : Int32} {f_laterPlace : Int32} {a_told : Nat → Int32} {a_read : Nat → Int32} {f_farHut : Int32} {f_farSinger : Int32} {f_good : Int32} {f_land : Int32} {f_huts : Int32} {f_singers : Int32} {f_evening : Int32} {a_at : Nat → Int32} {a_knows : Nat → Int32} {a_climbed : Nat → Int32} {a_snow : Nat → Int32} {a_level : Nat → Int32} {f_begun : Int32} {f_minute : Int32} {f_avalanches : Int32} {a_run : Nat → Int32} {a_covers : Nat → Int32} {a_routes : Nat → Int32} {a_longest : Nat → Int32} {a_steep : Nat → Int32} {a_laid : Nat → Int32} {a_far : Nat → Int32} {f_sight : Int32} {a_runs : Nat → Int32} {f_choir : Int32} {f_voices : Int32} {a_rest : Nat → Int64} {a_wins : Nat → Int32} {f_seed : Int32} {a_other : Nat → Int32} {a_kept : Nat → Int32} {P2 : Int32 → (Nat → Int32) → (Nat → Int32) → (Nat → Int32) → (Nat → Int32) → Prop} {post : (Nat → Int32) → (Nat → Int32) → (Nat → Int32) → (Nat → Int32) → Prop} {x1 : Int32} {x2 : Int32} {y0 : Int32} {ls : Array Slot} {H : Heap} {locs : List Loc}
    (zc : zC p s m args meth c cX11_findRoutes 5 RX11 none)
    (hK : zK E s)
    (hM : mW E q f_code a_tape a_size a_fault a_faultPlace a_many a_lands a_evenings a_sights a_choirs f_reached f_length f_begins f_sort f_value f_word f_wrongAt f_laterFault f_laterPlace a_told a_read f_farHut f_farSinger f_good f_land f_huts f_singers f_evening a_at a_knows a_climbed a_snow a_level f_begun f_minute f_avalanches a_run a_covers a_routes a_longest a_steep a_laid a_far f_sight a_runs f_choir f_voices a_rest a_wins f_seed a_other a_kept H)
    (hS : va_S (mA q) s.heap H locs)
    (hP2 : ∀ (x2 : Int32) (a_routes : Nat → Int32) (a_longest : Nat → Int32) (a_steep : Nat → Int32) (a_laid : Nat → Int32) (H : Heap) (locs : List Loc) (ls : Array Slot), P2 x2 a_routes a_longest a_steep a_laid → lv_has ls 5 [(0, .ref q), (1, .int x1), (2, .int x2)] → mW E q f_code a_tape a_size a_fault a_faultPlace a_many a_lands a_evenings a_sights a_choirs f_reached f_length f_begins f_sort f_value f_word f_wrongAt f_laterFault f_laterPlace a_told a_read f_farHut f_farSinger f_good f_land f_huts f_singers f_evening a_at a_knows a_climbed a_snow a_level f_begun f_minute f_avalanches a_run a_covers a_routes a_longest a_steep a_laid a_far f_sight a_runs f_choir f_voices a_rest a_wins f_seed a_other a_kept H → va_S (mA q) s.heap H locs → W p l e rm_m_findRoutes s m args below meth c H locs 0 0 (MQ below (zQv (S := (Nat → Int32) × (Nat → Int32) × (Nat → Int32) × (Nat → Int32)) (fun u => post u.1 u.2.1 u.2.2.1 u.2.2.2) (fun u H => mW E q f_code a_tape a_size a_fault a_faultPlace a_many a_lands a_evenings a_sights a_choirs f_reached f_length f_begins f_sort f_value f_word f_wrongAt f_laterFault f_laterPlace a_told a_read f_farHut f_farSinger f_good f_land f_huts f_singers f_evening a_at a_knows a_climbed a_snow a_level f_begun f_minute f_avalanches a_run a_covers u.1 u.2.1 u.2.2.1 u.2.2.2 a_far f_sight a_runs f_choir f_voices a_rest a_wins f_seed a_other a_kept H) (mA q)) args s 0 0 (mA q)) (F0 m 2 ls []))
    (hl : lv_has ls 5 [(0, .ref q), (1, .int x1), (2, .int x2)])
    (hw : q_m_findRoutes_32 P2 a_lands f_land f_huts a_routes a_longest a_steep a_laid x1 x2 y0 post) :
    W p l e rm_m_findRoutes s m args below meth c H locs 0 0 (MQ below (zQv (S := (Nat → Int32) × (Nat → Int32) × (Nat → Int32) × (Nat → Int32)) (fun u => post u.1 u.2.1 u.2.2.1 u.2.2.2) (fun u H => mW E q f_code a_tape a_size a_fault a_faultPlace a_many a_lands a_evenings a_sights a_choirs f_reached f_length f_begins f_sort f_value f_word f_wrongAt f_laterFault f_laterPlace a_told a_read f_farHut f_farSinger f_good f_land f_huts f_singers f_evening a_at a_knows a_climbed a_snow a_level f_begun f_minute f_avalanches a_run a_covers u.1 u.2.1 u.2.2.1 u.2.2.2 a_far f_sight a_runs f_choir f_voices a_rest a_wins f_seed a_other a_kept H) (mA q)) args s 0 0 (mA q)) (F0 m 32 ls [.int y0, .ref (q + 19)]) := by
  have hx := zc.1
  have hb := zc.2.1
  refine lv_iconst (v := (0 : Int32)) hx hb dX11_findRoutes_32 (by decide) ?_
  exact t_m_findRoutes_33 zc hK hM hS hP2 (lv_sub hl [0, 1, 2] rfl) hw
set_option maxRecDepth 20000 in
theorem t_m_findRoutes_86 {p : Program} {l : Launch} {e : Env} {s : State} {m : MethodId} {args : Array Value} {below : List Frame} {meth : Method} {c : Code} {E : zE} {q : Nat} {f_code : Int32} {a_tape : Nat → Int32} {a_size : Nat → Int32} {a_fault : Nat → Int32} {a_faultPlace : Nat → Int32} {a_many : Nat → Int32} {a_lands : Nat → Int32} {a_evenings : Nat → Int32} {a_sights : Nat → Int32} {a_choirs : Nat → Int32} {f_reached : Int32} {f_length : Int32} {f_begins : Int32} {f_sort : Int32} {f_value : Int32} {f_word : Int64} {f_wrongAt : Int32} {f_laterFault : Int32} {f_laterPlace : Int32} {a_told : Nat → Int32} {a_read : Nat → Int32} {f_farHut : Int32} {f_farSinger : Int32} {f_good : Int32} {f_land : Int32} {f_huts : Int32} {f_singers : Int32} {f_evening : Int32} {a_at : Nat → Int32} {a_knows : Nat → Int32} {a_climbed : Nat → Int32} {a_snow : Nat → Int32} {a_level : Nat → Int32} {f_begun : Int32} {f_minute : Int32} {f_avalanches : Int32} {a_run : Nat → Int32} {a_covers : Nat → Int32} {a_routes : Nat → Int32} {a_longest : Nat → Int32} {a_steep : Nat → Int32} {a_laid : Nat → Int32} {a_far : Nat → Int32} {f_sight : Int32} {a_runs : Nat → Int32} {f_choir : Int32} {f_voices : Int32} {a_rest : Nat → Int64} {a_wins : Nat → Int32} {f_seed : Int32} {a_other : Nat → Int32} {a_kept : Nat → Int32} {P63 : Int32 → (Nat → Int32) → (Nat → Int32) → (Nat → Int32) → (Nat → Int32) → Prop} {post : (Nat → Int32) → (Nat → Int32) → (Nat → Int32) → (Nat → Int32) → Prop} {x2 : Int32} {x3 : Int32} {x4 : Int32} {ls : Array Slot} {H : Heap} {locs : List Loc}
    (zc : zC p s m args meth c cX11_findRoutes 5 RX11 none)
    (hK : zK E s)
    (hM : mW E q f_code a_tape a_size a_fault a_faultPlace a_many a_lands a_evenings a_sights a_choirs f_reached f_length f_begins f_sort f_value f_word f_wrongAt f_laterFault f_laterPlace a_told a_read f_farHut f_farSinger f_good f_land f_huts f_singers f_evening a_at a_knows a_climbed a_snow a_level f_begun f_minute f_avalanches a_run a_covers a_routes a_longest a_steep a_laid a_far f_sight a_runs f_choir f_voices a_rest a_wins f_seed a_other a_kept H)
    (hS : va_S (mA q) s.heap H locs)
    (hP63 : ∀ (x2 : Int32) (a_routes : Nat → Int32) (a_longest : Nat → Int32) (a_steep : Nat → Int32) (a_laid : Nat → Int32) (H : Heap) (locs : List Loc) (ls : Array Slot), P63 x2 a_routes a_longest a_steep a_laid → lv_has ls 5 [(0, .ref q), (2, .int x2)] → mW E q f_code a_tape a_size a_fault a_faultPlace a_many a_lands a_evenings a_sights a_choirs f_reached f_length f_begins f_sort f_value f_word f_wrongAt f_laterFault f_laterPlace a_told a_read f_farHut f_farSinger f_good f_land f_huts f_singers f_evening a_at a_knows a_climbed a_snow a_level f_begun f_minute f_avalanches a_run a_covers a_routes a_longest a_steep a_laid a_far f_sight a_runs f_choir f_voices a_rest a_wins f_seed a_other a_kept H → va_S (mA q) s.heap H locs → W p l e rm_m_findRoutes s m args below meth c H locs 0 0 (MQ below (zQv (S := (Nat → Int32) × (Nat → Int32) × (Nat → Int32) × (Nat → Int32)) (fun u => post u.1 u.2.1 u.2.2.1 u.2.2.2) (fun u H => mW E q f_code a_tape a_size a_fault a_faultPlace a_many a_lands a_evenings a_sights a_choirs f_reached f_length f_begins f_sort f_value f_word f_wrongAt f_laterFault f_laterPlace a_told a_read f_farHut f_farSinger f_good f_land f_huts f_singers f_evening a_at a_knows a_climbed a_snow a_level f_begun f_minute f_avalanches a_run a_covers u.1 u.2.1 u.2.2.1 u.2.2.2 a_far f_sight a_runs f_choir f_voices a_rest a_wins f_seed a_other a_kept H) (mA q)) args s 0 0 (mA q)) (F0 m 63 ls []))
    (hl : lv_has ls 5 [(0, .ref q), (2, .int x2), (3, .int x3), (4, .int x4)])
    (hw : q_m_findRoutes_86 P63 a_lands f_land f_huts a_routes a_longest a_steep a_laid x2 x3 x4 post) :
    W p l e rm_m_findRoutes s m args below meth c H locs 0 0 (MQ below (zQv (S := (Nat → Int32) × (Nat → Int32) × (Nat → Int32) × (Nat → Int32)) (fun u => post u.1 u.2.1 u.2.2.1 u.2.2.2) (fun u H => mW E q f_code a_tape a_size a_fault a_faultPlace a_many a_lands a_evenings a_sights a_choirs f_reached f_length f_begins f_sort f_value f_word f_wrongAt f_laterFault f_laterPlace a_told a_read f_farHut f_farSinger f_good f_land f_huts f_singers f_evening a_at a_knows a_climbed a_snow a_level f_begun f_minute f_avalanches a_run a_covers u.1 u.2.1 u.2.2.1 u.2.2.2 a_far f_sight a_runs f_choir f_voices a_rest a_wins f_seed a_other a_kept H) (mA q)) args s 0 0 (mA q)) (F0 m 86 ls []) := by
  have hx := zc.1
  have hb := zc.2.1
  refine hw (fun x4 a_routes a_longest a_steep => ∀ (H : Heap) (locs : List Loc) (ls : Array Slot), lv_has ls 5 [(0, .ref q), (2, .int x2), (3, .int x3), (4, .int x4)] → mW E q f_code a_tape a_size a_fault a_faultPlace a_many a_lands a_evenings a_sights a_choirs f_reached f_length f_begins f_sort f_value f_word f_wrongAt f_laterFault f_laterPlace a_told a_read f_farHut f_farSinger f_good f_land f_huts f_singers f_evening a_at a_knows a_climbed a_snow a_level f_begun f_minute f_avalanches a_run a_covers a_routes a_longest a_steep a_laid a_far f_sight a_runs f_choir f_voices a_rest a_wins f_seed a_other a_kept H → va_S (mA q) s.heap H locs → W p l e rm_m_findRoutes s m args below meth c H locs 0 0 (MQ below (zQv (S := (Nat → Int32) × (Nat → Int32) × (Nat → Int32) × (Nat → Int32)) (fun u => post u.1 u.2.1 u.2.2.1 u.2.2.2) (fun u H => mW E q f_code a_tape a_size a_fault a_faultPlace a_many a_lands a_evenings a_sights a_choirs f_reached f_length f_begins f_sort f_value f_word f_wrongAt f_laterFault f_laterPlace a_told a_read f_farHut f_farSinger f_good f_land f_huts f_singers f_evening a_at a_knows a_climbed a_snow a_level f_begun f_minute f_avalanches a_run a_covers u.1 u.2.1 u.2.2.1 u.2.2.2 a_far f_sight a_runs f_choir f_voices a_rest a_wins f_seed a_other a_kept H) (mA q)) args s 0 0 (mA q)) (F0 m 86 ls [])) ?_ _ _ _ hl hM hS
  intro x4 a_routes a_longest a_steep hw H locs ls hl hM hS
  refine lv_iload hx hb dX11_findRoutes_86 (lv_at hl 3 rfl) ?_
  refine lv_aload_n hx hb dX11_findRoutes_88 rfl (lv_at hl 0 rfl) ?_
  refine mg_11_307_0 zc hK hM dX11_findRoutes_89 ?_
  refine lv_icmp_ge (tgt := 108) hx hb dX11_findRoutes_92 (by decide) (fun hc => ?_) (fun hc => ?_)
  · have hw := hw.1 hc
    obtain ⟨v_1, ev_1⟩ : ∃ y : Int32, y = x2 + (1 : Int32) := ⟨_, rfl⟩
    have hw := hw v_1 ev_1
    refine lv_iinc (v := v_1) (k := 1) (lv' := [(2, .int v_1), (0, .ref q), (3, .int x3), (4, .int x4)]) hx hb dX11_findRoutes_108 hl rfl (by rw [ev_1]; rfl) (by decide) rfl (fun ls hl => ?_)
    refine lv_goto (tgt := 63) hx hb dX11_findRoutes_111 (by decide) ?_
    exact hP63 _ _ _ _ _ _ _ _ hw (lv_sub hl [1, 0] rfl) hM hS
  · have hw := hw.2 hc
    refine lv_aload_n hx hb dX11_findRoutes_95 rfl (lv_at hl 0 rfl) ?_
    refine lv_iload_n hx hb dX11_findRoutes_96 rfl (lv_at hl 2 rfl) ?_
    refine lv_iload hx hb dX11_findRoutes_97 (lv_at hl 3 rfl) ?_
    refine zVw_v [.int x3, .int x4] [] zc ky_X11_goesDown kz_X11_goesDown km_11_444 (c_m_goesDown l hw) (mPreV0 hK hM) hS rfl rfl hl.1 (Nat.le_of_ble_eq_true rfl) ⟨rfl, rfl⟩ ⟨Nat.le_of_ble_eq_true rfl, Nat.le_of_ble_eq_true rfl⟩ ⟨(Nat.zero_le _), (Nat.zero_le _)⟩ dX11_findRoutes_99 (fun u H locs hw hM hS => ?_)
    obtain ⟨a_routes_1, a_longest_1, a_steep_1⟩ := u
    obtain ⟨v_2, ev_2⟩ : ∃ y : Int32, y = x4 + (1 : Int32) := ⟨_, rfl⟩
    have hw := hw v_2 ev_2
    refine lv_iinc (v := v_2) (k := 3) (lv' := [(4, .int v_2), (0, .ref q), (2, .int x2), (3, .int x3)]) hx hb dX11_findRoutes_102 hl rfl (by rw [ev_2]; rfl) (by decide) rfl (fun ls hl => ?_)
    refine lv_goto (tgt := 86) hx hb dX11_findRoutes_105 (by decide) ?_
    exact hw _ _ _ (lv_sub hl [1, 2, 3, 0] rfl) hM hS
set_option maxRecDepth 20000 in
theorem t_m_findRoutes_63 {p : Program} {l : Launch} {e : Env} {s : State} {m : MethodId} {args : Array Value} {below : List Frame} {meth : Method} {c : Code} {E : zE} {q : Nat} {f_code : Int32} {a_tape : Nat → Int32} {a_size : Nat → Int32} {a_fault : Nat → Int32} {a_faultPlace : Nat → Int32} {a_many : Nat → Int32} {a_lands : Nat → Int32} {a_evenings : Nat → Int32} {a_sights : Nat → Int32} {a_choirs : Nat → Int32} {f_reached : Int32} {f_length : Int32} {f_begins : Int32} {f_sort : Int32} {f_value : Int32} {f_word : Int64} {f_wrongAt : Int32} {f_laterFault : Int32} {f_laterPlace : Int32} {a_told : Nat → Int32} {a_read : Nat → Int32} {f_farHut : Int32} {f_farSinger : Int32} {f_good : Int32} {f_land : Int32} {f_huts : Int32} {f_singers : Int32} {f_evening : Int32} {a_at : Nat → Int32} {a_knows : Nat → Int32} {a_climbed : Nat → Int32} {a_snow : Nat → Int32} {a_level : Nat → Int32} {f_begun : Int32} {f_minute : Int32} {f_avalanches : Int32} {a_run : Nat → Int32} {a_covers : Nat → Int32} {a_routes : Nat → Int32} {a_longest : Nat → Int32} {a_steep : Nat → Int32} {a_laid : Nat → Int32} {a_far : Nat → Int32} {f_sight : Int32} {a_runs : Nat → Int32} {f_choir : Int32} {f_voices : Int32} {a_rest : Nat → Int64} {a_wins : Nat → Int32} {f_seed : Int32} {a_other : Nat → Int32} {a_kept : Nat → Int32} {post : (Nat → Int32) → (Nat → Int32) → (Nat → Int32) → (Nat → Int32) → Prop} {x2 : Int32} {ls : Array Slot} {H : Heap} {locs : List Loc}
    (zc : zC p s m args meth c cX11_findRoutes 5 RX11 none)
    (hK : zK E s)
    (hM : mW E q f_code a_tape a_size a_fault a_faultPlace a_many a_lands a_evenings a_sights a_choirs f_reached f_length f_begins f_sort f_value f_word f_wrongAt f_laterFault f_laterPlace a_told a_read f_farHut f_farSinger f_good f_land f_huts f_singers f_evening a_at a_knows a_climbed a_snow a_level f_begun f_minute f_avalanches a_run a_covers a_routes a_longest a_steep a_laid a_far f_sight a_runs f_choir f_voices a_rest a_wins f_seed a_other a_kept H)
    (hS : va_S (mA q) s.heap H locs)
    (hl : lv_has ls 5 [(0, .ref q), (2, .int x2)])
    (hw : q_m_findRoutes_63 a_lands f_land f_huts a_routes a_longest a_steep a_laid x2 post) :
    W p l e rm_m_findRoutes s m args below meth c H locs 0 0 (MQ below (zQv (S := (Nat → Int32) × (Nat → Int32) × (Nat → Int32) × (Nat → Int32)) (fun u => post u.1 u.2.1 u.2.2.1 u.2.2.2) (fun u H => mW E q f_code a_tape a_size a_fault a_faultPlace a_many a_lands a_evenings a_sights a_choirs f_reached f_length f_begins f_sort f_value f_word f_wrongAt f_laterFault f_laterPlace a_told a_read f_farHut f_farSinger f_good f_land f_huts f_singers f_evening a_at a_knows a_climbed a_snow a_level f_begun f_minute f_avalanches a_run a_covers u.1 u.2.1 u.2.2.1 u.2.2.2 a_far f_sight a_runs f_choir f_voices a_rest a_wins f_seed a_other a_kept H) (mA q)) args s 0 0 (mA q)) (F0 m 63 ls []) := by
  have hx := zc.1
  have hb := zc.2.1
  refine hw (fun x2 a_routes a_longest a_steep a_laid => ∀ (H : Heap) (locs : List Loc) (ls : Array Slot), lv_has ls 5 [(0, .ref q), (2, .int x2)] → mW E q f_code a_tape a_size a_fault a_faultPlace a_many a_lands a_evenings a_sights a_choirs f_reached f_length f_begins f_sort f_value f_word f_wrongAt f_laterFault f_laterPlace a_told a_read f_farHut f_farSinger f_good f_land f_huts f_singers f_evening a_at a_knows a_climbed a_snow a_level f_begun f_minute f_avalanches a_run a_covers a_routes a_longest a_steep a_laid a_far f_sight a_runs f_choir f_voices a_rest a_wins f_seed a_other a_kept H → va_S (mA q) s.heap H locs → W p l e rm_m_findRoutes s m args below meth c H locs 0 0 (MQ below (zQv (S := (Nat → Int32) × (Nat → Int32) × (Nat → Int32) × (Nat → Int32)) (fun u => post u.1 u.2.1 u.2.2.1 u.2.2.2) (fun u H => mW E q f_code a_tape a_size a_fault a_faultPlace a_many a_lands a_evenings a_sights a_choirs f_reached f_length f_begins f_sort f_value f_word f_wrongAt f_laterFault f_laterPlace a_told a_read f_farHut f_farSinger f_good f_land f_huts f_singers f_evening a_at a_knows a_climbed a_snow a_level f_begun f_minute f_avalanches a_run a_covers u.1 u.2.1 u.2.2.1 u.2.2.2 a_far f_sight a_runs f_choir f_voices a_rest a_wins f_seed a_other a_kept H) (mA q)) args s 0 0 (mA q)) (F0 m 63 ls [])) ?_ _ _ _ hl hM hS
  intro x2 a_routes a_longest a_steep a_laid hw H locs ls hl hM hS
  refine lv_iload_n hx hb dX11_findRoutes_63 rfl (lv_at hl 1 rfl) ?_
  refine lv_aload_n hx hb dX11_findRoutes_64 rfl (lv_at hl 0 rfl) ?_
  refine mg_11_307_0 zc hK hM dX11_findRoutes_65 ?_
  refine lv_icmp_ge (tgt := 114) hx hb dX11_findRoutes_68 (by decide) (fun hc => ?_) (fun hc => ?_)
  · have hw := hw.1 hc
    exact zret_vw ⟨a_routes, a_longest, a_steep, a_laid⟩ zc hS hw hM dX11_findRoutes_114
  · have hw := hw.2 hc
    refine lv_aload_n hx hb dX11_findRoutes_71 rfl (lv_at hl 0 rfl) ?_
    refine zV_i [] [] zc ky_X11_nextDown kz_X11_nextDown km_11_441 (c_m_nextDown l hw) (mPreV0 hK hM) rfl rfl hl.1 (Nat.le_of_ble_eq_true rfl) ⟨rfl, rfl⟩ ⟨Nat.le_of_ble_eq_true rfl, Nat.le_of_ble_eq_true rfl⟩ ⟨(Nat.zero_le _), (Nat.zero_le _)⟩ dX11_findRoutes_72 (fun r_1 hw => ?_)
    refine lv_istore_n (lv' := [(3, .int r_1), (0, .ref q), (2, .int x2)]) hx hb dX11_findRoutes_75 rfl hl (by decide) rfl (fun ls hl => ?_)
    refine lv_aload_n hx hb dX11_findRoutes_76 rfl (lv_at hl 1 rfl) ?_
    refine mg_11_74_0 zc hK hM dX11_findRoutes_77 ?_
    refine lv_iload_n hx hb dX11_findRoutes_80 rfl (lv_at hl 0 rfl) ?_
    refine lv_iconst (v := (1 : Int32)) hx hb dX11_findRoutes_81 (by decide) ?_
    refine mst_22 zc hK hM hS hw.1 dX11_findRoutes_82 (fun a_laid_1 H locs ea_laid_1 hM hS => ?_)
    have hw := hw.2 a_laid_1 ea_laid_1
    refine lv_iconst (v := (0 : Int32)) hx hb dX11_findRoutes_83 (by decide) ?_
    refine lv_istore (lv' := [(4, .int (0 : Int32)), (3, .int r_1), (0, .ref q), (2, .int x2)]) hx hb dX11_findRoutes_84 hl (by decide) rfl (fun ls hl => ?_)
    exact t_m_findRoutes_86 zc hK hM hS (fun _ _ _ _ _ H locs ls h hl hM hS => h H locs ls hl hM hS) (lv_sub hl [2, 3, 1, 0] rfl) hw
set_option maxRecDepth 20000 in
theorem t_m_findRoutes_2 {p : Program} {l : Launch} {e : Env} {s : State} {m : MethodId} {args : Array Value} {below : List Frame} {meth : Method} {c : Code} {E : zE} {q : Nat} {f_code : Int32} {a_tape : Nat → Int32} {a_size : Nat → Int32} {a_fault : Nat → Int32} {a_faultPlace : Nat → Int32} {a_many : Nat → Int32} {a_lands : Nat → Int32} {a_evenings : Nat → Int32} {a_sights : Nat → Int32} {a_choirs : Nat → Int32} {f_reached : Int32} {f_length : Int32} {f_begins : Int32} {f_sort : Int32} {f_value : Int32} {f_word : Int64} {f_wrongAt : Int32} {f_laterFault : Int32} {f_laterPlace : Int32} {a_told : Nat → Int32} {a_read : Nat → Int32} {f_farHut : Int32} {f_farSinger : Int32} {f_good : Int32} {f_land : Int32} {f_huts : Int32} {f_singers : Int32} {f_evening : Int32} {a_at : Nat → Int32} {a_knows : Nat → Int32} {a_climbed : Nat → Int32} {a_snow : Nat → Int32} {a_level : Nat → Int32} {f_begun : Int32} {f_minute : Int32} {f_avalanches : Int32} {a_run : Nat → Int32} {a_covers : Nat → Int32} {a_routes : Nat → Int32} {a_longest : Nat → Int32} {a_steep : Nat → Int32} {a_laid : Nat → Int32} {a_far : Nat → Int32} {f_sight : Int32} {a_runs : Nat → Int32} {f_choir : Int32} {f_voices : Int32} {a_rest : Nat → Int64} {a_wins : Nat → Int32} {f_seed : Int32} {a_other : Nat → Int32} {a_kept : Nat → Int32} {post : (Nat → Int32) → (Nat → Int32) → (Nat → Int32) → (Nat → Int32) → Prop} {x1 : Int32} {x2 : Int32} {ls : Array Slot} {H : Heap} {locs : List Loc}
    (zc : zC p s m args meth c cX11_findRoutes 5 RX11 none)
    (hK : zK E s)
    (hM : mW E q f_code a_tape a_size a_fault a_faultPlace a_many a_lands a_evenings a_sights a_choirs f_reached f_length f_begins f_sort f_value f_word f_wrongAt f_laterFault f_laterPlace a_told a_read f_farHut f_farSinger f_good f_land f_huts f_singers f_evening a_at a_knows a_climbed a_snow a_level f_begun f_minute f_avalanches a_run a_covers a_routes a_longest a_steep a_laid a_far f_sight a_runs f_choir f_voices a_rest a_wins f_seed a_other a_kept H)
    (hS : va_S (mA q) s.heap H locs)
    (hl : lv_has ls 5 [(0, .ref q), (1, .int x1), (2, .int x2)])
    (hw : q_m_findRoutes_2 a_lands f_land f_huts a_routes a_longest a_steep a_laid x1 x2 post) :
    W p l e rm_m_findRoutes s m args below meth c H locs 0 0 (MQ below (zQv (S := (Nat → Int32) × (Nat → Int32) × (Nat → Int32) × (Nat → Int32)) (fun u => post u.1 u.2.1 u.2.2.1 u.2.2.2) (fun u H => mW E q f_code a_tape a_size a_fault a_faultPlace a_many a_lands a_evenings a_sights a_choirs f_reached f_length f_begins f_sort f_value f_word f_wrongAt f_laterFault f_laterPlace a_told a_read f_farHut f_farSinger f_good f_land f_huts f_singers f_evening a_at a_knows a_climbed a_snow a_level f_begun f_minute f_avalanches a_run a_covers u.1 u.2.1 u.2.2.1 u.2.2.2 a_far f_sight a_runs f_choir f_voices a_rest a_wins f_seed a_other a_kept H) (mA q)) args s 0 0 (mA q)) (F0 m 2 ls []) := by
  have hx := zc.1
  have hb := zc.2.1
  refine hw (fun x2 a_routes a_longest a_steep a_laid => ∀ (H : Heap) (locs : List Loc) (ls : Array Slot), lv_has ls 5 [(0, .ref q), (1, .int x1), (2, .int x2)] → mW E q f_code a_tape a_size a_fault a_faultPlace a_many a_lands a_evenings a_sights a_choirs f_reached f_length f_begins f_sort f_value f_word f_wrongAt f_laterFault f_laterPlace a_told a_read f_farHut f_farSinger f_good f_land f_huts f_singers f_evening a_at a_knows a_climbed a_snow a_level f_begun f_minute f_avalanches a_run a_covers a_routes a_longest a_steep a_laid a_far f_sight a_runs f_choir f_voices a_rest a_wins f_seed a_other a_kept H → va_S (mA q) s.heap H locs → W p l e rm_m_findRoutes s m args below meth c H locs 0 0 (MQ below (zQv (S := (Nat → Int32) × (Nat → Int32) × (Nat → Int32) × (Nat → Int32)) (fun u => post u.1 u.2.1 u.2.2.1 u.2.2.2) (fun u H => mW E q f_code a_tape a_size a_fault a_faultPlace a_many a_lands a_evenings a_sights a_choirs f_reached f_length f_begins f_sort f_value f_word f_wrongAt f_laterFault f_laterPlace a_told a_read f_farHut f_farSinger f_good f_land f_huts f_singers f_evening a_at a_knows a_climbed a_snow a_level f_begun f_minute f_avalanches a_run a_covers u.1 u.2.1 u.2.2.1 u.2.2.2 a_far f_sight a_runs f_choir f_voices a_rest a_wins f_seed a_other a_kept H) (mA q)) args s 0 0 (mA q)) (F0 m 2 ls [])) ?_ _ _ _ hl hM hS
  intro x2 a_routes a_longest a_steep a_laid hw H locs ls hl hM hS
  refine lv_iload_n hx hb dX11_findRoutes_2 rfl (lv_at hl 2 rfl) ?_
  refine lv_aload_n hx hb dX11_findRoutes_3 rfl (lv_at hl 0 rfl) ?_
  refine mg_11_307_0 zc hK hM dX11_findRoutes_4 ?_
  refine lv_icmp_ge (tgt := 61) hx hb dX11_findRoutes_7 (by decide) (fun hc => ?_) (fun hc => ?_)
  · have hw := hw.1 hc
    refine lv_iconst (v := (0 : Int32)) hx hb dX11_findRoutes_61 (by decide) ?_
    refine lv_istore_n (lv' := [(2, .int (0 : Int32)), (0, .ref q), (1, .int x1)]) hx hb dX11_findRoutes_62 rfl hl (by decide) rfl (fun ls hl => ?_)
    exact t_m_findRoutes_63 zc hK hM hS  (lv_sub hl [1, 0] rfl) hw
  · have hw := hw.2 hc
    refine lv_aload_n hx hb dX11_findRoutes_10 rfl (lv_at hl 0 rfl) ?_
    refine mg_11_65_0 zc hK hM dX11_findRoutes_11 ?_
    refine lv_iload_n hx hb dX11_findRoutes_14 rfl (lv_at hl 2 rfl) ?_
    refine lv_iload_n hx hb dX11_findRoutes_15 rfl (lv_at hl 2 rfl) ?_
    refine lv_iload_n hx hb dX11_findRoutes_16 rfl (lv_at hl 1 rfl) ?_
    refine lv_icmp_ne (tgt := 32) hx hb dX11_findRoutes_17 (by decide) (fun hc => ?_) (fun hc => ?_)
    · have hw := hw.1 hc
      exact t_m_findRoutes_32 zc hK hM hS (fun _ _ _ _ _ H locs ls h hl hM hS => h H locs ls hl hM hS) (lv_sub hl [0, 1, 2] rfl) hw
    · have hw := hw.2 hc
      refine lv_aload_n hx hb dX11_findRoutes_20 rfl (lv_at hl 0 rfl) ?_
      refine lv_iload_n hx hb dX11_findRoutes_21 rfl (lv_at hl 2 rfl) ?_
      refine zV_i [.int x2] [.int x2, .ref (q + 19)] zc ky_X11_isDam kz_X11_isDam km_11_355 (c_m_isDam l hw) (mPreV0 hK hM) rfl rfl hl.1 (Nat.le_of_ble_eq_true rfl) ⟨rfl, rfl⟩ ⟨Nat.le_of_ble_eq_true rfl, Nat.le_of_ble_eq_true rfl⟩ ⟨(Nat.zero_le _), (Nat.zero_le _)⟩ dX11_findRoutes_22 (fun r_1 hw => ?_)
      refine lv_if_ne (tgt := 32) hx hb dX11_findRoutes_25 (by decide) (fun hc => ?_) (fun hc => ?_)
      · have hw := hw.1 hc
        exact t_m_findRoutes_32 zc hK hM hS (fun _ _ _ _ _ H locs ls h hl hM hS => h H locs ls hl hM hS) (lv_sub hl [0, 1, 2] rfl) hw
      · have hw := hw.2 hc
        refine lv_iconst (v := (1 : Int32)) hx hb dX11_findRoutes_28 (by decide) ?_
        refine lv_goto (tgt := 33) hx hb dX11_findRoutes_29 (by decide) ?_
        exact t_m_findRoutes_33 zc hK hM hS (fun _ _ _ _ _ H locs ls h hl hM hS => h H locs ls hl hM hS) (lv_sub hl [0, 1, 2] rfl) hw
set_option maxRecDepth 20000 in
theorem t_m_findRoutes_0 {p : Program} {l : Launch} {e : Env} {s : State} {m : MethodId} {args : Array Value} {below : List Frame} {meth : Method} {c : Code} {E : zE} {q : Nat} {f_code : Int32} {a_tape : Nat → Int32} {a_size : Nat → Int32} {a_fault : Nat → Int32} {a_faultPlace : Nat → Int32} {a_many : Nat → Int32} {a_lands : Nat → Int32} {a_evenings : Nat → Int32} {a_sights : Nat → Int32} {a_choirs : Nat → Int32} {f_reached : Int32} {f_length : Int32} {f_begins : Int32} {f_sort : Int32} {f_value : Int32} {f_word : Int64} {f_wrongAt : Int32} {f_laterFault : Int32} {f_laterPlace : Int32} {a_told : Nat → Int32} {a_read : Nat → Int32} {f_farHut : Int32} {f_farSinger : Int32} {f_good : Int32} {f_land : Int32} {f_huts : Int32} {f_singers : Int32} {f_evening : Int32} {a_at : Nat → Int32} {a_knows : Nat → Int32} {a_climbed : Nat → Int32} {a_snow : Nat → Int32} {a_level : Nat → Int32} {f_begun : Int32} {f_minute : Int32} {f_avalanches : Int32} {a_run : Nat → Int32} {a_covers : Nat → Int32} {a_routes : Nat → Int32} {a_longest : Nat → Int32} {a_steep : Nat → Int32} {a_laid : Nat → Int32} {a_far : Nat → Int32} {f_sight : Int32} {a_runs : Nat → Int32} {f_choir : Int32} {f_voices : Int32} {a_rest : Nat → Int64} {a_wins : Nat → Int32} {f_seed : Int32} {a_other : Nat → Int32} {a_kept : Nat → Int32} {post : (Nat → Int32) → (Nat → Int32) → (Nat → Int32) → (Nat → Int32) → Prop} {x1 : Int32} {ls : Array Slot} {H : Heap} {locs : List Loc}
    (zc : zC p s m args meth c cX11_findRoutes 5 RX11 none)
    (hK : zK E s)
    (hM : mW E q f_code a_tape a_size a_fault a_faultPlace a_many a_lands a_evenings a_sights a_choirs f_reached f_length f_begins f_sort f_value f_word f_wrongAt f_laterFault f_laterPlace a_told a_read f_farHut f_farSinger f_good f_land f_huts f_singers f_evening a_at a_knows a_climbed a_snow a_level f_begun f_minute f_avalanches a_run a_covers a_routes a_longest a_steep a_laid a_far f_sight a_runs f_choir f_voices a_rest a_wins f_seed a_other a_kept H)
    (hS : va_S (mA q) s.heap H locs)
    (hl : lv_has ls 5 [(0, .ref q), (1, .int x1)])
    (hw : q_m_findRoutes_0 a_lands f_land f_huts a_routes a_longest a_steep a_laid x1 post) :
    W p l e rm_m_findRoutes s m args below meth c H locs 0 0 (MQ below (zQv (S := (Nat → Int32) × (Nat → Int32) × (Nat → Int32) × (Nat → Int32)) (fun u => post u.1 u.2.1 u.2.2.1 u.2.2.2) (fun u H => mW E q f_code a_tape a_size a_fault a_faultPlace a_many a_lands a_evenings a_sights a_choirs f_reached f_length f_begins f_sort f_value f_word f_wrongAt f_laterFault f_laterPlace a_told a_read f_farHut f_farSinger f_good f_land f_huts f_singers f_evening a_at a_knows a_climbed a_snow a_level f_begun f_minute f_avalanches a_run a_covers u.1 u.2.1 u.2.2.1 u.2.2.2 a_far f_sight a_runs f_choir f_voices a_rest a_wins f_seed a_other a_kept H) (mA q)) args s 0 0 (mA q)) (F0 m 0 ls []) := by
  have hx := zc.1
  have hb := zc.2.1
  refine lv_iconst (v := (0 : Int32)) hx hb dX11_findRoutes_0 (by decide) ?_
  refine lv_istore_n (lv' := [(2, .int (0 : Int32)), (0, .ref q), (1, .int x1)]) hx hb dX11_findRoutes_1 rfl hl (by decide) rfl (fun ls hl => ?_)
  exact t_m_findRoutes_2 zc hK hM hS  (lv_sub hl [1, 2, 0] rfl) hw
set_option maxRecDepth 20000 in
theorem c_m_findRoutes (l : Launch) {E : zE} {q : Nat} {f_code : Int32} {a_tape : Nat → Int32} {a_size : Nat → Int32} {a_fault : Nat → Int32} {a_faultPlace : Nat → Int32} {a_many : Nat → Int32} {a_lands : Nat → Int32} {a_evenings : Nat → Int32} {a_sights : Nat → Int32} {a_choirs : Nat → Int32} {f_reached : Int32} {f_length : Int32} {f_begins : Int32} {f_sort : Int32} {f_value : Int32} {f_word : Int64} {f_wrongAt : Int32} {f_laterFault : Int32} {f_laterPlace : Int32} {a_told : Nat → Int32} {a_read : Nat → Int32} {f_farHut : Int32} {f_farSinger : Int32} {f_good : Int32} {f_land : Int32} {f_huts : Int32} {f_singers : Int32} {f_evening : Int32} {a_at : Nat → Int32} {a_knows : Nat → Int32} {a_climbed : Nat → Int32} {a_snow : Nat → Int32} {a_level : Nat → Int32} {f_begun : Int32} {f_minute : Int32} {f_avalanches : Int32} {a_run : Nat → Int32} {a_covers : Nat → Int32} {a_routes : Nat → Int32} {a_longest : Nat → Int32} {a_steep : Nat → Int32} {a_laid : Nat → Int32} {a_far : Nat → Int32} {f_sight : Int32} {a_runs : Nat → Int32} {f_choir : Int32} {f_voices : Int32} {a_rest : Nat → Int64} {a_wins : Nat → Int32} {f_seed : Int32} {a_other : Nat → Int32} {a_kept : Nat → Int32} {x1 : Int32} {post : (Nat → Int32) → (Nat → Int32) → (Nat → Int32) → (Nat → Int32) → Prop} (hw : q_m_findRoutes_0 a_lands f_land f_huts a_routes a_longest a_steep a_laid x1 post) : Met l yX11_findRoutes (Cond.code yX11_findRoutes cX11_findRoutes 5 none :: zb) rm_m_findRoutes (va_Pc [.ref q, .int x1] (fun U => mW E q f_code a_tape a_size a_fault a_faultPlace a_many a_lands a_evenings a_sights a_choirs f_reached f_length f_begins f_sort f_value f_word f_wrongAt f_laterFault f_laterPlace a_told a_read f_farHut f_farSinger f_good f_land f_huts f_singers f_evening a_at a_knows a_climbed a_snow a_level f_begun f_minute f_avalanches a_run a_covers a_routes a_longest a_steep a_laid a_far f_sight a_runs f_choir f_voices a_rest a_wins f_seed a_other a_kept U.heap ∧ zK E U)) (zQv (S := (Nat → Int32) × (Nat → Int32) × (Nat → Int32) × (Nat → Int32)) (fun u => post u.1 u.2.1 u.2.2.1 u.2.2.2) (fun u H => mW E q f_code a_tape a_size a_fault a_faultPlace a_many a_lands a_evenings a_sights a_choirs f_reached f_length f_begins f_sort f_value f_word f_wrongAt f_laterFault f_laterPlace a_told a_read f_farHut f_farSinger f_good f_land f_huts f_singers f_evening a_at a_knows a_climbed a_snow a_level f_begun f_minute f_avalanches a_run a_covers u.1 u.2.1 u.2.2.1 u.2.2.2 a_far f_sight a_runs f_choir f_voices a_rest a_wins f_seed a_other a_kept H) (mA q)) 0 0 (mA q) := by
  refine Met.ofW (cc := cX11_findRoutes) (maxL := 5) (ret := none) (by decide) rfl ?_
  intro p e s m args below meth c s₁ B hml hv
  obtain ⟨rfl, hM, hK⟩ := hv
  have zc := zc_of B hml
  have hl := lv_entry ([.ref q, .int x1]) (n := 5) (Nat.le_of_ble_eq_true rfl)
  rw [lg_entry_eq]
  generalize (lg_sl ([.ref q, .int x1]) ++ List.replicate (5 - (lg_sl ([.ref q, .int x1])).length) Slot.unset).toArray = ls at hl ⊢
  have hl : lv_has ls 5 [(0, .ref q), (1, .int x1)] := hl
  exact t_m_findRoutes_0 zc hK hM va_S.rf (lv_sub hl [0, 1] rfl) hw
-- m_routes
abbrev rm_m_routes : Room := { frames := 4, cells := 0, slots := 0, locals := 90 }
def q_m_routes_0 (f_code : Int32) (a_many : Nat → Int32) (a_lands : Nat → Int32) (f_land : Int32) (f_huts : Int32) (f_singers : Int32) (a_routes : Nat → Int32) (a_longest : Nat → Int32) (a_steep : Nat → Int32) (a_laid : Nat → Int32) (x1 : Int32) (x2 : Int32) (x3 : Int32) (x4 : Int32) (post : Int32 → (Int32) → (Int32) → (Int32) → (Int32) → (Nat → Int32) → (Nat → Int32) → (Nat → Int32) → (Nat → Int32) → Prop) : Prop :=
  q_m_hand_0 a_many a_lands f_land f_huts f_singers x1 (fun r_1 f_land_1 f_huts_1 f_singers_1 => (r_1 = 0 → (post (-2 : Int32) (0 : Int32) f_land_1 f_huts_1 f_singers_1 a_routes a_longest a_steep a_laid)) ∧ (¬ r_1 = 0 → (q_m_isHut_0 f_huts_1 x2 (fun r_2 => (r_2 = 0 → (post (-2 : Int32) (0 : Int32) f_land_1 f_huts_1 f_singers_1 a_routes a_longest a_steep a_laid)) ∧ (¬ r_2 = 0 → (q_m_isHut_0 f_huts_1 x3 (fun r_3 => (r_3 = 0 → (post (-2 : Int32) (0 : Int32) f_land_1 f_huts_1 f_singers_1 a_routes a_longest a_steep a_laid)) ∧ (¬ r_3 = 0 → ((x2 = x3 → (post (-2 : Int32) (0 : Int32) f_land_1 f_huts_1 f_singers_1 a_routes a_longest a_steep a_laid)) ∧ (¬ x2 = x3 → (q_m_in_0 x4 (0 : Int32) (2 : Int32) (fun r_4 => (¬ r_4 = 0 → (q_m_findRoutes_0 a_lands f_land_1 f_huts_1 a_routes a_longest a_steep a_laid x2 (fun a_routes_1 a_longest_1 a_steep_1 a_laid_1 => (¬ x4 = 0 → (vp_in x3 9 ∧ ((¬ (a_routes_1 (Int32.toNatClampNeg x3)) = 0 → ((¬ x4 = (1 : Int32) → (vp_in x3 9 ∧ (post (a_steep_1 (Int32.toNatClampNeg x3)) (0 : Int32) f_land_1 f_huts_1 f_singers_1 a_routes_1 a_longest_1 a_steep_1 a_laid_1))) ∧ (x4 = (1 : Int32) → (vp_in x3 9 ∧ (post (a_longest_1 (Int32.toNatClampNeg x3)) (0 : Int32) f_land_1 f_huts_1 f_singers_1 a_routes_1 a_longest_1 a_steep_1 a_laid_1))))) ∧ ((a_routes_1 (Int32.toNatClampNeg x3)) = 0 → (post (-1 : Int32) (0 : Int32) f_land_1 f_huts_1 f_singers_1 a_routes_1 a_longest_1 a_steep_1 a_laid_1))))) ∧ (x4 = 0 → (vp_in x3 9 ∧ (post (a_routes_1 (Int32.toNatClampNeg x3)) (0 : Int32) f_land_1 f_huts_1 f_singers_1 a_routes_1 a_longest_1 a_steep_1 a_laid_1)))))) ∧ (r_4 = 0 → (post (-2 : Int32) (0 : Int32) f_land_1 f_huts_1 f_singers_1 a_routes a_longest a_steep a_laid))))))))))))))
set_option maxRecDepth 20000 in
theorem t_m_routes_0 {p : Program} {l : Launch} {e : Env} {s : State} {m : MethodId} {args : Array Value} {below : List Frame} {meth : Method} {c : Code} {E : zE} {q : Nat} {f_code : Int32} {a_tape : Nat → Int32} {a_size : Nat → Int32} {a_fault : Nat → Int32} {a_faultPlace : Nat → Int32} {a_many : Nat → Int32} {a_lands : Nat → Int32} {a_evenings : Nat → Int32} {a_sights : Nat → Int32} {a_choirs : Nat → Int32} {f_reached : Int32} {f_length : Int32} {f_begins : Int32} {f_sort : Int32} {f_value : Int32} {f_word : Int64} {f_wrongAt : Int32} {f_laterFault : Int32} {f_laterPlace : Int32} {a_told : Nat → Int32} {a_read : Nat → Int32} {f_farHut : Int32} {f_farSinger : Int32} {f_good : Int32} {f_land : Int32} {f_huts : Int32} {f_singers : Int32} {f_evening : Int32} {a_at : Nat → Int32} {a_knows : Nat → Int32} {a_climbed : Nat → Int32} {a_snow : Nat → Int32} {a_level : Nat → Int32} {f_begun : Int32} {f_minute : Int32} {f_avalanches : Int32} {a_run : Nat → Int32} {a_covers : Nat → Int32} {a_routes : Nat → Int32} {a_longest : Nat → Int32} {a_steep : Nat → Int32} {a_laid : Nat → Int32} {a_far : Nat → Int32} {f_sight : Int32} {a_runs : Nat → Int32} {f_choir : Int32} {f_voices : Int32} {a_rest : Nat → Int64} {a_wins : Nat → Int32} {f_seed : Int32} {a_other : Nat → Int32} {a_kept : Nat → Int32} {post : Int32 → (Int32) → (Int32) → (Int32) → (Int32) → (Nat → Int32) → (Nat → Int32) → (Nat → Int32) → (Nat → Int32) → Prop} {x1 : Int32} {x2 : Int32} {x3 : Int32} {x4 : Int32} {ls : Array Slot} {H : Heap} {locs : List Loc}
    (zc : zC p s m args meth c cX11_routes 5 RX11 (some .int))
    (hK : zK E s)
    (hM : mW E q f_code a_tape a_size a_fault a_faultPlace a_many a_lands a_evenings a_sights a_choirs f_reached f_length f_begins f_sort f_value f_word f_wrongAt f_laterFault f_laterPlace a_told a_read f_farHut f_farSinger f_good f_land f_huts f_singers f_evening a_at a_knows a_climbed a_snow a_level f_begun f_minute f_avalanches a_run a_covers a_routes a_longest a_steep a_laid a_far f_sight a_runs f_choir f_voices a_rest a_wins f_seed a_other a_kept H)
    (hS : va_S (mA q) s.heap H locs)
    (hl : lv_has ls 5 [(0, .ref q), (1, .int x1), (2, .int x2), (3, .int x3), (4, .int x4)])
    (hw : q_m_routes_0 f_code a_many a_lands f_land f_huts f_singers a_routes a_longest a_steep a_laid x1 x2 x3 x4 post) :
    W p l e rm_m_routes s m args below meth c H locs 0 0 (MQ below (zQi (S := (Int32) × (Int32) × (Int32) × (Int32) × (Nat → Int32) × (Nat → Int32) × (Nat → Int32) × (Nat → Int32)) (fun r u => post r u.1 u.2.1 u.2.2.1 u.2.2.2.1 u.2.2.2.2.1 u.2.2.2.2.2.1 u.2.2.2.2.2.2.1 u.2.2.2.2.2.2.2) (fun u H => mW E q u.1 a_tape a_size a_fault a_faultPlace a_many a_lands a_evenings a_sights a_choirs f_reached f_length f_begins f_sort f_value f_word f_wrongAt f_laterFault f_laterPlace a_told a_read f_farHut f_farSinger f_good u.2.1 u.2.2.1 u.2.2.2.1 f_evening a_at a_knows a_climbed a_snow a_level f_begun f_minute f_avalanches a_run a_covers u.2.2.2.2.1 u.2.2.2.2.2.1 u.2.2.2.2.2.2.1 u.2.2.2.2.2.2.2 a_far f_sight a_runs f_choir f_voices a_rest a_wins f_seed a_other a_kept H) (mA q)) args s 0 0 (mA q)) (F0 m 0 ls []) := by
  have hx := zc.1
  have hb := zc.2.1
  refine lv_aload_n hx hb dX11_routes_0 rfl (lv_at hl 0 rfl) ?_
  refine lv_iconst (v := (0 : Int32)) hx hb dX11_routes_1 (by decide) ?_
  refine mp_11_97_0 zc hK hM hS dX11_routes_2 (fun H locs hM hS => ?_)
  refine lv_aload_n hx hb dX11_routes_5 rfl (lv_at hl 0 rfl) ?_
  refine lv_iload_n hx hb dX11_routes_6 rfl (lv_at hl 1 rfl) ?_
  refine zVw_i [.int x1] [] zc ky_X11_hand kz_X11_hand km_11_313 (c_m_hand l hw) (mPreV0 hK hM) hS rfl rfl hl.1 (Nat.le_of_ble_eq_true rfl) ⟨rfl, rfl⟩ ⟨Nat.le_of_ble_eq_true rfl, Nat.le_of_ble_eq_true rfl⟩ ⟨(Nat.zero_le _), (Nat.zero_le _)⟩ dX11_routes_7 (fun r_1 u H locs hw hM hS => ?_)
  obtain ⟨f_land_1, f_huts_1, f_singers_1⟩ := u
  refine lv_if_eq (tgt := 44) hx hb dX11_routes_10 (by decide) (fun hc => ?_) (fun hc => ?_)
  · have hw := hw.1 hc
    refine lv_bipush (v := (-2 : Int32)) hx hb dX11_routes_44 (by decide) ?_
    exact zret_iw ⟨(0 : Int32), f_land_1, f_huts_1, f_singers_1, a_routes, a_longest, a_steep, a_laid⟩ zc hS hw hM dX11_routes_46
  · have hw := hw.2 hc
    refine lv_aload_n hx hb dX11_routes_13 rfl (lv_at hl 0 rfl) ?_
    refine lv_iload_n hx hb dX11_routes_14 rfl (lv_at hl 2 rfl) ?_
    refine zV_i [.int x2] [] zc ky_X11_isHut kz_X11_isHut km_11_316 (c_m_isHut l hw) (mPreV0 hK hM) rfl rfl hl.1 (Nat.le_of_ble_eq_true rfl) ⟨rfl, rfl⟩ ⟨Nat.le_of_ble_eq_true rfl, Nat.le_of_ble_eq_true rfl⟩ ⟨(Nat.zero_le _), (Nat.zero_le _)⟩ dX11_routes_15 (fun r_2 hw => ?_)
    refine lv_if_eq (tgt := 44) hx hb dX11_routes_18 (by decide) (fun hc => ?_) (fun hc => ?_)
    · have hw := hw.1 hc
      refine lv_bipush (v := (-2 : Int32)) hx hb dX11_routes_44 (by decide) ?_
      exact zret_iw ⟨(0 : Int32), f_land_1, f_huts_1, f_singers_1, a_routes, a_longest, a_steep, a_laid⟩ zc hS hw hM dX11_routes_46
    · have hw := hw.2 hc
      refine lv_aload_n hx hb dX11_routes_21 rfl (lv_at hl 0 rfl) ?_
      refine lv_iload_n hx hb dX11_routes_22 rfl (lv_at hl 3 rfl) ?_
      refine zV_i [.int x3] [] zc ky_X11_isHut kz_X11_isHut km_11_316 (c_m_isHut l hw) (mPreV0 hK hM) rfl rfl hl.1 (Nat.le_of_ble_eq_true rfl) ⟨rfl, rfl⟩ ⟨Nat.le_of_ble_eq_true rfl, Nat.le_of_ble_eq_true rfl⟩ ⟨(Nat.zero_le _), (Nat.zero_le _)⟩ dX11_routes_23 (fun r_3 hw => ?_)
      refine lv_if_eq (tgt := 44) hx hb dX11_routes_26 (by decide) (fun hc => ?_) (fun hc => ?_)
      · have hw := hw.1 hc
        refine lv_bipush (v := (-2 : Int32)) hx hb dX11_routes_44 (by decide) ?_
        exact zret_iw ⟨(0 : Int32), f_land_1, f_huts_1, f_singers_1, a_routes, a_longest, a_steep, a_laid⟩ zc hS hw hM dX11_routes_46
      · have hw := hw.2 hc
        refine lv_iload_n hx hb dX11_routes_29 rfl (lv_at hl 2 rfl) ?_
        refine lv_iload_n hx hb dX11_routes_30 rfl (lv_at hl 3 rfl) ?_
        refine lv_icmp_eq (tgt := 44) hx hb dX11_routes_31 (by decide) (fun hc => ?_) (fun hc => ?_)
        · have hw := hw.1 hc
          refine lv_bipush (v := (-2 : Int32)) hx hb dX11_routes_44 (by decide) ?_
          exact zret_iw ⟨(0 : Int32), f_land_1, f_huts_1, f_singers_1, a_routes, a_longest, a_steep, a_laid⟩ zc hS hw hM dX11_routes_46
        · have hw := hw.2 hc
          refine lv_iload hx hb dX11_routes_34 (lv_at hl 4 rfl) ?_
          refine lv_iconst (v := (0 : Int32)) hx hb dX11_routes_36 (by decide) ?_
          refine lv_iconst (v := (2 : Int32)) hx hb dX11_routes_37 (by decide) ?_
          refine zS_i [.int x4, .int (0 : Int32), .int (2 : Int32)] [] zc ky_X11_in kz_X11_in km_11_109 (c_m_in l hw) (zPre0 _) rfl rfl hl.1 (Nat.le_of_ble_eq_true rfl) ⟨rfl, rfl⟩ ⟨Nat.le_of_ble_eq_true rfl, Nat.le_of_ble_eq_true rfl⟩ ⟨(Nat.zero_le _), (Nat.zero_le _)⟩ dX11_routes_38 (fun r_4 hw => ?_)
          refine lv_if_ne (tgt := 47) hx hb dX11_routes_41 (by decide) (fun hc => ?_) (fun hc => ?_)
          · have hw := hw.1 hc
            refine lv_aload_n hx hb dX11_routes_47 rfl (lv_at hl 0 rfl) ?_
            refine lv_iload_n hx hb dX11_routes_48 rfl (lv_at hl 2 rfl) ?_
            refine zVw_v [.int x2] [] zc ky_X11_findRoutes kz_X11_findRoutes km_11_447 (c_m_findRoutes l hw) (mPreV0 hK hM) hS rfl rfl hl.1 (Nat.le_of_ble_eq_true rfl) ⟨rfl, rfl⟩ ⟨Nat.le_of_ble_eq_true rfl, Nat.le_of_ble_eq_true rfl⟩ ⟨(Nat.zero_le _), (Nat.zero_le _)⟩ dX11_routes_49 (fun u H locs hw hM hS => ?_)
            obtain ⟨a_routes_1, a_longest_1, a_steep_1, a_laid_1⟩ := u
            refine lv_iload hx hb dX11_routes_52 (lv_at hl 4 rfl) ?_
            refine lv_if_ne (tgt := 66) hx hb dX11_routes_54 (by decide) (fun hc => ?_) (fun hc => ?_)
            · have hw := hw.1 hc
              refine lv_aload_n hx hb dX11_routes_66 rfl (lv_at hl 0 rfl) ?_
              refine mg_11_65_0 zc hK hM dX11_routes_67 ?_
              refine lv_iload_n hx hb dX11_routes_70 rfl (lv_at hl 3 rfl) ?_
              refine mld_19 zc hK hM hw.1 dX11_routes_71 ?_
              have hw := hw.2
              refine lv_if_ne (tgt := 79) hx hb dX11_routes_72 (by decide) (fun hc => ?_) (fun hc => ?_)
              · have hw := hw.1 hc
                refine lv_iload hx hb dX11_routes_79 (lv_at hl 4 rfl) ?_
                refine lv_iconst (v := (1 : Int32)) hx hb dX11_routes_81 (by decide) ?_
                refine lv_icmp_ne (tgt := 94) hx hb dX11_routes_82 (by decide) (fun hc => ?_) (fun hc => ?_)
                · have hw := hw.1 hc
                  refine lv_aload_n hx hb dX11_routes_94 rfl (lv_at hl 0 rfl) ?_
                  refine mg_11_71_0 zc hK hM dX11_routes_95 ?_
                  refine lv_iload_n hx hb dX11_routes_98 rfl (lv_at hl 3 rfl) ?_
                  refine mld_21 zc hK hM hw.1 dX11_routes_99 ?_
                  have hw := hw.2
                  exact zret_iw ⟨(0 : Int32), f_land_1, f_huts_1, f_singers_1, a_routes_1, a_longest_1, a_steep_1, a_laid_1⟩ zc hS hw hM dX11_routes_100
                · have hw := hw.2 hc
                  refine lv_aload_n hx hb dX11_routes_85 rfl (lv_at hl 0 rfl) ?_
                  refine mg_11_68_0 zc hK hM dX11_routes_86 ?_
                  refine lv_iload_n hx hb dX11_routes_89 rfl (lv_at hl 3 rfl) ?_
                  refine mld_20 zc hK hM hw.1 dX11_routes_90 ?_
                  have hw := hw.2
                  refine lv_goto (tgt := 100) hx hb dX11_routes_91 (by decide) ?_
                  exact zret_iw ⟨(0 : Int32), f_land_1, f_huts_1, f_singers_1, a_routes_1, a_longest_1, a_steep_1, a_laid_1⟩ zc hS hw hM dX11_routes_100
              · have hw := hw.2 hc
                refine lv_iconst (v := (-1 : Int32)) hx hb dX11_routes_75 (by decide) ?_
                refine lv_goto (tgt := 100) hx hb dX11_routes_76 (by decide) ?_
                exact zret_iw ⟨(0 : Int32), f_land_1, f_huts_1, f_singers_1, a_routes_1, a_longest_1, a_steep_1, a_laid_1⟩ zc hS hw hM dX11_routes_100
            · have hw := hw.2 hc
              refine lv_aload_n hx hb dX11_routes_57 rfl (lv_at hl 0 rfl) ?_
              refine mg_11_65_0 zc hK hM dX11_routes_58 ?_
              refine lv_iload_n hx hb dX11_routes_61 rfl (lv_at hl 3 rfl) ?_
              refine mld_19 zc hK hM hw.1 dX11_routes_62 ?_
              have hw := hw.2
              refine lv_goto (tgt := 100) hx hb dX11_routes_63 (by decide) ?_
              exact zret_iw ⟨(0 : Int32), f_land_1, f_huts_1, f_singers_1, a_routes_1, a_longest_1, a_steep_1, a_laid_1⟩ zc hS hw hM dX11_routes_100
          · have hw := hw.2 hc
            refine lv_bipush (v := (-2 : Int32)) hx hb dX11_routes_44 (by decide) ?_
            exact zret_iw ⟨(0 : Int32), f_land_1, f_huts_1, f_singers_1, a_routes, a_longest, a_steep, a_laid⟩ zc hS hw hM dX11_routes_46
set_option maxRecDepth 20000 in
theorem c_m_routes (l : Launch) {E : zE} {q : Nat} {f_code : Int32} {a_tape : Nat → Int32} {a_size : Nat → Int32} {a_fault : Nat → Int32} {a_faultPlace : Nat → Int32} {a_many : Nat → Int32} {a_lands : Nat → Int32} {a_evenings : Nat → Int32} {a_sights : Nat → Int32} {a_choirs : Nat → Int32} {f_reached : Int32} {f_length : Int32} {f_begins : Int32} {f_sort : Int32} {f_value : Int32} {f_word : Int64} {f_wrongAt : Int32} {f_laterFault : Int32} {f_laterPlace : Int32} {a_told : Nat → Int32} {a_read : Nat → Int32} {f_farHut : Int32} {f_farSinger : Int32} {f_good : Int32} {f_land : Int32} {f_huts : Int32} {f_singers : Int32} {f_evening : Int32} {a_at : Nat → Int32} {a_knows : Nat → Int32} {a_climbed : Nat → Int32} {a_snow : Nat → Int32} {a_level : Nat → Int32} {f_begun : Int32} {f_minute : Int32} {f_avalanches : Int32} {a_run : Nat → Int32} {a_covers : Nat → Int32} {a_routes : Nat → Int32} {a_longest : Nat → Int32} {a_steep : Nat → Int32} {a_laid : Nat → Int32} {a_far : Nat → Int32} {f_sight : Int32} {a_runs : Nat → Int32} {f_choir : Int32} {f_voices : Int32} {a_rest : Nat → Int64} {a_wins : Nat → Int32} {f_seed : Int32} {a_other : Nat → Int32} {a_kept : Nat → Int32} {x1 : Int32} {x2 : Int32} {x3 : Int32} {x4 : Int32} {post : Int32 → (Int32) → (Int32) → (Int32) → (Int32) → (Nat → Int32) → (Nat → Int32) → (Nat → Int32) → (Nat → Int32) → Prop} (hw : q_m_routes_0 f_code a_many a_lands f_land f_huts f_singers a_routes a_longest a_steep a_laid x1 x2 x3 x4 post) : Met l yX11_routes (Cond.code yX11_routes cX11_routes 5 (some .int) :: zb) rm_m_routes (va_Pc [.ref q, .int x1, .int x2, .int x3, .int x4] (fun U => mW E q f_code a_tape a_size a_fault a_faultPlace a_many a_lands a_evenings a_sights a_choirs f_reached f_length f_begins f_sort f_value f_word f_wrongAt f_laterFault f_laterPlace a_told a_read f_farHut f_farSinger f_good f_land f_huts f_singers f_evening a_at a_knows a_climbed a_snow a_level f_begun f_minute f_avalanches a_run a_covers a_routes a_longest a_steep a_laid a_far f_sight a_runs f_choir f_voices a_rest a_wins f_seed a_other a_kept U.heap ∧ zK E U)) (zQi (S := (Int32) × (Int32) × (Int32) × (Int32) × (Nat → Int32) × (Nat → Int32) × (Nat → Int32) × (Nat → Int32)) (fun r u => post r u.1 u.2.1 u.2.2.1 u.2.2.2.1 u.2.2.2.2.1 u.2.2.2.2.2.1 u.2.2.2.2.2.2.1 u.2.2.2.2.2.2.2) (fun u H => mW E q u.1 a_tape a_size a_fault a_faultPlace a_many a_lands a_evenings a_sights a_choirs f_reached f_length f_begins f_sort f_value f_word f_wrongAt f_laterFault f_laterPlace a_told a_read f_farHut f_farSinger f_good u.2.1 u.2.2.1 u.2.2.2.1 f_evening a_at a_knows a_climbed a_snow a_level f_begun f_minute f_avalanches a_run a_covers u.2.2.2.2.1 u.2.2.2.2.2.1 u.2.2.2.2.2.2.1 u.2.2.2.2.2.2.2 a_far f_sight a_runs f_choir f_voices a_rest a_wins f_seed a_other a_kept H) (mA q)) 0 0 (mA q) := by
  refine Met.ofW (cc := cX11_routes) (maxL := 5) (ret := (some .int)) (by decide) rfl ?_
  intro p e s m args below meth c s₁ B hml hv
  obtain ⟨rfl, hM, hK⟩ := hv
  have zc := zc_of B hml
  have hl := lv_entry ([.ref q, .int x1, .int x2, .int x3, .int x4]) (n := 5) (Nat.le_of_ble_eq_true rfl)
  rw [lg_entry_eq]
  generalize (lg_sl ([.ref q, .int x1, .int x2, .int x3, .int x4]) ++ List.replicate (5 - (lg_sl ([.ref q, .int x1, .int x2, .int x3, .int x4])).length) Slot.unset).toArray = ls at hl ⊢
  have hl : lv_has ls 5 [(0, .ref q), (1, .int x1), (2, .int x2), (3, .int x3), (4, .int x4)] := hl
  exact t_m_routes_0 zc hK hM va_S.rf (lv_sub hl [0, 1, 2, 3, 4] rfl) hw
-- m_mutesOf
abbrev rm_m_mutesOf : Room := { frames := 3, cells := 0, slots := 0, locals := 70 }
def q_m_mutesOf_0 (a_lands : Nat → Int32) (f_land : Int32) (f_huts : Int32) (a_run : Nat → Int32) (x1 : Int32) (x2 : Int32) (post : Int32 → (Nat → Int32) → Prop) : Prop :=
  q_m_findRun_0 a_lands f_land f_huts a_run x1 (0 : Int32) (fun a_run_1 => q_m_comesBy_0 f_huts a_run_1 (999999 : Int32) (fun r_1 => q_m_findRun_0 a_lands f_land f_huts a_run_1 x1 ((1 : Int32) <<< (x2 &&& 31)) (fun a_run_2 => q_m_comesBy_0 f_huts a_run_2 (999999 : Int32) (fun r_2 => q_m_ones_0 (((r_1 &&& (r_2 ^^^ (-1 : Int32))) &&& (((1 : Int32) <<< (x1 &&& 31)) ^^^ (-1 : Int32))) &&& (((1 : Int32) <<< (x2 &&& 31)) ^^^ (-1 : Int32))) (fun r_3 => post r_3 a_run_2)))))
set_option maxRecDepth 20000 in
theorem t_m_mutesOf_0 {p : Program} {l : Launch} {e : Env} {s : State} {m : MethodId} {args : Array Value} {below : List Frame} {meth : Method} {c : Code} {E : zE} {q : Nat} {f_code : Int32} {a_tape : Nat → Int32} {a_size : Nat → Int32} {a_fault : Nat → Int32} {a_faultPlace : Nat → Int32} {a_many : Nat → Int32} {a_lands : Nat → Int32} {a_evenings : Nat → Int32} {a_sights : Nat → Int32} {a_choirs : Nat → Int32} {f_reached : Int32} {f_length : Int32} {f_begins : Int32} {f_sort : Int32} {f_value : Int32} {f_word : Int64} {f_wrongAt : Int32} {f_laterFault : Int32} {f_laterPlace : Int32} {a_told : Nat → Int32} {a_read : Nat → Int32} {f_farHut : Int32} {f_farSinger : Int32} {f_good : Int32} {f_land : Int32} {f_huts : Int32} {f_singers : Int32} {f_evening : Int32} {a_at : Nat → Int32} {a_knows : Nat → Int32} {a_climbed : Nat → Int32} {a_snow : Nat → Int32} {a_level : Nat → Int32} {f_begun : Int32} {f_minute : Int32} {f_avalanches : Int32} {a_run : Nat → Int32} {a_covers : Nat → Int32} {a_routes : Nat → Int32} {a_longest : Nat → Int32} {a_steep : Nat → Int32} {a_laid : Nat → Int32} {a_far : Nat → Int32} {f_sight : Int32} {a_runs : Nat → Int32} {f_choir : Int32} {f_voices : Int32} {a_rest : Nat → Int64} {a_wins : Nat → Int32} {f_seed : Int32} {a_other : Nat → Int32} {a_kept : Nat → Int32} {post : Int32 → (Nat → Int32) → Prop} {x1 : Int32} {x2 : Int32} {ls : Array Slot} {H : Heap} {locs : List Loc}
    (zc : zC p s m args meth c cX11_mutesOf 4 RX11 (some .int))
    (hK : zK E s)
    (hM : mW E q f_code a_tape a_size a_fault a_faultPlace a_many a_lands a_evenings a_sights a_choirs f_reached f_length f_begins f_sort f_value f_word f_wrongAt f_laterFault f_laterPlace a_told a_read f_farHut f_farSinger f_good f_land f_huts f_singers f_evening a_at a_knows a_climbed a_snow a_level f_begun f_minute f_avalanches a_run a_covers a_routes a_longest a_steep a_laid a_far f_sight a_runs f_choir f_voices a_rest a_wins f_seed a_other a_kept H)
    (hS : va_S (mA q) s.heap H locs)
    (hl : lv_has ls 4 [(0, .ref q), (1, .int x1), (2, .int x2)])
    (hw : q_m_mutesOf_0 a_lands f_land f_huts a_run x1 x2 post) :
    W p l e rm_m_mutesOf s m args below meth c H locs 0 0 (MQ below (zQi (S := (Nat → Int32)) (fun r u => post r u) (fun u H => mW E q f_code a_tape a_size a_fault a_faultPlace a_many a_lands a_evenings a_sights a_choirs f_reached f_length f_begins f_sort f_value f_word f_wrongAt f_laterFault f_laterPlace a_told a_read f_farHut f_farSinger f_good f_land f_huts f_singers f_evening a_at a_knows a_climbed a_snow a_level f_begun f_minute f_avalanches u a_covers a_routes a_longest a_steep a_laid a_far f_sight a_runs f_choir f_voices a_rest a_wins f_seed a_other a_kept H) (mA q)) args s 0 0 (mA q)) (F0 m 0 ls []) := by
  have hx := zc.1
  have hb := zc.2.1
  refine lv_aload_n hx hb dX11_mutesOf_0 rfl (lv_at hl 0 rfl) ?_
  refine lv_iload_n hx hb dX11_mutesOf_1 rfl (lv_at hl 1 rfl) ?_
  refine lv_iconst (v := (0 : Int32)) hx hb dX11_mutesOf_2 (by decide) ?_
  refine zVw_v [.int x1, .int (0 : Int32)] [] zc ky_X11_findRun kz_X11_findRun km_11_414 (c_m_findRun l hw) (mPreV0 hK hM) hS rfl rfl hl.1 (Nat.le_of_ble_eq_true rfl) ⟨rfl, rfl⟩ ⟨Nat.le_of_ble_eq_true rfl, Nat.le_of_ble_eq_true rfl⟩ ⟨(Nat.zero_le _), (Nat.zero_le _)⟩ dX11_mutesOf_3 (fun a_run_1 H locs hw hM hS => ?_)
  refine lv_aload_n hx hb dX11_mutesOf_6 rfl (lv_at hl 0 rfl) ?_
  refine lv_ldcw (v := (999999 : Int32)) hx hb zc.2.2.2.1 (zc.2.2.2.2.1 _ kc_11_450) dX11_mutesOf_7 ?_
  refine zV_i [.int (999999 : Int32)] [] zc ky_X11_comesBy kz_X11_comesBy km_11_423 (c_m_comesBy l hw) (mPreV0 hK hM) rfl rfl hl.1 (Nat.le_of_ble_eq_true rfl) ⟨rfl, rfl⟩ ⟨Nat.le_of_ble_eq_true rfl, Nat.le_of_ble_eq_true rfl⟩ ⟨(Nat.zero_le _), (Nat.zero_le _)⟩ dX11_mutesOf_10 (fun r_1 hw => ?_)
  refine lv_istore_n (lv' := [(3, .int r_1), (0, .ref q), (1, .int x1), (2, .int x2)]) hx hb dX11_mutesOf_13 rfl hl (by decide) rfl (fun ls hl => ?_)
  refine lv_aload_n hx hb dX11_mutesOf_14 rfl (lv_at hl 1 rfl) ?_
  refine lv_iload_n hx hb dX11_mutesOf_15 rfl (lv_at hl 2 rfl) ?_
  refine lv_iconst (v := (1 : Int32)) hx hb dX11_mutesOf_16 (by decide) ?_
  refine lv_iload_n hx hb dX11_mutesOf_17 rfl (lv_at hl 3 rfl) ?_
  refine lv_ishl hx hb dX11_mutesOf_18 ?_
  refine zVw_v [.int x1, .int ((1 : Int32) <<< (x2 &&& 31))] [] zc ky_X11_findRun kz_X11_findRun km_11_414 (c_m_findRun l hw) (mPreV0 hK hM) hS rfl rfl hl.1 (Nat.le_of_ble_eq_true rfl) ⟨rfl, rfl⟩ ⟨Nat.le_of_ble_eq_true rfl, Nat.le_of_ble_eq_true rfl⟩ ⟨(Nat.zero_le _), (Nat.zero_le _)⟩ dX11_mutesOf_19 (fun a_run_2 H locs hw hM hS => ?_)
  refine lv_iload_n hx hb dX11_mutesOf_22 rfl (lv_at hl 0 rfl) ?_
  refine lv_aload_n hx hb dX11_mutesOf_23 rfl (lv_at hl 1 rfl) ?_
  refine lv_ldcw (v := (999999 : Int32)) hx hb zc.2.2.2.1 (zc.2.2.2.2.1 _ kc_11_450) dX11_mutesOf_24 ?_
  refine zV_i [.int (999999 : Int32)] [.int r_1] zc ky_X11_comesBy kz_X11_comesBy km_11_423 (c_m_comesBy l hw) (mPreV0 hK hM) rfl rfl hl.1 (Nat.le_of_ble_eq_true rfl) ⟨rfl, rfl⟩ ⟨Nat.le_of_ble_eq_true rfl, Nat.le_of_ble_eq_true rfl⟩ ⟨(Nat.zero_le _), (Nat.zero_le _)⟩ dX11_mutesOf_27 (fun r_2 hw => ?_)
  refine lv_iconst (v := (-1 : Int32)) hx hb dX11_mutesOf_30 (by decide) ?_
  refine lv_ixor hx hb dX11_mutesOf_31 ?_
  refine lv_iand hx hb dX11_mutesOf_32 ?_
  refine lv_iconst (v := (1 : Int32)) hx hb dX11_mutesOf_33 (by decide) ?_
  refine lv_iload_n hx hb dX11_mutesOf_34 rfl (lv_at hl 2 rfl) ?_
  refine lv_ishl hx hb dX11_mutesOf_35 ?_
  refine lv_iconst (v := (-1 : Int32)) hx hb dX11_mutesOf_36 (by decide) ?_
  refine lv_ixor hx hb dX11_mutesOf_37 ?_
  refine lv_iand hx hb dX11_mutesOf_38 ?_
  refine lv_iconst (v := (1 : Int32)) hx hb dX11_mutesOf_39 (by decide) ?_
  refine lv_iload_n hx hb dX11_mutesOf_40 rfl (lv_at hl 3 rfl) ?_
  refine lv_ishl hx hb dX11_mutesOf_41 ?_
  refine lv_iconst (v := (-1 : Int32)) hx hb dX11_mutesOf_42 (by decide) ?_
  refine lv_ixor hx hb dX11_mutesOf_43 ?_
  refine lv_iand hx hb dX11_mutesOf_44 ?_
  refine zS_i [.int (((r_1 &&& (r_2 ^^^ (-1 : Int32))) &&& (((1 : Int32) <<< (x1 &&& 31)) ^^^ (-1 : Int32))) &&& (((1 : Int32) <<< (x2 &&& 31)) ^^^ (-1 : Int32)))] [] zc ky_X11_ones kz_X11_ones km_11_429 (c_m_ones l hw) (zPre0 _) rfl rfl hl.1 (Nat.le_of_ble_eq_true rfl) ⟨rfl, rfl⟩ ⟨Nat.le_of_ble_eq_true rfl, Nat.le_of_ble_eq_true rfl⟩ ⟨(Nat.zero_le _), (Nat.zero_le _)⟩ dX11_mutesOf_45 (fun r_3 hw => ?_)
  exact zret_iw a_run_2 zc hS hw hM dX11_mutesOf_48
set_option maxRecDepth 20000 in
theorem c_m_mutesOf (l : Launch) {E : zE} {q : Nat} {f_code : Int32} {a_tape : Nat → Int32} {a_size : Nat → Int32} {a_fault : Nat → Int32} {a_faultPlace : Nat → Int32} {a_many : Nat → Int32} {a_lands : Nat → Int32} {a_evenings : Nat → Int32} {a_sights : Nat → Int32} {a_choirs : Nat → Int32} {f_reached : Int32} {f_length : Int32} {f_begins : Int32} {f_sort : Int32} {f_value : Int32} {f_word : Int64} {f_wrongAt : Int32} {f_laterFault : Int32} {f_laterPlace : Int32} {a_told : Nat → Int32} {a_read : Nat → Int32} {f_farHut : Int32} {f_farSinger : Int32} {f_good : Int32} {f_land : Int32} {f_huts : Int32} {f_singers : Int32} {f_evening : Int32} {a_at : Nat → Int32} {a_knows : Nat → Int32} {a_climbed : Nat → Int32} {a_snow : Nat → Int32} {a_level : Nat → Int32} {f_begun : Int32} {f_minute : Int32} {f_avalanches : Int32} {a_run : Nat → Int32} {a_covers : Nat → Int32} {a_routes : Nat → Int32} {a_longest : Nat → Int32} {a_steep : Nat → Int32} {a_laid : Nat → Int32} {a_far : Nat → Int32} {f_sight : Int32} {a_runs : Nat → Int32} {f_choir : Int32} {f_voices : Int32} {a_rest : Nat → Int64} {a_wins : Nat → Int32} {f_seed : Int32} {a_other : Nat → Int32} {a_kept : Nat → Int32} {x1 : Int32} {x2 : Int32} {post : Int32 → (Nat → Int32) → Prop} (hw : q_m_mutesOf_0 a_lands f_land f_huts a_run x1 x2 post) : Met l yX11_mutesOf (Cond.code yX11_mutesOf cX11_mutesOf 4 (some .int) :: zb) rm_m_mutesOf (va_Pc [.ref q, .int x1, .int x2] (fun U => mW E q f_code a_tape a_size a_fault a_faultPlace a_many a_lands a_evenings a_sights a_choirs f_reached f_length f_begins f_sort f_value f_word f_wrongAt f_laterFault f_laterPlace a_told a_read f_farHut f_farSinger f_good f_land f_huts f_singers f_evening a_at a_knows a_climbed a_snow a_level f_begun f_minute f_avalanches a_run a_covers a_routes a_longest a_steep a_laid a_far f_sight a_runs f_choir f_voices a_rest a_wins f_seed a_other a_kept U.heap ∧ zK E U)) (zQi (S := (Nat → Int32)) (fun r u => post r u) (fun u H => mW E q f_code a_tape a_size a_fault a_faultPlace a_many a_lands a_evenings a_sights a_choirs f_reached f_length f_begins f_sort f_value f_word f_wrongAt f_laterFault f_laterPlace a_told a_read f_farHut f_farSinger f_good f_land f_huts f_singers f_evening a_at a_knows a_climbed a_snow a_level f_begun f_minute f_avalanches u a_covers a_routes a_longest a_steep a_laid a_far f_sight a_runs f_choir f_voices a_rest a_wins f_seed a_other a_kept H) (mA q)) 0 0 (mA q) := by
  refine Met.ofW (cc := cX11_mutesOf) (maxL := 4) (ret := (some .int)) (by decide) rfl ?_
  intro p e s m args below meth c s₁ B hml hv
  obtain ⟨rfl, hM, hK⟩ := hv
  have zc := zc_of B hml
  have hl := lv_entry ([.ref q, .int x1, .int x2]) (n := 4) (Nat.le_of_ble_eq_true rfl)
  rw [lg_entry_eq]
  generalize (lg_sl ([.ref q, .int x1, .int x2]) ++ List.replicate (4 - (lg_sl ([.ref q, .int x1, .int x2])).length) Slot.unset).toArray = ls at hl ⊢
  have hl : lv_has ls 4 [(0, .ref q), (1, .int x1), (2, .int x2)] := hl
  exact t_m_mutesOf_0 zc hK hM va_S.rf (lv_sub hl [0, 1, 2] rfl) hw
-- m_mutes
abbrev rm_m_mutes : Room := { frames := 4, cells := 0, slots := 0, locals := 93 }
def q_m_mutes_130 (P79 : Int32 → Int32 → Int32 → (Nat → Int32) → Prop) (f_code : Int32) (a_many : Nat → Int32) (a_lands : Nat → Int32) (f_land : Int32) (f_huts : Int32) (f_singers : Int32) (a_run : Nat → Int32) (x2 : Int32) (x5 : Int32) (x6 : Int32) (x7 : Int32) (y0 : Int32) (post : Int32 → (Int32) → (Int32) → (Int32) → (Int32) → (Nat → Int32) → Prop) : Prop :=
  q_m_greater_0 x5 x7 (fun r_1 => ∀ v_1 : Int32, v_1 = x6 + (1 : Int32) → (P79 y0 r_1 v_1 a_run))
def q_m_mutes_114 (P79 : Int32 → Int32 → Int32 → (Nat → Int32) → Prop) (f_code : Int32) (a_many : Nat → Int32) (a_lands : Nat → Int32) (f_land : Int32) (f_huts : Int32) (f_singers : Int32) (a_run : Nat → Int32) (x2 : Int32) (x4 : Int32) (x5 : Int32) (x6 : Int32) (y0 : Int32) (post : Int32 → (Int32) → (Int32) → (Int32) → (Int32) → (Nat → Int32) → Prop) : Prop :=
  (y0 ≤ x5 → (q_m_mutes_130 P79 f_code a_many a_lands f_land f_huts f_singers a_run x2 x5 x6 y0 x4 post)) ∧ (¬ y0 ≤ x5 → (q_m_mutes_130 P79 f_code a_many a_lands f_land f_huts f_singers a_run x2 x5 x6 y0 x6 post))
def q_m_mutes_103 (P79 : Int32 → Int32 → Int32 → (Nat → Int32) → Prop) (f_code : Int32) (a_many : Nat → Int32) (a_lands : Nat → Int32) (f_land : Int32) (f_huts : Int32) (f_singers : Int32) (a_run : Nat → Int32) (x2 : Int32) (x4 : Int32) (x5 : Int32) (x6 : Int32) (post : Int32 → (Int32) → (Int32) → (Int32) → (Int32) → (Nat → Int32) → Prop) : Prop :=
  q_m_mutes_114 P79 f_code a_many a_lands f_land f_huts f_singers a_run x2 x4 x5 x6 (-1 : Int32) post
def q_m_mutes_79 (f_code : Int32) (a_many : Nat → Int32) (a_lands : Nat → Int32) (f_land : Int32) (f_huts : Int32) (f_singers : Int32) (a_run : Nat → Int32) (x2 : Int32) (x4 : Int32) (x5 : Int32) (x6 : Int32) (post : Int32 → (Int32) → (Int32) → (Int32) → (Int32) → (Nat → Int32) → Prop) : Prop :=
  ∀ P79 : Int32 → Int32 → Int32 → (Nat → Int32) → Prop, (∀ (x4 : Int32) (x5 : Int32) (x6 : Int32) (a_run : Nat → Int32), ((f_huts ≤ x6 → (post x4 f_code f_land f_huts f_singers a_run)) ∧ (¬ f_huts ≤ x6 → ((x6 = x2 → (q_m_mutes_103 P79 f_code a_many a_lands f_land f_huts f_singers a_run x2 x4 x5 x6 post)) ∧ (¬ x6 = x2 → (q_m_isDam_0 a_lands f_land x6 (fun r_1 => (r_1 = 0 → (q_m_mutesOf_0 a_lands f_land f_huts a_run x2 x6 (fun r_2 a_run_1 => q_m_mutes_114 P79 f_code a_many a_lands f_land f_huts f_singers a_run_1 x2 x4 x5 x6 r_2 post))) ∧ (¬ r_1 = 0 → (q_m_mutes_103 P79 f_code a_many a_lands f_land f_huts f_singers a_run x2 x4 x5 x6 post)))))))) → P79 x4 x5 x6 a_run) → P79 x4 x5 x6 a_run
def q_m_mutes_58 (f_code : Int32) (a_many : Nat → Int32) (a_lands : Nat → Int32) (f_land : Int32) (f_huts : Int32) (f_singers : Int32) (a_run : Nat → Int32) (x2 : Int32) (x3 : Int32) (post : Int32 → (Int32) → (Int32) → (Int32) → (Int32) → (Nat → Int32) → Prop) : Prop :=
  (x3 = (-1 : Int32) → (q_m_mutes_79 f_code a_many a_lands f_land f_huts f_singers a_run x2 (-1 : Int32) (-1 : Int32) (0 : Int32) post)) ∧ (¬ x3 = (-1 : Int32) → (q_m_mutesOf_0 a_lands f_land f_huts a_run x2 x3 (fun r_1 a_run_1 => post r_1 f_code f_land f_huts f_singers a_run_1)))
def q_m_mutes_0 (f_code : Int32) (a_many : Nat → Int32) (a_lands : Nat → Int32) (f_land : Int32) (f_huts : Int32) (f_singers : Int32) (a_run : Nat → Int32) (x1 : Int32) (x2 : Int32) (x3 : Int32) (post : Int32 → (Int32) → (Int32) → (Int32) → (Int32) → (Nat → Int32) → Prop) : Prop :=
  q_m_hand_0 a_many a_lands f_land f_huts f_singers x1 (fun r_1 f_land_1 f_huts_1 f_singers_1 => (r_1 = 0 → (post (-2 : Int32) (0 : Int32) f_land_1 f_huts_1 f_singers_1 a_run)) ∧ (¬ r_1 = 0 → (q_m_isHut_0 f_huts_1 x2 (fun r_2 => (r_2 = 0 → (post (-2 : Int32) (0 : Int32) f_land_1 f_huts_1 f_singers_1 a_run)) ∧ (¬ r_2 = 0 → (q_m_isDam_0 a_lands f_land_1 x2 (fun r_3 => (¬ r_3 = 0 → (post (-2 : Int32) (0 : Int32) f_land_1 f_huts_1 f_singers_1 a_run)) ∧ (r_3 = 0 → ((x3 = (-1 : Int32) → (q_m_mutes_58 (0 : Int32) a_many a_lands f_land_1 f_huts_1 f_singers_1 a_run x2 x3 post)) ∧ (¬ x3 = (-1 : Int32) → (q_m_isHut_0 f_huts_1 x3 (fun r_4 => (r_4 = 0 → (post (-2 : Int32) (0 : Int32) f_land_1 f_huts_1 f_singers_1 a_run)) ∧ (¬ r_4 = 0 → (q_m_isDam_0 a_lands f_land_1 x3 (fun r_5 => (¬ r_5 = 0 → (post (-2 : Int32) (0 : Int32) f_land_1 f_huts_1 f_singers_1 a_run)) ∧ (r_5 = 0 → ((¬ x3 = x2 → (q_m_mutes_58 (0 : Int32) a_many a_lands f_land_1 f_huts_1 f_singers_1 a_run x2 x3 post)) ∧ (x3 = x2 → (post (-2 : Int32) (0 : Int32) f_land_1 f_huts_1 f_singers_1 a_run)))))))))))))))))))
set_option maxRecDepth 20000 in
theorem t_m_mutes_130 {p : Program} {l : Launch} {e : Env} {s : State} {m : MethodId} {args : Array Value} {below : List Frame} {meth : Method} {c : Code} {E : zE} {q : Nat} {f_code : Int32} {a_tape : Nat → Int32} {a_size : Nat → Int32} {a_fault : Nat → Int32} {a_faultPlace : Nat → Int32} {a_many : Nat → Int32} {a_lands : Nat → Int32} {a_evenings : Nat → Int32} {a_sights : Nat → Int32} {a_choirs : Nat → Int32} {f_reached : Int32} {f_length : Int32} {f_begins : Int32} {f_sort : Int32} {f_value : Int32} {f_word : Int64} {f_wrongAt : Int32} {f_laterFault : Int32} {f_laterPlace : Int32} {a_told : Nat → Int32} {a_read : Nat → Int32} {f_farHut : Int32} {f_farSinger : Int32} {f_good : Int32} {f_land : Int32} {f_huts : Int32} {f_singers : Int32} {f_evening : Int32} {a_at : Nat → Int32} {a_knows : Nat → Int32} {a_climbed : Nat → Int32} {a_snow : Nat → Int32} {a_level : Nat → Int32} {f_begun : Int32} {f_minute : Int32} {f_avalanches : Int32} {a_run : Nat → Int32} {a_covers : Nat → Int32} {a_routes : Nat → Int32} {a_longest : Nat → Int32} {a_steep : Nat → Int32} {a_laid : Nat → Int32} {a_far : Nat → Int32} {f_sight : Int32} {a_runs : Nat → Int32} {f_choir : Int32} {f_voices : Int32} {a_rest : Nat → Int64} {a_wins : Nat → Int32} {f_seed : Int32} {a_other : Nat → Int32} {a_kept : Nat → Int32} {P79 : Int32 → Int32 → Int32 → (Nat → Int32) → Prop} {post : Int32 → (Int32) → (Int32) → (Int32) → (Int32) → (Nat → Int32) → Prop} {x2 : Int32} {x5 : Int32} {x6 : Int32} {x7 : Int32} {y0 : Int32} {ls : Array Slot} {H : Heap} {locs : List Loc}
    (zc : zC p s m args meth c cX11_mutes 8 RX11 (some .int))
    (hK : zK E s)
    (hM : mW E q f_code a_tape a_size a_fault a_faultPlace a_many a_lands a_evenings a_sights a_choirs f_reached f_length f_begins f_sort f_value f_word f_wrongAt f_laterFault f_laterPlace a_told a_read f_farHut f_farSinger f_good f_land f_huts f_singers f_evening a_at a_knows a_climbed a_snow a_level f_begun f_minute f_avalanches a_run a_covers a_routes a_longest a_steep a_laid a_far f_sight a_runs f_choir f_voices a_rest a_wins f_seed a_other a_kept H)
    (hS : va_S (mA q) s.heap H locs)
    (hP79 : ∀ (x4 : Int32) (x5 : Int32) (x6 : Int32) (a_run : Nat → Int32) (H : Heap) (locs : List Loc) (ls : Array Slot), P79 x4 x5 x6 a_run → lv_has ls 8 [(0, .ref q), (2, .int x2), (4, .int x4), (5, .int x5), (6, .int x6)] → mW E q f_code a_tape a_size a_fault a_faultPlace a_many a_lands a_evenings a_sights a_choirs f_reached f_length f_begins f_sort f_value f_word f_wrongAt f_laterFault f_laterPlace a_told a_read f_farHut f_farSinger f_good f_land f_huts f_singers f_evening a_at a_knows a_climbed a_snow a_level f_begun f_minute f_avalanches a_run a_covers a_routes a_longest a_steep a_laid a_far f_sight a_runs f_choir f_voices a_rest a_wins f_seed a_other a_kept H → va_S (mA q) s.heap H locs → W p l e rm_m_mutes s m args below meth c H locs 0 0 (MQ below (zQi (S := (Int32) × (Int32) × (Int32) × (Int32) × (Nat → Int32)) (fun r u => post r u.1 u.2.1 u.2.2.1 u.2.2.2.1 u.2.2.2.2) (fun u H => mW E q u.1 a_tape a_size a_fault a_faultPlace a_many a_lands a_evenings a_sights a_choirs f_reached f_length f_begins f_sort f_value f_word f_wrongAt f_laterFault f_laterPlace a_told a_read f_farHut f_farSinger f_good u.2.1 u.2.2.1 u.2.2.2.1 f_evening a_at a_knows a_climbed a_snow a_level f_begun f_minute f_avalanches u.2.2.2.2 a_covers a_routes a_longest a_steep a_laid a_far f_sight a_runs f_choir f_voices a_rest a_wins f_seed a_other a_kept H) (mA q)) args s 0 0 (mA q)) (F0 m 79 ls []))
    (hl : lv_has ls 8 [(0, .ref q), (2, .int x2), (5, .int x5), (6, .int x6), (7, .int x7)])
    (hw : q_m_mutes_130 P79 f_code a_many a_lands f_land f_huts f_singers a_run x2 x5 x6 x7 y0 post) :
    W p l e rm_m_mutes s m args below meth c H locs 0 0 (MQ below (zQi (S := (Int32) × (Int32) × (Int32) × (Int32) × (Nat → Int32)) (fun r u => post r u.1 u.2.1 u.2.2.1 u.2.2.2.1 u.2.2.2.2) (fun u H => mW E q u.1 a_tape a_size a_fault a_faultPlace a_many a_lands a_evenings a_sights a_choirs f_reached f_length f_begins f_sort f_value f_word f_wrongAt f_laterFault f_laterPlace a_told a_read f_farHut f_farSinger f_good u.2.1 u.2.2.1 u.2.2.2.1 f_evening a_at a_knows a_climbed a_snow a_level f_begun f_minute f_avalanches u.2.2.2.2 a_covers a_routes a_longest a_steep a_laid a_far f_sight a_runs f_choir f_voices a_rest a_wins f_seed a_other a_kept H) (mA q)) args s 0 0 (mA q)) (F0 m 130 ls [.int y0]) := by
  have hx := zc.1
  have hb := zc.2.1
  refine lv_istore (lv' := [(4, .int y0), (0, .ref q), (2, .int x2), (5, .int x5), (6, .int x6), (7, .int x7)]) hx hb dX11_mutes_130 hl (by decide) rfl (fun ls hl => ?_)
  refine lv_iload hx hb dX11_mutes_132 (lv_at hl 3 rfl) ?_
  refine lv_iload hx hb dX11_mutes_134 (lv_at hl 5 rfl) ?_
  refine zS_i [.int x5, .int x7] [] zc ky_X11_greater kz_X11_greater km_11_171 (c_m_greater l hw) (zPre0 _) rfl rfl hl.1 (Nat.le_of_ble_eq_true rfl) ⟨rfl, rfl⟩ ⟨Nat.le_of_ble_eq_true rfl, Nat.le_of_ble_eq_true rfl⟩ ⟨(Nat.zero_le _), (Nat.zero_le _)⟩ dX11_mutes_136 (fun r_1 hw => ?_)
  refine lv_istore (lv' := [(5, .int r_1), (4, .int y0), (0, .ref q), (2, .int x2), (6, .int x6), (7, .int x7)]) hx hb dX11_mutes_139 hl (by decide) rfl (fun ls hl => ?_)
  obtain ⟨v_1, ev_1⟩ : ∃ y : Int32, y = x6 + (1 : Int32) := ⟨_, rfl⟩
  have hw := hw v_1 ev_1
  refine lv_iinc (v := v_1) (k := 4) (lv' := [(6, .int v_1), (5, .int r_1), (4, .int y0), (0, .ref q), (2, .int x2), (7, .int x7)]) hx hb dX11_mutes_141 hl rfl (by rw [ev_1]; rfl) (by decide) rfl (fun ls hl => ?_)
  refine lv_goto (tgt := 79) hx hb dX11_mutes_144 (by decide) ?_
  exact hP79 _ _ _ _ _ _ _ hw (lv_sub hl [3, 4, 2, 1, 0] rfl) hM hS
set_option maxRecDepth 20000 in
theorem t_m_mutes_114 {p : Program} {l : Launch} {e : Env} {s : State} {m : MethodId} {args : Array Value} {below : List Frame} {meth : Method} {c : Code} {E : zE} {q : Nat} {f_code : Int32} {a_tape : Nat → Int32} {a_size : Nat → Int32} {a_fault : Nat → Int32} {a_faultPlace : Nat → Int32} {a_many : Nat → Int32} {a_lands : Nat → Int32} {a_evenings : Nat → Int32} {a_sights : Nat → Int32} {a_choirs : Nat → Int32} {f_reached : Int32} {f_length : Int32} {f_begins : Int32} {f_sort : Int32} {f_value : Int32} {f_word : Int64} {f_wrongAt : Int32} {f_laterFault : Int32} {f_laterPlace : Int32} {a_told : Nat → Int32} {a_read : Nat → Int32} {f_farHut : Int32} {f_farSinger : Int32} {f_good : Int32} {f_land : Int32} {f_huts : Int32} {f_singers : Int32} {f_evening : Int32} {a_at : Nat → Int32} {a_knows : Nat → Int32} {a_climbed : Nat → Int32} {a_snow : Nat → Int32} {a_level : Nat → Int32} {f_begun : Int32} {f_minute : Int32} {f_avalanches : Int32} {a_run : Nat → Int32} {a_covers : Nat → Int32} {a_routes : Nat → Int32} {a_longest : Nat → Int32} {a_steep : Nat → Int32} {a_laid : Nat → Int32} {a_far : Nat → Int32} {f_sight : Int32} {a_runs : Nat → Int32} {f_choir : Int32} {f_voices : Int32} {a_rest : Nat → Int64} {a_wins : Nat → Int32} {f_seed : Int32} {a_other : Nat → Int32} {a_kept : Nat → Int32} {P79 : Int32 → Int32 → Int32 → (Nat → Int32) → Prop} {post : Int32 → (Int32) → (Int32) → (Int32) → (Int32) → (Nat → Int32) → Prop} {x2 : Int32} {x4 : Int32} {x5 : Int32} {x6 : Int32} {y0 : Int32} {ls : Array Slot} {H : Heap} {locs : List Loc}
    (zc : zC p s m args meth c cX11_mutes 8 RX11 (some .int))
    (hK : zK E s)
    (hM : mW E q f_code a_tape a_size a_fault a_faultPlace a_many a_lands a_evenings a_sights a_choirs f_reached f_length f_begins f_sort f_value f_word f_wrongAt f_laterFault f_laterPlace a_told a_read f_farHut f_farSinger f_good f_land f_huts f_singers f_evening a_at a_knows a_climbed a_snow a_level f_begun f_minute f_avalanches a_run a_covers a_routes a_longest a_steep a_laid a_far f_sight a_runs f_choir f_voices a_rest a_wins f_seed a_other a_kept H)
    (hS : va_S (mA q) s.heap H locs)
    (hP79 : ∀ (x4 : Int32) (x5 : Int32) (x6 : Int32) (a_run : Nat → Int32) (H : Heap) (locs : List Loc) (ls : Array Slot), P79 x4 x5 x6 a_run → lv_has ls 8 [(0, .ref q), (2, .int x2), (4, .int x4), (5, .int x5), (6, .int x6)] → mW E q f_code a_tape a_size a_fault a_faultPlace a_many a_lands a_evenings a_sights a_choirs f_reached f_length f_begins f_sort f_value f_word f_wrongAt f_laterFault f_laterPlace a_told a_read f_farHut f_farSinger f_good f_land f_huts f_singers f_evening a_at a_knows a_climbed a_snow a_level f_begun f_minute f_avalanches a_run a_covers a_routes a_longest a_steep a_laid a_far f_sight a_runs f_choir f_voices a_rest a_wins f_seed a_other a_kept H → va_S (mA q) s.heap H locs → W p l e rm_m_mutes s m args below meth c H locs 0 0 (MQ below (zQi (S := (Int32) × (Int32) × (Int32) × (Int32) × (Nat → Int32)) (fun r u => post r u.1 u.2.1 u.2.2.1 u.2.2.2.1 u.2.2.2.2) (fun u H => mW E q u.1 a_tape a_size a_fault a_faultPlace a_many a_lands a_evenings a_sights a_choirs f_reached f_length f_begins f_sort f_value f_word f_wrongAt f_laterFault f_laterPlace a_told a_read f_farHut f_farSinger f_good u.2.1 u.2.2.1 u.2.2.2.1 f_evening a_at a_knows a_climbed a_snow a_level f_begun f_minute f_avalanches u.2.2.2.2 a_covers a_routes a_longest a_steep a_laid a_far f_sight a_runs f_choir f_voices a_rest a_wins f_seed a_other a_kept H) (mA q)) args s 0 0 (mA q)) (F0 m 79 ls []))
    (hl : lv_has ls 8 [(0, .ref q), (2, .int x2), (4, .int x4), (5, .int x5), (6, .int x6)])
    (hw : q_m_mutes_114 P79 f_code a_many a_lands f_land f_huts f_singers a_run x2 x4 x5 x6 y0 post) :
    W p l e rm_m_mutes s m args below meth c H locs 0 0 (MQ below (zQi (S := (Int32) × (Int32) × (Int32) × (Int32) × (Nat → Int32)) (fun r u => post r u.1 u.2.1 u.2.2.1 u.2.2.2.1 u.2.2.2.2) (fun u H => mW E q u.1 a_tape a_size a_fault a_faultPlace a_many a_lands a_evenings a_sights a_choirs f_reached f_length f_begins f_sort f_value f_word f_wrongAt f_laterFault f_laterPlace a_told a_read f_farHut f_farSinger f_good u.2.1 u.2.2.1 u.2.2.2.1 f_evening a_at a_knows a_climbed a_snow a_level f_begun f_minute f_avalanches u.2.2.2.2 a_covers a_routes a_longest a_steep a_laid a_far f_sight a_runs f_choir f_voices a_rest a_wins f_seed a_other a_kept H) (mA q)) args s 0 0 (mA q)) (F0 m 114 ls [.int y0]) := by
  have hx := zc.1
  have hb := zc.2.1
  refine lv_istore (lv' := [(7, .int y0), (0, .ref q), (2, .int x2), (4, .int x4), (5, .int x5), (6, .int x6)]) hx hb dX11_mutes_114 hl (by decide) rfl (fun ls hl => ?_)
  refine lv_iload hx hb dX11_mutes_116 (lv_at hl 0 rfl) ?_
  refine lv_iload hx hb dX11_mutes_118 (lv_at hl 4 rfl) ?_
  refine lv_icmp_le (tgt := 128) hx hb dX11_mutes_120 (by decide) (fun hc => ?_) (fun hc => ?_)
  · have hw := hw.1 hc
    refine lv_iload hx hb dX11_mutes_128 (lv_at hl 3 rfl) ?_
    exact t_m_mutes_130 zc hK hM hS hP79 (lv_sub hl [1, 2, 4, 5, 0] rfl) hw
  · have hw := hw.2 hc
    refine lv_iload hx hb dX11_mutes_123 (lv_at hl 5 rfl) ?_
    refine lv_goto (tgt := 130) hx hb dX11_mutes_125 (by decide) ?_
    exact t_m_mutes_130 zc hK hM hS hP79 (lv_sub hl [1, 2, 4, 5, 0] rfl) hw
set_option maxRecDepth 20000 in
theorem t_m_mutes_103 {p : Program} {l : Launch} {e : Env} {s : State} {m : MethodId} {args : Array Value} {below : List Frame} {meth : Method} {c : Code} {E : zE} {q : Nat} {f_code : Int32} {a_tape : Nat → Int32} {a_size : Nat → Int32} {a_fault : Nat → Int32} {a_faultPlace : Nat → Int32} {a_many : Nat → Int32} {a_lands : Nat → Int32} {a_evenings : Nat → Int32} {a_sights : Nat → Int32} {a_choirs : Nat → Int32} {f_reached : Int32} {f_length : Int32} {f_begins : Int32} {f_sort : Int32} {f_value : Int32} {f_word : Int64} {f_wrongAt : Int32} {f_laterFault : Int32} {f_laterPlace : Int32} {a_told : Nat → Int32} {a_read : Nat → Int32} {f_farHut : Int32} {f_farSinger : Int32} {f_good : Int32} {f_land : Int32} {f_huts : Int32} {f_singers : Int32} {f_evening : Int32} {a_at : Nat → Int32} {a_knows : Nat → Int32} {a_climbed : Nat → Int32} {a_snow : Nat → Int32} {a_level : Nat → Int32} {f_begun : Int32} {f_minute : Int32} {f_avalanches : Int32} {a_run : Nat → Int32} {a_covers : Nat → Int32} {a_routes : Nat → Int32} {a_longest : Nat → Int32} {a_steep : Nat → Int32} {a_laid : Nat → Int32} {a_far : Nat → Int32} {f_sight : Int32} {a_runs : Nat → Int32} {f_choir : Int32} {f_voices : Int32} {a_rest : Nat → Int64} {a_wins : Nat → Int32} {f_seed : Int32} {a_other : Nat → Int32} {a_kept : Nat → Int32} {P79 : Int32 → Int32 → Int32 → (Nat → Int32) → Prop} {post : Int32 → (Int32) → (Int32) → (Int32) → (Int32) → (Nat → Int32) → Prop} {x2 : Int32} {x4 : Int32} {x5 : Int32} {x6 : Int32} {ls : Array Slot} {H : Heap} {locs : List Loc}
    (zc : zC p s m args meth c cX11_mutes 8 RX11 (some .int))
    (hK : zK E s)
    (hM : mW E q f_code a_tape a_size a_fault a_faultPlace a_many a_lands a_evenings a_sights a_choirs f_reached f_length f_begins f_sort f_value f_word f_wrongAt f_laterFault f_laterPlace a_told a_read f_farHut f_farSinger f_good f_land f_huts f_singers f_evening a_at a_knows a_climbed a_snow a_level f_begun f_minute f_avalanches a_run a_covers a_routes a_longest a_steep a_laid a_far f_sight a_runs f_choir f_voices a_rest a_wins f_seed a_other a_kept H)
    (hS : va_S (mA q) s.heap H locs)
    (hP79 : ∀ (x4 : Int32) (x5 : Int32) (x6 : Int32) (a_run : Nat → Int32) (H : Heap) (locs : List Loc) (ls : Array Slot), P79 x4 x5 x6 a_run → lv_has ls 8 [(0, .ref q), (2, .int x2), (4, .int x4), (5, .int x5), (6, .int x6)] → mW E q f_code a_tape a_size a_fault a_faultPlace a_many a_lands a_evenings a_sights a_choirs f_reached f_length f_begins f_sort f_value f_word f_wrongAt f_laterFault f_laterPlace a_told a_read f_farHut f_farSinger f_good f_land f_huts f_singers f_evening a_at a_knows a_climbed a_snow a_level f_begun f_minute f_avalanches a_run a_covers a_routes a_longest a_steep a_laid a_far f_sight a_runs f_choir f_voices a_rest a_wins f_seed a_other a_kept H → va_S (mA q) s.heap H locs → W p l e rm_m_mutes s m args below meth c H locs 0 0 (MQ below (zQi (S := (Int32) × (Int32) × (Int32) × (Int32) × (Nat → Int32)) (fun r u => post r u.1 u.2.1 u.2.2.1 u.2.2.2.1 u.2.2.2.2) (fun u H => mW E q u.1 a_tape a_size a_fault a_faultPlace a_many a_lands a_evenings a_sights a_choirs f_reached f_length f_begins f_sort f_value f_word f_wrongAt f_laterFault f_laterPlace a_told a_read f_farHut f_farSinger f_good u.2.1 u.2.2.1 u.2.2.2.1 f_evening a_at a_knows a_climbed a_snow a_level f_begun f_minute f_avalanches u.2.2.2.2 a_covers a_routes a_longest a_steep a_laid a_far f_sight a_runs f_choir f_voices a_rest a_wins f_seed a_other a_kept H) (mA q)) args s 0 0 (mA q)) (F0 m 79 ls []))
    (hl : lv_has ls 8 [(0, .ref q), (2, .int x2), (4, .int x4), (5, .int x5), (6, .int x6)])
    (hw : q_m_mutes_103 P79 f_code a_many a_lands f_land f_huts f_singers a_run x2 x4 x5 x6 post) :
    W p l e rm_m_mutes s m args below meth c H locs 0 0 (MQ below (zQi (S := (Int32) × (Int32) × (Int32) × (Int32) × (Nat → Int32)) (fun r u => post r u.1 u.2.1 u.2.2.1 u.2.2.2.1 u.2.2.2.2) (fun u H => mW E q u.1 a_tape a_size a_fault a_faultPlace a_many a_lands a_evenings a_sights a_choirs f_reached f_length f_begins f_sort f_value f_word f_wrongAt f_laterFault f_laterPlace a_told a_read f_farHut f_farSinger f_good u.2.1 u.2.2.1 u.2.2.2.1 f_evening a_at a_knows a_climbed a_snow a_level f_begun f_minute f_avalanches u.2.2.2.2 a_covers a_routes a_longest a_steep a_laid a_far f_sight a_runs f_choir f_voices a_rest a_wins f_seed a_other a_kept H) (mA q)) args s 0 0 (mA q)) (F0 m 103 ls []) := by
  have hx := zc.1
  have hb := zc.2.1
  refine lv_iconst (v := (-1 : Int32)) hx hb dX11_mutes_103 (by decide) ?_
  refine lv_goto (tgt := 114) hx hb dX11_mutes_104 (by decide) ?_
  exact t_m_mutes_114 zc hK hM hS hP79 (lv_sub hl [0, 1, 2, 3, 4] rfl) hw
set_option maxRecDepth 20000 in
theorem t_m_mutes_79 {p : Program} {l : Launch} {e : Env} {s : State} {m : MethodId} {args : Array Value} {below : List Frame} {meth : Method} {c : Code} {E : zE} {q : Nat} {f_code : Int32} {a_tape : Nat → Int32} {a_size : Nat → Int32} {a_fault : Nat → Int32} {a_faultPlace : Nat → Int32} {a_many : Nat → Int32} {a_lands : Nat → Int32} {a_evenings : Nat → Int32} {a_sights : Nat → Int32} {a_choirs : Nat → Int32} {f_reached : Int32} {f_length : Int32} {f_begins : Int32} {f_sort : Int32} {f_value : Int32} {f_word : Int64} {f_wrongAt : Int32} {f_laterFault : Int32} {f_laterPlace : Int32} {a_told : Nat → Int32} {a_read : Nat → Int32} {f_farHut : Int32} {f_farSinger : Int32} {f_good : Int32} {f_land : Int32} {f_huts : Int32} {f_singers : Int32} {f_evening : Int32} {a_at : Nat → Int32} {a_knows : Nat → Int32} {a_climbed : Nat → Int32} {a_snow : Nat → Int32} {a_level : Nat → Int32} {f_begun : Int32} {f_minute : Int32} {f_avalanches : Int32} {a_run : Nat → Int32} {a_covers : Nat → Int32} {a_routes : Nat → Int32} {a_longest : Nat → Int32} {a_steep : Nat → Int32} {a_laid : Nat → Int32} {a_far : Nat → Int32} {f_sight : Int32} {a_runs : Nat → Int32} {f_choir : Int32} {f_voices : Int32} {a_rest : Nat → Int64} {a_wins : Nat → Int32} {f_seed : Int32} {a_other : Nat → Int32} {a_kept : Nat → Int32} {post : Int32 → (Int32) → (Int32) → (Int32) → (Int32) → (Nat → Int32) → Prop} {x2 : Int32} {x4 : Int32} {x5 : Int32} {x6 : Int32} {ls : Array Slot} {H : Heap} {locs : List Loc}
    (zc : zC p s m args meth c cX11_mutes 8 RX11 (some .int))
    (hK : zK E s)
    (hM : mW E q f_code a_tape a_size a_fault a_faultPlace a_many a_lands a_evenings a_sights a_choirs f_reached f_length f_begins f_sort f_value f_word f_wrongAt f_laterFault f_laterPlace a_told a_read f_farHut f_farSinger f_good f_land f_huts f_singers f_evening a_at a_knows a_climbed a_snow a_level f_begun f_minute f_avalanches a_run a_covers a_routes a_longest a_steep a_laid a_far f_sight a_runs f_choir f_voices a_rest a_wins f_seed a_other a_kept H)
    (hS : va_S (mA q) s.heap H locs)
    (hl : lv_has ls 8 [(0, .ref q), (2, .int x2), (4, .int x4), (5, .int x5), (6, .int x6)])
    (hw : q_m_mutes_79 f_code a_many a_lands f_land f_huts f_singers a_run x2 x4 x5 x6 post) :
    W p l e rm_m_mutes s m args below meth c H locs 0 0 (MQ below (zQi (S := (Int32) × (Int32) × (Int32) × (Int32) × (Nat → Int32)) (fun r u => post r u.1 u.2.1 u.2.2.1 u.2.2.2.1 u.2.2.2.2) (fun u H => mW E q u.1 a_tape a_size a_fault a_faultPlace a_many a_lands a_evenings a_sights a_choirs f_reached f_length f_begins f_sort f_value f_word f_wrongAt f_laterFault f_laterPlace a_told a_read f_farHut f_farSinger f_good u.2.1 u.2.2.1 u.2.2.2.1 f_evening a_at a_knows a_climbed a_snow a_level f_begun f_minute f_avalanches u.2.2.2.2 a_covers a_routes a_longest a_steep a_laid a_far f_sight a_runs f_choir f_voices a_rest a_wins f_seed a_other a_kept H) (mA q)) args s 0 0 (mA q)) (F0 m 79 ls []) := by
  have hx := zc.1
  have hb := zc.2.1
  refine hw (fun x4 x5 x6 a_run => ∀ (H : Heap) (locs : List Loc) (ls : Array Slot), lv_has ls 8 [(0, .ref q), (2, .int x2), (4, .int x4), (5, .int x5), (6, .int x6)] → mW E q f_code a_tape a_size a_fault a_faultPlace a_many a_lands a_evenings a_sights a_choirs f_reached f_length f_begins f_sort f_value f_word f_wrongAt f_laterFault f_laterPlace a_told a_read f_farHut f_farSinger f_good f_land f_huts f_singers f_evening a_at a_knows a_climbed a_snow a_level f_begun f_minute f_avalanches a_run a_covers a_routes a_longest a_steep a_laid a_far f_sight a_runs f_choir f_voices a_rest a_wins f_seed a_other a_kept H → va_S (mA q) s.heap H locs → W p l e rm_m_mutes s m args below meth c H locs 0 0 (MQ below (zQi (S := (Int32) × (Int32) × (Int32) × (Int32) × (Nat → Int32)) (fun r u => post r u.1 u.2.1 u.2.2.1 u.2.2.2.1 u.2.2.2.2) (fun u H => mW E q u.1 a_tape a_size a_fault a_faultPlace a_many a_lands a_evenings a_sights a_choirs f_reached f_length f_begins f_sort f_value f_word f_wrongAt f_laterFault f_laterPlace a_told a_read f_farHut f_farSinger f_good u.2.1 u.2.2.1 u.2.2.2.1 f_evening a_at a_knows a_climbed a_snow a_level f_begun f_minute f_avalanches u.2.2.2.2 a_covers a_routes a_longest a_steep a_laid a_far f_sight a_runs f_choir f_voices a_rest a_wins f_seed a_other a_kept H) (mA q)) args s 0 0 (mA q)) (F0 m 79 ls [])) ?_ _ _ _ hl hM hS
  intro x4 x5 x6 a_run hw H locs ls hl hM hS
  refine lv_iload hx hb dX11_mutes_79 (lv_at hl 4 rfl) ?_
  refine lv_aload_n hx hb dX11_mutes_81 rfl (lv_at hl 0 rfl) ?_
  refine mg_11_307_0 zc hK hM dX11_mutes_82 ?_
  refine lv_icmp_ge (tgt := 147) hx hb dX11_mutes_85 (by decide) (fun hc => ?_) (fun hc => ?_)
  · have hw := hw.1 hc
    refine lv_iload hx hb dX11_mutes_147 (lv_at hl 2 rfl) ?_
    exact zret_iw ⟨f_code, f_land, f_huts, f_singers, a_run⟩ zc hS hw hM dX11_mutes_149
  · have hw := hw.2 hc
    refine lv_iload hx hb dX11_mutes_88 (lv_at hl 4 rfl) ?_
    refine lv_iload_n hx hb dX11_mutes_90 rfl (lv_at hl 1 rfl) ?_
    refine lv_icmp_eq (tgt := 103) hx hb dX11_mutes_91 (by decide) (fun hc => ?_) (fun hc => ?_)
    · have hw := hw.1 hc
      exact t_m_mutes_103 zc hK hM hS (fun _ _ _ _ H locs ls h hl hM hS => h H locs ls hl hM hS) (lv_sub hl [0, 1, 2, 3, 4] rfl) hw
    · have hw := hw.2 hc
      refine lv_aload_n hx hb dX11_mutes_94 rfl (lv_at hl 0 rfl) ?_
      refine lv_iload hx hb dX11_mutes_95 (lv_at hl 4 rfl) ?_
      refine zV_i [.int x6] [] zc ky_X11_isDam kz_X11_isDam km_11_355 (c_m_isDam l hw) (mPreV0 hK hM) rfl rfl hl.1 (Nat.le_of_ble_eq_true rfl) ⟨rfl, rfl⟩ ⟨Nat.le_of_ble_eq_true rfl, Nat.le_of_ble_eq_true rfl⟩ ⟨(Nat.zero_le _), (Nat.zero_le _)⟩ dX11_mutes_97 (fun r_1 hw => ?_)
      refine lv_if_eq (tgt := 107) hx hb dX11_mutes_100 (by decide) (fun hc => ?_) (fun hc => ?_)
      · have hw := hw.1 hc
        refine lv_aload_n hx hb dX11_mutes_107 rfl (lv_at hl 0 rfl) ?_
        refine lv_iload_n hx hb dX11_mutes_108 rfl (lv_at hl 1 rfl) ?_
        refine lv_iload hx hb dX11_mutes_109 (lv_at hl 4 rfl) ?_
        refine zVw_i [.int x2, .int x6] [] zc ky_X11_mutesOf kz_X11_mutesOf km_11_451 (c_m_mutesOf l hw) (mPreV0 hK hM) hS rfl rfl hl.1 (Nat.le_of_ble_eq_true rfl) ⟨rfl, rfl⟩ ⟨Nat.le_of_ble_eq_true rfl, Nat.le_of_ble_eq_true rfl⟩ ⟨(Nat.zero_le _), (Nat.zero_le _)⟩ dX11_mutes_111 (fun r_2 a_run_1 H locs hw hM hS => ?_)
        exact t_m_mutes_114 zc hK hM hS (fun _ _ _ _ H locs ls h hl hM hS => h H locs ls hl hM hS) (lv_sub hl [0, 1, 2, 3, 4] rfl) hw
      · have hw := hw.2 hc
        exact t_m_mutes_103 zc hK hM hS (fun _ _ _ _ H locs ls h hl hM hS => h H locs ls hl hM hS) (lv_sub hl [0, 1, 2, 3, 4] rfl) hw
set_option maxRecDepth 20000 in
theorem t_m_mutes_58 {p : Program} {l : Launch} {e : Env} {s : State} {m : MethodId} {args : Array Value} {below : List Frame} {meth : Method} {c : Code} {E : zE} {q : Nat} {f_code : Int32} {a_tape : Nat → Int32} {a_size : Nat → Int32} {a_fault : Nat → Int32} {a_faultPlace : Nat → Int32} {a_many : Nat → Int32} {a_lands : Nat → Int32} {a_evenings : Nat → Int32} {a_sights : Nat → Int32} {a_choirs : Nat → Int32} {f_reached : Int32} {f_length : Int32} {f_begins : Int32} {f_sort : Int32} {f_value : Int32} {f_word : Int64} {f_wrongAt : Int32} {f_laterFault : Int32} {f_laterPlace : Int32} {a_told : Nat → Int32} {a_read : Nat → Int32} {f_farHut : Int32} {f_farSinger : Int32} {f_good : Int32} {f_land : Int32} {f_huts : Int32} {f_singers : Int32} {f_evening : Int32} {a_at : Nat → Int32} {a_knows : Nat → Int32} {a_climbed : Nat → Int32} {a_snow : Nat → Int32} {a_level : Nat → Int32} {f_begun : Int32} {f_minute : Int32} {f_avalanches : Int32} {a_run : Nat → Int32} {a_covers : Nat → Int32} {a_routes : Nat → Int32} {a_longest : Nat → Int32} {a_steep : Nat → Int32} {a_laid : Nat → Int32} {a_far : Nat → Int32} {f_sight : Int32} {a_runs : Nat → Int32} {f_choir : Int32} {f_voices : Int32} {a_rest : Nat → Int64} {a_wins : Nat → Int32} {f_seed : Int32} {a_other : Nat → Int32} {a_kept : Nat → Int32} {post : Int32 → (Int32) → (Int32) → (Int32) → (Int32) → (Nat → Int32) → Prop} {x2 : Int32} {x3 : Int32} {ls : Array Slot} {H : Heap} {locs : List Loc}
    (zc : zC p s m args meth c cX11_mutes 8 RX11 (some .int))
    (hK : zK E s)
    (hM : mW E q f_code a_tape a_size a_fault a_faultPlace a_many a_lands a_evenings a_sights a_choirs f_reached f_length f_begins f_sort f_value f_word f_wrongAt f_laterFault f_laterPlace a_told a_read f_farHut f_farSinger f_good f_land f_huts f_singers f_evening a_at a_knows a_climbed a_snow a_level f_begun f_minute f_avalanches a_run a_covers a_routes a_longest a_steep a_laid a_far f_sight a_runs f_choir f_voices a_rest a_wins f_seed a_other a_kept H)
    (hS : va_S (mA q) s.heap H locs)
    (hl : lv_has ls 8 [(0, .ref q), (2, .int x2), (3, .int x3)])
    (hw : q_m_mutes_58 f_code a_many a_lands f_land f_huts f_singers a_run x2 x3 post) :
    W p l e rm_m_mutes s m args below meth c H locs 0 0 (MQ below (zQi (S := (Int32) × (Int32) × (Int32) × (Int32) × (Nat → Int32)) (fun r u => post r u.1 u.2.1 u.2.2.1 u.2.2.2.1 u.2.2.2.2) (fun u H => mW E q u.1 a_tape a_size a_fault a_faultPlace a_many a_lands a_evenings a_sights a_choirs f_reached f_length f_begins f_sort f_value f_word f_wrongAt f_laterFault f_laterPlace a_told a_read f_farHut f_farSinger f_good u.2.1 u.2.2.1 u.2.2.2.1 f_evening a_at a_knows a_climbed a_snow a_level f_begun f_minute f_avalanches u.2.2.2.2 a_covers a_routes a_longest a_steep a_laid a_far f_sight a_runs f_choir f_voices a_rest a_wins f_seed a_other a_kept H) (mA q)) args s 0 0 (mA q)) (F0 m 58 ls []) := by
  have hx := zc.1
  have hb := zc.2.1
  refine lv_iload_n hx hb dX11_mutes_58 rfl (lv_at hl 2 rfl) ?_
  refine lv_iconst (v := (-1 : Int32)) hx hb dX11_mutes_59 (by decide) ?_
  refine lv_icmp_eq (tgt := 70) hx hb dX11_mutes_60 (by decide) (fun hc => ?_) (fun hc => ?_)
  · have hw := hw.1 hc
    refine lv_iconst (v := (-1 : Int32)) hx hb dX11_mutes_70 (by decide) ?_
    refine lv_istore (lv' := [(4, .int (-1 : Int32)), (0, .ref q), (2, .int x2), (3, .int x3)]) hx hb dX11_mutes_71 hl (by decide) rfl (fun ls hl => ?_)
    refine lv_iconst (v := (-1 : Int32)) hx hb dX11_mutes_73 (by decide) ?_
    refine lv_istore (lv' := [(5, .int (-1 : Int32)), (4, .int (-1 : Int32)), (0, .ref q), (2, .int x2), (3, .int x3)]) hx hb dX11_mutes_74 hl (by decide) rfl (fun ls hl => ?_)
    refine lv_iconst (v := (0 : Int32)) hx hb dX11_mutes_76 (by decide) ?_
    refine lv_istore (lv' := [(6, .int (0 : Int32)), (5, .int (-1 : Int32)), (4, .int (-1 : Int32)), (0, .ref q), (2, .int x2), (3, .int x3)]) hx hb dX11_mutes_77 hl (by decide) rfl (fun ls hl => ?_)
    exact t_m_mutes_79 zc hK hM hS  (lv_sub hl [3, 4, 2, 1, 0] rfl) hw
  · have hw := hw.2 hc
    refine lv_aload_n hx hb dX11_mutes_63 rfl (lv_at hl 0 rfl) ?_
    refine lv_iload_n hx hb dX11_mutes_64 rfl (lv_at hl 1 rfl) ?_
    refine lv_iload_n hx hb dX11_mutes_65 rfl (lv_at hl 2 rfl) ?_
    refine zVw_i [.int x2, .int x3] [] zc ky_X11_mutesOf kz_X11_mutesOf km_11_451 (c_m_mutesOf l hw) (mPreV0 hK hM) hS rfl rfl hl.1 (Nat.le_of_ble_eq_true rfl) ⟨rfl, rfl⟩ ⟨Nat.le_of_ble_eq_true rfl, Nat.le_of_ble_eq_true rfl⟩ ⟨(Nat.zero_le _), (Nat.zero_le _)⟩ dX11_mutes_66 (fun r_1 a_run_1 H locs hw hM hS => ?_)
    exact zret_iw ⟨f_code, f_land, f_huts, f_singers, a_run_1⟩ zc hS hw hM dX11_mutes_69
set_option maxRecDepth 20000 in
theorem t_m_mutes_0 {p : Program} {l : Launch} {e : Env} {s : State} {m : MethodId} {args : Array Value} {below : List Frame} {meth : Method} {c : Code} {E : zE} {q : Nat} {f_code : Int32} {a_tape : Nat → Int32} {a_size : Nat → Int32} {a_fault : Nat → Int32} {a_faultPlace : Nat → Int32} {a_many : Nat → Int32} {a_lands : Nat → Int32} {a_evenings : Nat → Int32} {a_sights : Nat → Int32} {a_choirs : Nat → Int32} {f_reached : Int32} {f_length : Int32} {f_begins : Int32} {f_sort : Int32} {f_value : Int32} {f_word : Int64} {f_wrongAt : Int32} {f_laterFault : Int32} {f_laterPlace : Int32} {a_told : Nat → Int32} {a_read : Nat → Int32} {f_farHut : Int32} {f_farSinger : Int32} {f_good : Int32} {f_land : Int32} {f_huts : Int32} {f_singers : Int32} {f_evening : Int32} {a_at : Nat → Int32} {a_knows : Nat → Int32} {a_climbed : Nat → Int32} {a_snow : Nat → Int32} {a_level : Nat → Int32} {f_begun : Int32} {f_minute : Int32} {f_avalanches : Int32} {a_run : Nat → Int32} {a_covers : Nat → Int32} {a_routes : Nat → Int32} {a_longest : Nat → Int32} {a_steep : Nat → Int32} {a_laid : Nat → Int32} {a_far : Nat → Int32} {f_sight : Int32} {a_runs : Nat → Int32} {f_choir : Int32} {f_voices : Int32} {a_rest : Nat → Int64} {a_wins : Nat → Int32} {f_seed : Int32} {a_other : Nat → Int32} {a_kept : Nat → Int32} {post : Int32 → (Int32) → (Int32) → (Int32) → (Int32) → (Nat → Int32) → Prop} {x1 : Int32} {x2 : Int32} {x3 : Int32} {ls : Array Slot} {H : Heap} {locs : List Loc}
    (zc : zC p s m args meth c cX11_mutes 8 RX11 (some .int))
    (hK : zK E s)
    (hM : mW E q f_code a_tape a_size a_fault a_faultPlace a_many a_lands a_evenings a_sights a_choirs f_reached f_length f_begins f_sort f_value f_word f_wrongAt f_laterFault f_laterPlace a_told a_read f_farHut f_farSinger f_good f_land f_huts f_singers f_evening a_at a_knows a_climbed a_snow a_level f_begun f_minute f_avalanches a_run a_covers a_routes a_longest a_steep a_laid a_far f_sight a_runs f_choir f_voices a_rest a_wins f_seed a_other a_kept H)
    (hS : va_S (mA q) s.heap H locs)
    (hl : lv_has ls 8 [(0, .ref q), (1, .int x1), (2, .int x2), (3, .int x3)])
    (hw : q_m_mutes_0 f_code a_many a_lands f_land f_huts f_singers a_run x1 x2 x3 post) :
    W p l e rm_m_mutes s m args below meth c H locs 0 0 (MQ below (zQi (S := (Int32) × (Int32) × (Int32) × (Int32) × (Nat → Int32)) (fun r u => post r u.1 u.2.1 u.2.2.1 u.2.2.2.1 u.2.2.2.2) (fun u H => mW E q u.1 a_tape a_size a_fault a_faultPlace a_many a_lands a_evenings a_sights a_choirs f_reached f_length f_begins f_sort f_value f_word f_wrongAt f_laterFault f_laterPlace a_told a_read f_farHut f_farSinger f_good u.2.1 u.2.2.1 u.2.2.2.1 f_evening a_at a_knows a_climbed a_snow a_level f_begun f_minute f_avalanches u.2.2.2.2 a_covers a_routes a_longest a_steep a_laid a_far f_sight a_runs f_choir f_voices a_rest a_wins f_seed a_other a_kept H) (mA q)) args s 0 0 (mA q)) (F0 m 0 ls []) := by
  have hx := zc.1
  have hb := zc.2.1
  refine lv_aload_n hx hb dX11_mutes_0 rfl (lv_at hl 0 rfl) ?_
  refine lv_iconst (v := (0 : Int32)) hx hb dX11_mutes_1 (by decide) ?_
  refine mp_11_97_0 zc hK hM hS dX11_mutes_2 (fun H locs hM hS => ?_)
  refine lv_aload_n hx hb dX11_mutes_5 rfl (lv_at hl 0 rfl) ?_
  refine lv_iload_n hx hb dX11_mutes_6 rfl (lv_at hl 1 rfl) ?_
  refine zVw_i [.int x1] [] zc ky_X11_hand kz_X11_hand km_11_313 (c_m_hand l hw) (mPreV0 hK hM) hS rfl rfl hl.1 (Nat.le_of_ble_eq_true rfl) ⟨rfl, rfl⟩ ⟨Nat.le_of_ble_eq_true rfl, Nat.le_of_ble_eq_true rfl⟩ ⟨(Nat.zero_le _), (Nat.zero_le _)⟩ dX11_mutes_7 (fun r_1 u H locs hw hM hS => ?_)
  obtain ⟨f_land_1, f_huts_1, f_singers_1⟩ := u
  refine lv_if_eq (tgt := 55) hx hb dX11_mutes_10 (by decide) (fun hc => ?_) (fun hc => ?_)
  · have hw := hw.1 hc
    refine lv_bipush (v := (-2 : Int32)) hx hb dX11_mutes_55 (by decide) ?_
    exact zret_iw ⟨(0 : Int32), f_land_1, f_huts_1, f_singers_1, a_run⟩ zc hS hw hM dX11_mutes_57
  · have hw := hw.2 hc
    refine lv_aload_n hx hb dX11_mutes_13 rfl (lv_at hl 0 rfl) ?_
    refine lv_iload_n hx hb dX11_mutes_14 rfl (lv_at hl 2 rfl) ?_
    refine zV_i [.int x2] [] zc ky_X11_isHut kz_X11_isHut km_11_316 (c_m_isHut l hw) (mPreV0 hK hM) rfl rfl hl.1 (Nat.le_of_ble_eq_true rfl) ⟨rfl, rfl⟩ ⟨Nat.le_of_ble_eq_true rfl, Nat.le_of_ble_eq_true rfl⟩ ⟨(Nat.zero_le _), (Nat.zero_le _)⟩ dX11_mutes_15 (fun r_2 hw => ?_)
    refine lv_if_eq (tgt := 55) hx hb dX11_mutes_18 (by decide) (fun hc => ?_) (fun hc => ?_)
    · have hw := hw.1 hc
      refine lv_bipush (v := (-2 : Int32)) hx hb dX11_mutes_55 (by decide) ?_
      exact zret_iw ⟨(0 : Int32), f_land_1, f_huts_1, f_singers_1, a_run⟩ zc hS hw hM dX11_mutes_57
    · have hw := hw.2 hc
      refine lv_aload_n hx hb dX11_mutes_21 rfl (lv_at hl 0 rfl) ?_
      refine lv_iload_n hx hb dX11_mutes_22 rfl (lv_at hl 2 rfl) ?_
      refine zV_i [.int x2] [] zc ky_X11_isDam kz_X11_isDam km_11_355 (c_m_isDam l hw) (mPreV0 hK hM) rfl rfl hl.1 (Nat.le_of_ble_eq_true rfl) ⟨rfl, rfl⟩ ⟨Nat.le_of_ble_eq_true rfl, Nat.le_of_ble_eq_true rfl⟩ ⟨(Nat.zero_le _), (Nat.zero_le _)⟩ dX11_mutes_23 (fun r_3 hw => ?_)
      refine lv_if_ne (tgt := 55) hx hb dX11_mutes_26 (by decide) (fun hc => ?_) (fun hc => ?_)
      · have hw := hw.1 hc
        refine lv_bipush (v := (-2 : Int32)) hx hb dX11_mutes_55 (by decide) ?_
        exact zret_iw ⟨(0 : Int32), f_land_1, f_huts_1, f_singers_1, a_run⟩ zc hS hw hM dX11_mutes_57
      · have hw := hw.2 hc
        refine lv_iload_n hx hb dX11_mutes_29 rfl (lv_at hl 3 rfl) ?_
        refine lv_iconst (v := (-1 : Int32)) hx hb dX11_mutes_30 (by decide) ?_
        refine lv_icmp_eq (tgt := 58) hx hb dX11_mutes_31 (by decide) (fun hc => ?_) (fun hc => ?_)
        · have hw := hw.1 hc
          exact t_m_mutes_58 zc hK hM hS  (lv_sub hl [0, 2, 3] rfl) hw
        · have hw := hw.2 hc
          refine lv_aload_n hx hb dX11_mutes_34 rfl (lv_at hl 0 rfl) ?_
          refine lv_iload_n hx hb dX11_mutes_35 rfl (lv_at hl 3 rfl) ?_
          refine zV_i [.int x3] [] zc ky_X11_isHut kz_X11_isHut km_11_316 (c_m_isHut l hw) (mPreV0 hK hM) rfl rfl hl.1 (Nat.le_of_ble_eq_true rfl) ⟨rfl, rfl⟩ ⟨Nat.le_of_ble_eq_true rfl, Nat.le_of_ble_eq_true rfl⟩ ⟨(Nat.zero_le _), (Nat.zero_le _)⟩ dX11_mutes_36 (fun r_4 hw => ?_)
          refine lv_if_eq (tgt := 55) hx hb dX11_mutes_39 (by decide) (fun hc => ?_) (fun hc => ?_)
          · have hw := hw.1 hc
            refine lv_bipush (v := (-2 : Int32)) hx hb dX11_mutes_55 (by decide) ?_
            exact zret_iw ⟨(0 : Int32), f_land_1, f_huts_1, f_singers_1, a_run⟩ zc hS hw hM dX11_mutes_57
          · have hw := hw.2 hc
            refine lv_aload_n hx hb dX11_mutes_42 rfl (lv_at hl 0 rfl) ?_
            refine lv_iload_n hx hb dX11_mutes_43 rfl (lv_at hl 3 rfl) ?_
            refine zV_i [.int x3] [] zc ky_X11_isDam kz_X11_isDam km_11_355 (c_m_isDam l hw) (mPreV0 hK hM) rfl rfl hl.1 (Nat.le_of_ble_eq_true rfl) ⟨rfl, rfl⟩ ⟨Nat.le_of_ble_eq_true rfl, Nat.le_of_ble_eq_true rfl⟩ ⟨(Nat.zero_le _), (Nat.zero_le _)⟩ dX11_mutes_44 (fun r_5 hw => ?_)
            refine lv_if_ne (tgt := 55) hx hb dX11_mutes_47 (by decide) (fun hc => ?_) (fun hc => ?_)
            · have hw := hw.1 hc
              refine lv_bipush (v := (-2 : Int32)) hx hb dX11_mutes_55 (by decide) ?_
              exact zret_iw ⟨(0 : Int32), f_land_1, f_huts_1, f_singers_1, a_run⟩ zc hS hw hM dX11_mutes_57
            · have hw := hw.2 hc
              refine lv_iload_n hx hb dX11_mutes_50 rfl (lv_at hl 3 rfl) ?_
              refine lv_iload_n hx hb dX11_mutes_51 rfl (lv_at hl 2 rfl) ?_
              refine lv_icmp_ne (tgt := 58) hx hb dX11_mutes_52 (by decide) (fun hc => ?_) (fun hc => ?_)
              · have hw := hw.1 hc
                exact t_m_mutes_58 zc hK hM hS  (lv_sub hl [0, 2, 3] rfl) hw
              · have hw := hw.2 hc
                refine lv_bipush (v := (-2 : Int32)) hx hb dX11_mutes_55 (by decide) ?_
                exact zret_iw ⟨(0 : Int32), f_land_1, f_huts_1, f_singers_1, a_run⟩ zc hS hw hM dX11_mutes_57
set_option maxRecDepth 20000 in
theorem c_m_mutes (l : Launch) {E : zE} {q : Nat} {f_code : Int32} {a_tape : Nat → Int32} {a_size : Nat → Int32} {a_fault : Nat → Int32} {a_faultPlace : Nat → Int32} {a_many : Nat → Int32} {a_lands : Nat → Int32} {a_evenings : Nat → Int32} {a_sights : Nat → Int32} {a_choirs : Nat → Int32} {f_reached : Int32} {f_length : Int32} {f_begins : Int32} {f_sort : Int32} {f_value : Int32} {f_word : Int64} {f_wrongAt : Int32} {f_laterFault : Int32} {f_laterPlace : Int32} {a_told : Nat → Int32} {a_read : Nat → Int32} {f_farHut : Int32} {f_farSinger : Int32} {f_good : Int32} {f_land : Int32} {f_huts : Int32} {f_singers : Int32} {f_evening : Int32} {a_at : Nat → Int32} {a_knows : Nat → Int32} {a_climbed : Nat → Int32} {a_snow : Nat → Int32} {a_level : Nat → Int32} {f_begun : Int32} {f_minute : Int32} {f_avalanches : Int32} {a_run : Nat → Int32} {a_covers : Nat → Int32} {a_routes : Nat → Int32} {a_longest : Nat → Int32} {a_steep : Nat → Int32} {a_laid : Nat → Int32} {a_far : Nat → Int32} {f_sight : Int32} {a_runs : Nat → Int32} {f_choir : Int32} {f_voices : Int32} {a_rest : Nat → Int64} {a_wins : Nat → Int32} {f_seed : Int32} {a_other : Nat → Int32} {a_kept : Nat → Int32} {x1 : Int32} {x2 : Int32} {x3 : Int32} {post : Int32 → (Int32) → (Int32) → (Int32) → (Int32) → (Nat → Int32) → Prop} (hw : q_m_mutes_0 f_code a_many a_lands f_land f_huts f_singers a_run x1 x2 x3 post) : Met l yX11_mutes (Cond.code yX11_mutes cX11_mutes 8 (some .int) :: zb) rm_m_mutes (va_Pc [.ref q, .int x1, .int x2, .int x3] (fun U => mW E q f_code a_tape a_size a_fault a_faultPlace a_many a_lands a_evenings a_sights a_choirs f_reached f_length f_begins f_sort f_value f_word f_wrongAt f_laterFault f_laterPlace a_told a_read f_farHut f_farSinger f_good f_land f_huts f_singers f_evening a_at a_knows a_climbed a_snow a_level f_begun f_minute f_avalanches a_run a_covers a_routes a_longest a_steep a_laid a_far f_sight a_runs f_choir f_voices a_rest a_wins f_seed a_other a_kept U.heap ∧ zK E U)) (zQi (S := (Int32) × (Int32) × (Int32) × (Int32) × (Nat → Int32)) (fun r u => post r u.1 u.2.1 u.2.2.1 u.2.2.2.1 u.2.2.2.2) (fun u H => mW E q u.1 a_tape a_size a_fault a_faultPlace a_many a_lands a_evenings a_sights a_choirs f_reached f_length f_begins f_sort f_value f_word f_wrongAt f_laterFault f_laterPlace a_told a_read f_farHut f_farSinger f_good u.2.1 u.2.2.1 u.2.2.2.1 f_evening a_at a_knows a_climbed a_snow a_level f_begun f_minute f_avalanches u.2.2.2.2 a_covers a_routes a_longest a_steep a_laid a_far f_sight a_runs f_choir f_voices a_rest a_wins f_seed a_other a_kept H) (mA q)) 0 0 (mA q) := by
  refine Met.ofW (cc := cX11_mutes) (maxL := 8) (ret := (some .int)) (by decide) rfl ?_
  intro p e s m args below meth c s₁ B hml hv
  obtain ⟨rfl, hM, hK⟩ := hv
  have zc := zc_of B hml
  have hl := lv_entry ([.ref q, .int x1, .int x2, .int x3]) (n := 8) (Nat.le_of_ble_eq_true rfl)
  rw [lg_entry_eq]
  generalize (lg_sl ([.ref q, .int x1, .int x2, .int x3]) ++ List.replicate (8 - (lg_sl ([.ref q, .int x1, .int x2, .int x3])).length) Slot.unset).toArray = ls at hl ⊢
  have hl : lv_has ls 8 [(0, .ref q), (1, .int x1), (2, .int x2), (3, .int x3)] := hl
  exact t_m_mutes_0 zc hK hM va_S.rf (lv_sub hl [0, 1, 2, 3] rfl) hw
-- m_findFar
abbrev rm_m_findFar : Room := { frames := 2, cells := 0, slots := 0, locals := 43 }
def q_m_findFar_60 (P2 : Int32 → (Nat → Int32) → Prop) (P12 : Int32 → (Nat → Int32) → Prop) (a_lands : Nat → Int32) (f_land : Int32) (f_huts : Int32) (a_far : Nat → Int32) (x1 : Int32) (x2 : Int32) (y0 : Int32) (y1 : Int32) (post : (Nat → Int32) → Prop) : Prop :=
  vp_in y0 81 ∧ (∀ a_far_1 : Nat → Int32, a_far_1 = upd a_far (Int32.toNatClampNeg y0) y1 → (∀ v_1 : Int32, v_1 = x2 + (1 : Int32) → (P12 v_1 a_far_1)))
def q_m_findFar_12 (P2 : Int32 → (Nat → Int32) → Prop) (a_lands : Nat → Int32) (f_land : Int32) (f_huts : Int32) (a_far : Nat → Int32) (x1 : Int32) (x2 : Int32) (post : (Nat → Int32) → Prop) : Prop :=
  ∀ P12 : Int32 → (Nat → Int32) → Prop, (∀ (x2 : Int32) (a_far : Nat → Int32), ((f_huts ≤ x2 → (∀ v_1 : Int32, v_1 = x1 + (1 : Int32) → (P2 v_1 a_far))) ∧ (¬ f_huts ≤ x2 → ((¬ x1 = x2 → (q_m_way_0 a_lands f_land x1 x2 (fun r_1 => (r_1 ≤ 0 → (q_m_findFar_60 P2 P12 a_lands f_land f_huts a_far x1 x2 (((9 : Int32) * x1) + x2) (1000000 : Int32) post)) ∧ (¬ r_1 ≤ 0 → (q_m_way_0 a_lands f_land x1 x2 (fun r_2 => q_m_findFar_60 P2 P12 a_lands f_land f_huts a_far x1 x2 (((9 : Int32) * x1) + x2) r_2 post)))))) ∧ (x1 = x2 → (q_m_findFar_60 P2 P12 a_lands f_land f_huts a_far x1 x2 (((9 : Int32) * x1) + x2) (0 : Int32) post))))) → P12 x2 a_far) → P12 x2 a_far
def q_m_findFar_95 (P75 : Int32 → (Nat → Int32) → Prop) (P85 : Int32 → (Nat → Int32) → Prop) (a_lands : Nat → Int32) (f_land : Int32) (f_huts : Int32) (a_far : Nat → Int32) (x1 : Int32) (x2 : Int32) (x3 : Int32) (post : (Nat → Int32) → Prop) : Prop :=
  ∀ P95 : Int32 → (Nat → Int32) → Prop, (∀ (x3 : Int32) (a_far : Nat → Int32), ((f_huts ≤ x3 → (∀ v_1 : Int32, v_1 = x2 + (1 : Int32) → (P85 v_1 a_far))) ∧ (¬ f_huts ≤ x3 → (vp_in (((9 : Int32) * x2) + x3) 81 ∧ (vp_in (((9 : Int32) * x2) + x1) 81 ∧ (vp_in (((9 : Int32) * x1) + x3) 81 ∧ (q_m_lesser_0 (a_far (Int32.toNatClampNeg (((9 : Int32) * x2) + x3))) ((a_far (Int32.toNatClampNeg (((9 : Int32) * x2) + x1))) + (a_far (Int32.toNatClampNeg (((9 : Int32) * x1) + x3)))) (fun r_1 => vp_in (((9 : Int32) * x2) + x3) 81 ∧ (∀ a_far_1 : Nat → Int32, a_far_1 = upd a_far (Int32.toNatClampNeg (((9 : Int32) * x2) + x3)) r_1 → (∀ v_2 : Int32, v_2 = x3 + (1 : Int32) → (P95 v_2 a_far_1)))))))))) → P95 x3 a_far) → P95 x3 a_far
def q_m_findFar_85 (P75 : Int32 → (Nat → Int32) → Prop) (a_lands : Nat → Int32) (f_land : Int32) (f_huts : Int32) (a_far : Nat → Int32) (x1 : Int32) (x2 : Int32) (post : (Nat → Int32) → Prop) : Prop :=
  ∀ P85 : Int32 → (Nat → Int32) → Prop, (∀ (x2 : Int32) (a_far : Nat → Int32), ((f_huts ≤ x2 → (∀ v_1 : Int32, v_1 = x1 + (1 : Int32) → (P75 v_1 a_far))) ∧ (¬ f_huts ≤ x2 → (q_m_findFar_95 P75 P85 a_lands f_land f_huts a_far x1 x2 (0 : Int32) post))) → P85 x2 a_far) → P85 x2 a_far
def q_m_findFar_75 (a_lands : Nat → Int32) (f_land : Int32) (f_huts : Int32) (a_far : Nat → Int32) (x1 : Int32) (post : (Nat → Int32) → Prop) : Prop :=
  ∀ P75 : Int32 → (Nat → Int32) → Prop, (∀ (x1 : Int32) (a_far : Nat → Int32), ((f_huts ≤ x1 → (post a_far)) ∧ (¬ f_huts ≤ x1 → (q_m_findFar_85 P75 a_lands f_land f_huts a_far x1 (0 : Int32) post))) → P75 x1 a_far) → P75 x1 a_far
def q_m_findFar_2 (a_lands : Nat → Int32) (f_land : Int32) (f_huts : Int32) (a_far : Nat → Int32) (x1 : Int32) (post : (Nat → Int32) → Prop) : Prop :=
  ∀ P2 : Int32 → (Nat → Int32) → Prop, (∀ (x1 : Int32) (a_far : Nat → Int32), ((f_huts ≤ x1 → (q_m_findFar_75 a_lands f_land f_huts a_far (0 : Int32) post)) ∧ (¬ f_huts ≤ x1 → (q_m_findFar_12 P2 a_lands f_land f_huts a_far x1 (0 : Int32) post))) → P2 x1 a_far) → P2 x1 a_far
def q_m_findFar_0 (a_lands : Nat → Int32) (f_land : Int32) (f_huts : Int32) (a_far : Nat → Int32) (post : (Nat → Int32) → Prop) : Prop :=
  q_m_findFar_2 a_lands f_land f_huts a_far (0 : Int32) post
set_option maxRecDepth 20000 in
theorem t_m_findFar_60 {p : Program} {l : Launch} {e : Env} {s : State} {m : MethodId} {args : Array Value} {below : List Frame} {meth : Method} {c : Code} {E : zE} {q : Nat} {f_code : Int32} {a_tape : Nat → Int32} {a_size : Nat → Int32} {a_fault : Nat → Int32} {a_faultPlace : Nat → Int32} {a_many : Nat → Int32} {a_lands : Nat → Int32} {a_evenings : Nat → Int32} {a_sights : Nat → Int32} {a_choirs : Nat → Int32} {f_reached : Int32} {f_length : Int32} {f_begins : Int32} {f_sort : Int32} {f_value : Int32} {f_word : Int64} {f_wrongAt : Int32} {f_laterFault : Int32} {f_laterPlace : Int32} {a_told : Nat → Int32} {a_read : Nat → Int32} {f_farHut : Int32} {f_farSinger : Int32} {f_good : Int32} {f_land : Int32} {f_huts : Int32} {f_singers : Int32} {f_evening : Int32} {a_at : Nat → Int32} {a_knows : Nat → Int32} {a_climbed : Nat → Int32} {a_snow : Nat → Int32} {a_level : Nat → Int32} {f_begun : Int32} {f_minute : Int32} {f_avalanches : Int32} {a_run : Nat → Int32} {a_covers : Nat → Int32} {a_routes : Nat → Int32} {a_longest : Nat → Int32} {a_steep : Nat → Int32} {a_laid : Nat → Int32} {a_far : Nat → Int32} {f_sight : Int32} {a_runs : Nat → Int32} {f_choir : Int32} {f_voices : Int32} {a_rest : Nat → Int64} {a_wins : Nat → Int32} {f_seed : Int32} {a_other : Nat → Int32} {a_kept : Nat → Int32} {P2 : Int32 → (Nat → Int32) → Prop} {P12 : Int32 → (Nat → Int32) → Prop} {post : (Nat → Int32) → Prop} {x1 : Int32} {x2 : Int32} {y0 : Int32} {y1 : Int32} {ls : Array Slot} {H : Heap} {locs : List Loc}
    (zc : zC p s m args meth c cX11_findFar 4 RX11 none)
    (hK : zK E s)
    (hM : mW E q f_code a_tape a_size a_fault a_faultPlace a_many a_lands a_evenings a_sights a_choirs f_reached f_length f_begins f_sort f_value f_word f_wrongAt f_laterFault f_laterPlace a_told a_read f_farHut f_farSinger f_good f_land f_huts f_singers f_evening a_at a_knows a_climbed a_snow a_level f_begun f_minute f_avalanches a_run a_covers a_routes a_longest a_steep a_laid a_far f_sight a_runs f_choir f_voices a_rest a_wins f_seed a_other a_kept H)
    (hS : va_S (mA q) s.heap H locs)
    (hP2 : ∀ (x1 : Int32) (a_far : Nat → Int32) (H : Heap) (locs : List Loc) (ls : Array Slot), P2 x1 a_far → lv_has ls 4 [(0, .ref q), (1, .int x1)] → mW E q f_code a_tape a_size a_fault a_faultPlace a_many a_lands a_evenings a_sights a_choirs f_reached f_length f_begins f_sort f_value f_word f_wrongAt f_laterFault f_laterPlace a_told a_read f_farHut f_farSinger f_good f_land f_huts f_singers f_evening a_at a_knows a_climbed a_snow a_level f_begun f_minute f_avalanches a_run a_covers a_routes a_longest a_steep a_laid a_far f_sight a_runs f_choir f_voices a_rest a_wins f_seed a_other a_kept H → va_S (mA q) s.heap H locs → W p l e rm_m_findFar s m args below meth c H locs 0 0 (MQ below (zQv (S := (Nat → Int32)) (fun u => post u) (fun u H => mW E q f_code a_tape a_size a_fault a_faultPlace a_many a_lands a_evenings a_sights a_choirs f_reached f_length f_begins f_sort f_value f_word f_wrongAt f_laterFault f_laterPlace a_told a_read f_farHut f_farSinger f_good f_land f_huts f_singers f_evening a_at a_knows a_climbed a_snow a_level f_begun f_minute f_avalanches a_run a_covers a_routes a_longest a_steep a_laid u f_sight a_runs f_choir f_voices a_rest a_wins f_seed a_other a_kept H) (mA q)) args s 0 0 (mA q)) (F0 m 2 ls []))
    (hP12 : ∀ (x2 : Int32) (a_far : Nat → Int32) (H : Heap) (locs : List Loc) (ls : Array Slot), P12 x2 a_far → lv_has ls 4 [(0, .ref q), (1, .int x1), (2, .int x2)] → mW E q f_code a_tape a_size a_fault a_faultPlace a_many a_lands a_evenings a_sights a_choirs f_reached f_length f_begins f_sort f_value f_word f_wrongAt f_laterFault f_laterPlace a_told a_read f_farHut f_farSinger f_good f_land f_huts f_singers f_evening a_at a_knows a_climbed a_snow a_level f_begun f_minute f_avalanches a_run a_covers a_routes a_longest a_steep a_laid a_far f_sight a_runs f_choir f_voices a_rest a_wins f_seed a_other a_kept H → va_S (mA q) s.heap H locs → W p l e rm_m_findFar s m args below meth c H locs 0 0 (MQ below (zQv (S := (Nat → Int32)) (fun u => post u) (fun u H => mW E q f_code a_tape a_size a_fault a_faultPlace a_many a_lands a_evenings a_sights a_choirs f_reached f_length f_begins f_sort f_value f_word f_wrongAt f_laterFault f_laterPlace a_told a_read f_farHut f_farSinger f_good f_land f_huts f_singers f_evening a_at a_knows a_climbed a_snow a_level f_begun f_minute f_avalanches a_run a_covers a_routes a_longest a_steep a_laid u f_sight a_runs f_choir f_voices a_rest a_wins f_seed a_other a_kept H) (mA q)) args s 0 0 (mA q)) (F0 m 12 ls []))
    (hl : lv_has ls 4 [(0, .ref q), (1, .int x1), (2, .int x2)])
    (hw : q_m_findFar_60 P2 P12 a_lands f_land f_huts a_far x1 x2 y0 y1 post) :
    W p l e rm_m_findFar s m args below meth c H locs 0 0 (MQ below (zQv (S := (Nat → Int32)) (fun u => post u) (fun u H => mW E q f_code a_tape a_size a_fault a_faultPlace a_many a_lands a_evenings a_sights a_choirs f_reached f_length f_begins f_sort f_value f_word f_wrongAt f_laterFault f_laterPlace a_told a_read f_farHut f_farSinger f_good f_land f_huts f_singers f_evening a_at a_knows a_climbed a_snow a_level f_begun f_minute f_avalanches a_run a_covers a_routes a_longest a_steep a_laid u f_sight a_runs f_choir f_voices a_rest a_wins f_seed a_other a_kept H) (mA q)) args s 0 0 (mA q)) (F0 m 60 ls [.int y1, .int y0, .ref (q + 23)]) := by
  have hx := zc.1
  have hb := zc.2.1
  refine mst_23 zc hK hM hS hw.1 dX11_findFar_60 (fun a_far_1 H locs ea_far_1 hM hS => ?_)
  have hw := hw.2 a_far_1 ea_far_1
  obtain ⟨v_1, ev_1⟩ : ∃ y : Int32, y = x2 + (1 : Int32) := ⟨_, rfl⟩
  have hw := hw v_1 ev_1
  refine lv_iinc (v := v_1) (k := 2) (lv' := [(2, .int v_1), (0, .ref q), (1, .int x1)]) hx hb dX11_findFar_61 hl rfl (by rw [ev_1]; rfl) (by decide) rfl (fun ls hl => ?_)
  refine lv_goto (tgt := 12) hx hb dX11_findFar_64 (by decide) ?_
  exact hP12 _ _ _ _ _ hw (lv_sub hl [1, 2, 0] rfl) hM hS
set_option maxRecDepth 20000 in
theorem t_m_findFar_12 {p : Program} {l : Launch} {e : Env} {s : State} {m : MethodId} {args : Array Value} {below : List Frame} {meth : Method} {c : Code} {E : zE} {q : Nat} {f_code : Int32} {a_tape : Nat → Int32} {a_size : Nat → Int32} {a_fault : Nat → Int32} {a_faultPlace : Nat → Int32} {a_many : Nat → Int32} {a_lands : Nat → Int32} {a_evenings : Nat → Int32} {a_sights : Nat → Int32} {a_choirs : Nat → Int32} {f_reached : Int32} {f_length : Int32} {f_begins : Int32} {f_sort : Int32} {f_value : Int32} {f_word : Int64} {f_wrongAt : Int32} {f_laterFault : Int32} {f_laterPlace : Int32} {a_told : Nat → Int32} {a_read : Nat → Int32} {f_farHut : Int32} {f_farSinger : Int32} {f_good : Int32} {f_land : Int32} {f_huts : Int32} {f_singers : Int32} {f_evening : Int32} {a_at : Nat → Int32} {a_knows : Nat → Int32} {a_climbed : Nat → Int32} {a_snow : Nat → Int32} {a_level : Nat → Int32} {f_begun : Int32} {f_minute : Int32} {f_avalanches : Int32} {a_run : Nat → Int32} {a_covers : Nat → Int32} {a_routes : Nat → Int32} {a_longest : Nat → Int32} {a_steep : Nat → Int32} {a_laid : Nat → Int32} {a_far : Nat → Int32} {f_sight : Int32} {a_runs : Nat → Int32} {f_choir : Int32} {f_voices : Int32} {a_rest : Nat → Int64} {a_wins : Nat → Int32} {f_seed : Int32} {a_other : Nat → Int32} {a_kept : Nat → Int32} {P2 : Int32 → (Nat → Int32) → Prop} {post : (Nat → Int32) → Prop} {x1 : Int32} {x2 : Int32} {ls : Array Slot} {H : Heap} {locs : List Loc}
    (zc : zC p s m args meth c cX11_findFar 4 RX11 none)
    (hK : zK E s)
    (hM : mW E q f_code a_tape a_size a_fault a_faultPlace a_many a_lands a_evenings a_sights a_choirs f_reached f_length f_begins f_sort f_value f_word f_wrongAt f_laterFault f_laterPlace a_told a_read f_farHut f_farSinger f_good f_land f_huts f_singers f_evening a_at a_knows a_climbed a_snow a_level f_begun f_minute f_avalanches a_run a_covers a_routes a_longest a_steep a_laid a_far f_sight a_runs f_choir f_voices a_rest a_wins f_seed a_other a_kept H)
    (hS : va_S (mA q) s.heap H locs)
    (hP2 : ∀ (x1 : Int32) (a_far : Nat → Int32) (H : Heap) (locs : List Loc) (ls : Array Slot), P2 x1 a_far → lv_has ls 4 [(0, .ref q), (1, .int x1)] → mW E q f_code a_tape a_size a_fault a_faultPlace a_many a_lands a_evenings a_sights a_choirs f_reached f_length f_begins f_sort f_value f_word f_wrongAt f_laterFault f_laterPlace a_told a_read f_farHut f_farSinger f_good f_land f_huts f_singers f_evening a_at a_knows a_climbed a_snow a_level f_begun f_minute f_avalanches a_run a_covers a_routes a_longest a_steep a_laid a_far f_sight a_runs f_choir f_voices a_rest a_wins f_seed a_other a_kept H → va_S (mA q) s.heap H locs → W p l e rm_m_findFar s m args below meth c H locs 0 0 (MQ below (zQv (S := (Nat → Int32)) (fun u => post u) (fun u H => mW E q f_code a_tape a_size a_fault a_faultPlace a_many a_lands a_evenings a_sights a_choirs f_reached f_length f_begins f_sort f_value f_word f_wrongAt f_laterFault f_laterPlace a_told a_read f_farHut f_farSinger f_good f_land f_huts f_singers f_evening a_at a_knows a_climbed a_snow a_level f_begun f_minute f_avalanches a_run a_covers a_routes a_longest a_steep a_laid u f_sight a_runs f_choir f_voices a_rest a_wins f_seed a_other a_kept H) (mA q)) args s 0 0 (mA q)) (F0 m 2 ls []))
    (hl : lv_has ls 4 [(0, .ref q), (1, .int x1), (2, .int x2)])
    (hw : q_m_findFar_12 P2 a_lands f_land f_huts a_far x1 x2 post) :
    W p l e rm_m_findFar s m args below meth c H locs 0 0 (MQ below (zQv (S := (Nat → Int32)) (fun u => post u) (fun u H => mW E q f_code a_tape a_size a_fault a_faultPlace a_many a_lands a_evenings a_sights a_choirs f_reached f_length f_begins f_sort f_value f_word f_wrongAt f_laterFault f_laterPlace a_told a_read f_farHut f_farSinger f_good f_land f_huts f_singers f_evening a_at a_knows a_climbed a_snow a_level f_begun f_minute f_avalanches a_run a_covers a_routes a_longest a_steep a_laid u f_sight a_runs f_choir f_voices a_rest a_wins f_seed a_other a_kept H) (mA q)) args s 0 0 (mA q)) (F0 m 12 ls []) := by
  have hx := zc.1
  have hb := zc.2.1
  refine hw (fun x2 a_far => ∀ (H : Heap) (locs : List Loc) (ls : Array Slot), lv_has ls 4 [(0, .ref q), (1, .int x1), (2, .int x2)] → mW E q f_code a_tape a_size a_fault a_faultPlace a_many a_lands a_evenings a_sights a_choirs f_reached f_length f_begins f_sort f_value f_word f_wrongAt f_laterFault f_laterPlace a_told a_read f_farHut f_farSinger f_good f_land f_huts f_singers f_evening a_at a_knows a_climbed a_snow a_level f_begun f_minute f_avalanches a_run a_covers a_routes a_longest a_steep a_laid a_far f_sight a_runs f_choir f_voices a_rest a_wins f_seed a_other a_kept H → va_S (mA q) s.heap H locs → W p l e rm_m_findFar s m args below meth c H locs 0 0 (MQ below (zQv (S := (Nat → Int32)) (fun u => post u) (fun u H => mW E q f_code a_tape a_size a_fault a_faultPlace a_many a_lands a_evenings a_sights a_choirs f_reached f_length f_begins f_sort f_value f_word f_wrongAt f_laterFault f_laterPlace a_told a_read f_farHut f_farSinger f_good f_land f_huts f_singers f_evening a_at a_knows a_climbed a_snow a_level f_begun f_minute f_avalanches a_run a_covers a_routes a_longest a_steep a_laid u f_sight a_runs f_choir f_voices a_rest a_wins f_seed a_other a_kept H) (mA q)) args s 0 0 (mA q)) (F0 m 12 ls [])) ?_ _ _ _ hl hM hS
  intro x2 a_far hw H locs ls hl hM hS
  refine lv_iload_n hx hb dX11_findFar_12 rfl (lv_at hl 2 rfl) ?_
  refine lv_aload_n hx hb dX11_findFar_13 rfl (lv_at hl 0 rfl) ?_
  refine mg_11_307_0 zc hK hM dX11_findFar_14 ?_
  refine lv_icmp_ge (tgt := 67) hx hb dX11_findFar_17 (by decide) (fun hc => ?_) (fun hc => ?_)
  · have hw := hw.1 hc
    obtain ⟨v_1, ev_1⟩ : ∃ y : Int32, y = x1 + (1 : Int32) := ⟨_, rfl⟩
    have hw := hw v_1 ev_1
    refine lv_iinc (v := v_1) (k := 1) (lv' := [(1, .int v_1), (0, .ref q), (2, .int x2)]) hx hb dX11_findFar_67 hl rfl (by rw [ev_1]; rfl) (by decide) rfl (fun ls hl => ?_)
    refine lv_goto (tgt := 2) hx hb dX11_findFar_70 (by decide) ?_
    exact hP2 _ _ _ _ _ hw (lv_sub hl [1, 0] rfl) hM hS
  · have hw := hw.2 hc
    refine lv_aload_n hx hb dX11_findFar_20 rfl (lv_at hl 0 rfl) ?_
    refine mg_11_78_0 zc hK hM dX11_findFar_21 ?_
    refine lv_bipush (v := (9 : Int32)) hx hb dX11_findFar_24 (by decide) ?_
    refine lv_iload_n hx hb dX11_findFar_26 rfl (lv_at hl 1 rfl) ?_
    refine lv_imul hx hb dX11_findFar_27 ?_
    refine lv_iload_n hx hb dX11_findFar_28 rfl (lv_at hl 2 rfl) ?_
    refine lv_iadd hx hb dX11_findFar_29 ?_
    refine lv_iload_n hx hb dX11_findFar_30 rfl (lv_at hl 1 rfl) ?_
    refine lv_iload_n hx hb dX11_findFar_31 rfl (lv_at hl 2 rfl) ?_
    refine lv_icmp_ne (tgt := 39) hx hb dX11_findFar_32 (by decide) (fun hc => ?_) (fun hc => ?_)
    · have hw := hw.1 hc
      refine lv_aload_n hx hb dX11_findFar_39 rfl (lv_at hl 0 rfl) ?_
      refine lv_iload_n hx hb dX11_findFar_40 rfl (lv_at hl 1 rfl) ?_
      refine lv_iload_n hx hb dX11_findFar_41 rfl (lv_at hl 2 rfl) ?_
      refine zV_i [.int x1, .int x2] [.int (((9 : Int32) * x1) + x2), .ref (q + 23)] zc ky_X11_way kz_X11_way km_11_319 (c_m_way l hw) (mPreV0 hK hM) rfl rfl hl.1 (Nat.le_of_ble_eq_true rfl) ⟨rfl, rfl⟩ ⟨Nat.le_of_ble_eq_true rfl, Nat.le_of_ble_eq_true rfl⟩ ⟨(Nat.zero_le _), (Nat.zero_le _)⟩ dX11_findFar_42 (fun r_1 hw => ?_)
      refine lv_if_le (tgt := 57) hx hb dX11_findFar_45 (by decide) (fun hc => ?_) (fun hc => ?_)
      · have hw := hw.1 hc
        refine lv_ldcw (v := (1000000 : Int32)) hx hb zc.2.2.2.1 (zc.2.2.2.2.1 _ kc_11_410) dX11_findFar_57 ?_
        exact t_m_findFar_60 zc hK hM hS hP2 (fun _ _ H locs ls h hl hM hS => h H locs ls hl hM hS) (lv_sub hl [0, 1, 2] rfl) hw
      · have hw := hw.2 hc
        refine lv_aload_n hx hb dX11_findFar_48 rfl (lv_at hl 0 rfl) ?_
        refine lv_iload_n hx hb dX11_findFar_49 rfl (lv_at hl 1 rfl) ?_
        refine lv_iload_n hx hb dX11_findFar_50 rfl (lv_at hl 2 rfl) ?_
        refine zV_i [.int x1, .int x2] [.int (((9 : Int32) * x1) + x2), .ref (q + 23)] zc ky_X11_way kz_X11_way km_11_319 (c_m_way l hw) (mPreV0 hK hM) rfl rfl hl.1 (Nat.le_of_ble_eq_true rfl) ⟨rfl, rfl⟩ ⟨Nat.le_of_ble_eq_true rfl, Nat.le_of_ble_eq_true rfl⟩ ⟨(Nat.zero_le _), (Nat.zero_le _)⟩ dX11_findFar_51 (fun r_2 hw => ?_)
        refine lv_goto (tgt := 60) hx hb dX11_findFar_54 (by decide) ?_
        exact t_m_findFar_60 zc hK hM hS hP2 (fun _ _ H locs ls h hl hM hS => h H locs ls hl hM hS) (lv_sub hl [0, 1, 2] rfl) hw
    · have hw := hw.2 hc
      refine lv_iconst (v := (0 : Int32)) hx hb dX11_findFar_35 (by decide) ?_
      refine lv_goto (tgt := 60) hx hb dX11_findFar_36 (by decide) ?_
      exact t_m_findFar_60 zc hK hM hS hP2 (fun _ _ H locs ls h hl hM hS => h H locs ls hl hM hS) (lv_sub hl [0, 1, 2] rfl) hw
set_option maxRecDepth 20000 in
theorem t_m_findFar_95 {p : Program} {l : Launch} {e : Env} {s : State} {m : MethodId} {args : Array Value} {below : List Frame} {meth : Method} {c : Code} {E : zE} {q : Nat} {f_code : Int32} {a_tape : Nat → Int32} {a_size : Nat → Int32} {a_fault : Nat → Int32} {a_faultPlace : Nat → Int32} {a_many : Nat → Int32} {a_lands : Nat → Int32} {a_evenings : Nat → Int32} {a_sights : Nat → Int32} {a_choirs : Nat → Int32} {f_reached : Int32} {f_length : Int32} {f_begins : Int32} {f_sort : Int32} {f_value : Int32} {f_word : Int64} {f_wrongAt : Int32} {f_laterFault : Int32} {f_laterPlace : Int32} {a_told : Nat → Int32} {a_read : Nat → Int32} {f_farHut : Int32} {f_farSinger : Int32} {f_good : Int32} {f_land : Int32} {f_huts : Int32} {f_singers : Int32} {f_evening : Int32} {a_at : Nat → Int32} {a_knows : Nat → Int32} {a_climbed : Nat → Int32} {a_snow : Nat → Int32} {a_level : Nat → Int32} {f_begun : Int32} {f_minute : Int32} {f_avalanches : Int32} {a_run : Nat → Int32} {a_covers : Nat → Int32} {a_routes : Nat → Int32} {a_longest : Nat → Int32} {a_steep : Nat → Int32} {a_laid : Nat → Int32} {a_far : Nat → Int32} {f_sight : Int32} {a_runs : Nat → Int32} {f_choir : Int32} {f_voices : Int32} {a_rest : Nat → Int64} {a_wins : Nat → Int32} {f_seed : Int32} {a_other : Nat → Int32} {a_kept : Nat → Int32} {P75 : Int32 → (Nat → Int32) → Prop} {P85 : Int32 → (Nat → Int32) → Prop} {post : (Nat → Int32) → Prop} {x1 : Int32} {x2 : Int32} {x3 : Int32} {ls : Array Slot} {H : Heap} {locs : List Loc}
    (zc : zC p s m args meth c cX11_findFar 4 RX11 none)
    (hK : zK E s)
    (hM : mW E q f_code a_tape a_size a_fault a_faultPlace a_many a_lands a_evenings a_sights a_choirs f_reached f_length f_begins f_sort f_value f_word f_wrongAt f_laterFault f_laterPlace a_told a_read f_farHut f_farSinger f_good f_land f_huts f_singers f_evening a_at a_knows a_climbed a_snow a_level f_begun f_minute f_avalanches a_run a_covers a_routes a_longest a_steep a_laid a_far f_sight a_runs f_choir f_voices a_rest a_wins f_seed a_other a_kept H)
    (hS : va_S (mA q) s.heap H locs)
    (hP75 : ∀ (x1 : Int32) (a_far : Nat → Int32) (H : Heap) (locs : List Loc) (ls : Array Slot), P75 x1 a_far → lv_has ls 4 [(0, .ref q), (1, .int x1)] → mW E q f_code a_tape a_size a_fault a_faultPlace a_many a_lands a_evenings a_sights a_choirs f_reached f_length f_begins f_sort f_value f_word f_wrongAt f_laterFault f_laterPlace a_told a_read f_farHut f_farSinger f_good f_land f_huts f_singers f_evening a_at a_knows a_climbed a_snow a_level f_begun f_minute f_avalanches a_run a_covers a_routes a_longest a_steep a_laid a_far f_sight a_runs f_choir f_voices a_rest a_wins f_seed a_other a_kept H → va_S (mA q) s.heap H locs → W p l e rm_m_findFar s m args below meth c H locs 0 0 (MQ below (zQv (S := (Nat → Int32)) (fun u => post u) (fun u H => mW E q f_code a_tape a_size a_fault a_faultPlace a_many a_lands a_evenings a_sights a_choirs f_reached f_length f_begins f_sort f_value f_word f_wrongAt f_laterFault f_laterPlace a_told a_read f_farHut f_farSinger f_good f_land f_huts f_singers f_evening a_at a_knows a_climbed a_snow a_level f_begun f_minute f_avalanches a_run a_covers a_routes a_longest a_steep a_laid u f_sight a_runs f_choir f_voices a_rest a_wins f_seed a_other a_kept H) (mA q)) args s 0 0 (mA q)) (F0 m 75 ls []))
    (hP85 : ∀ (x2 : Int32) (a_far : Nat → Int32) (H : Heap) (locs : List Loc) (ls : Array Slot), P85 x2 a_far → lv_has ls 4 [(0, .ref q), (1, .int x1), (2, .int x2)] → mW E q f_code a_tape a_size a_fault a_faultPlace a_many a_lands a_evenings a_sights a_choirs f_reached f_length f_begins f_sort f_value f_word f_wrongAt f_laterFault f_laterPlace a_told a_read f_farHut f_farSinger f_good f_land f_huts f_singers f_evening a_at a_knows a_climbed a_snow a_level f_begun f_minute f_avalanches a_run a_covers a_routes a_longest a_steep a_laid a_far f_sight a_runs f_choir f_voices a_rest a_wins f_seed a_other a_kept H → va_S (mA q) s.heap H locs → W p l e rm_m_findFar s m args below meth c H locs 0 0 (MQ below (zQv (S := (Nat → Int32)) (fun u => post u) (fun u H => mW E q f_code a_tape a_size a_fault a_faultPlace a_many a_lands a_evenings a_sights a_choirs f_reached f_length f_begins f_sort f_value f_word f_wrongAt f_laterFault f_laterPlace a_told a_read f_farHut f_farSinger f_good f_land f_huts f_singers f_evening a_at a_knows a_climbed a_snow a_level f_begun f_minute f_avalanches a_run a_covers a_routes a_longest a_steep a_laid u f_sight a_runs f_choir f_voices a_rest a_wins f_seed a_other a_kept H) (mA q)) args s 0 0 (mA q)) (F0 m 85 ls []))
    (hl : lv_has ls 4 [(0, .ref q), (1, .int x1), (2, .int x2), (3, .int x3)])
    (hw : q_m_findFar_95 P75 P85 a_lands f_land f_huts a_far x1 x2 x3 post) :
    W p l e rm_m_findFar s m args below meth c H locs 0 0 (MQ below (zQv (S := (Nat → Int32)) (fun u => post u) (fun u H => mW E q f_code a_tape a_size a_fault a_faultPlace a_many a_lands a_evenings a_sights a_choirs f_reached f_length f_begins f_sort f_value f_word f_wrongAt f_laterFault f_laterPlace a_told a_read f_farHut f_farSinger f_good f_land f_huts f_singers f_evening a_at a_knows a_climbed a_snow a_level f_begun f_minute f_avalanches a_run a_covers a_routes a_longest a_steep a_laid u f_sight a_runs f_choir f_voices a_rest a_wins f_seed a_other a_kept H) (mA q)) args s 0 0 (mA q)) (F0 m 95 ls []) := by
  have hx := zc.1
  have hb := zc.2.1
  refine hw (fun x3 a_far => ∀ (H : Heap) (locs : List Loc) (ls : Array Slot), lv_has ls 4 [(0, .ref q), (1, .int x1), (2, .int x2), (3, .int x3)] → mW E q f_code a_tape a_size a_fault a_faultPlace a_many a_lands a_evenings a_sights a_choirs f_reached f_length f_begins f_sort f_value f_word f_wrongAt f_laterFault f_laterPlace a_told a_read f_farHut f_farSinger f_good f_land f_huts f_singers f_evening a_at a_knows a_climbed a_snow a_level f_begun f_minute f_avalanches a_run a_covers a_routes a_longest a_steep a_laid a_far f_sight a_runs f_choir f_voices a_rest a_wins f_seed a_other a_kept H → va_S (mA q) s.heap H locs → W p l e rm_m_findFar s m args below meth c H locs 0 0 (MQ below (zQv (S := (Nat → Int32)) (fun u => post u) (fun u H => mW E q f_code a_tape a_size a_fault a_faultPlace a_many a_lands a_evenings a_sights a_choirs f_reached f_length f_begins f_sort f_value f_word f_wrongAt f_laterFault f_laterPlace a_told a_read f_farHut f_farSinger f_good f_land f_huts f_singers f_evening a_at a_knows a_climbed a_snow a_level f_begun f_minute f_avalanches a_run a_covers a_routes a_longest a_steep a_laid u f_sight a_runs f_choir f_voices a_rest a_wins f_seed a_other a_kept H) (mA q)) args s 0 0 (mA q)) (F0 m 95 ls [])) ?_ _ _ _ hl hM hS
  intro x3 a_far hw H locs ls hl hM hS
  refine lv_iload_n hx hb dX11_findFar_95 rfl (lv_at hl 3 rfl) ?_
  refine lv_aload_n hx hb dX11_findFar_96 rfl (lv_at hl 0 rfl) ?_
  refine mg_11_307_0 zc hK hM dX11_findFar_97 ?_
  refine lv_icmp_ge (tgt := 157) hx hb dX11_findFar_100 (by decide) (fun hc => ?_) (fun hc => ?_)
  · have hw := hw.1 hc
    obtain ⟨v_1, ev_1⟩ : ∃ y : Int32, y = x2 + (1 : Int32) := ⟨_, rfl⟩
    have hw := hw v_1 ev_1
    refine lv_iinc (v := v_1) (k := 2) (lv' := [(2, .int v_1), (0, .ref q), (1, .int x1), (3, .int x3)]) hx hb dX11_findFar_157 hl rfl (by rw [ev_1]; rfl) (by decide) rfl (fun ls hl => ?_)
    refine lv_goto (tgt := 85) hx hb dX11_findFar_160 (by decide) ?_
    exact hP85 _ _ _ _ _ hw (lv_sub hl [1, 2, 0] rfl) hM hS
  · have hw := hw.2 hc
    refine lv_aload_n hx hb dX11_findFar_103 rfl (lv_at hl 0 rfl) ?_
    refine mg_11_78_0 zc hK hM dX11_findFar_104 ?_
    refine lv_bipush (v := (9 : Int32)) hx hb dX11_findFar_107 (by decide) ?_
    refine lv_iload_n hx hb dX11_findFar_109 rfl (lv_at hl 2 rfl) ?_
    refine lv_imul hx hb dX11_findFar_110 ?_
    refine lv_iload_n hx hb dX11_findFar_111 rfl (lv_at hl 3 rfl) ?_
    refine lv_iadd hx hb dX11_findFar_112 ?_
    refine lv_aload_n hx hb dX11_findFar_113 rfl (lv_at hl 0 rfl) ?_
    refine mg_11_78_0 zc hK hM dX11_findFar_114 ?_
    refine lv_bipush (v := (9 : Int32)) hx hb dX11_findFar_117 (by decide) ?_
    refine lv_iload_n hx hb dX11_findFar_119 rfl (lv_at hl 2 rfl) ?_
    refine lv_imul hx hb dX11_findFar_120 ?_
    refine lv_iload_n hx hb dX11_findFar_121 rfl (lv_at hl 3 rfl) ?_
    refine lv_iadd hx hb dX11_findFar_122 ?_
    refine mld_23 zc hK hM hw.1 dX11_findFar_123 ?_
    have hw := hw.2
    refine lv_aload_n hx hb dX11_findFar_124 rfl (lv_at hl 0 rfl) ?_
    refine mg_11_78_0 zc hK hM dX11_findFar_125 ?_
    refine lv_bipush (v := (9 : Int32)) hx hb dX11_findFar_128 (by decide) ?_
    refine lv_iload_n hx hb dX11_findFar_130 rfl (lv_at hl 2 rfl) ?_
    refine lv_imul hx hb dX11_findFar_131 ?_
    refine lv_iload_n hx hb dX11_findFar_132 rfl (lv_at hl 1 rfl) ?_
    refine lv_iadd hx hb dX11_findFar_133 ?_
    refine mld_23 zc hK hM hw.1 dX11_findFar_134 ?_
    have hw := hw.2
    refine lv_aload_n hx hb dX11_findFar_135 rfl (lv_at hl 0 rfl) ?_
    refine mg_11_78_0 zc hK hM dX11_findFar_136 ?_
    refine lv_bipush (v := (9 : Int32)) hx hb dX11_findFar_139 (by decide) ?_
    refine lv_iload_n hx hb dX11_findFar_141 rfl (lv_at hl 1 rfl) ?_
    refine lv_imul hx hb dX11_findFar_142 ?_
    refine lv_iload_n hx hb dX11_findFar_143 rfl (lv_at hl 3 rfl) ?_
    refine lv_iadd hx hb dX11_findFar_144 ?_
    refine mld_23 zc hK hM hw.1 dX11_findFar_145 ?_
    have hw := hw.2
    refine lv_iadd hx hb dX11_findFar_146 ?_
    refine zS_i [.int (a_far (Int32.toNatClampNeg (((9 : Int32) * x2) + x3))), .int ((a_far (Int32.toNatClampNeg (((9 : Int32) * x2) + x1))) + (a_far (Int32.toNatClampNeg (((9 : Int32) * x1) + x3))))] [.int (((9 : Int32) * x2) + x3), .ref (q + 23)] zc ky_X11_lesser kz_X11_lesser km_11_411 (c_m_lesser l hw) (zPre0 _) rfl rfl hl.1 (Nat.le_of_ble_eq_true rfl) ⟨rfl, rfl⟩ ⟨Nat.le_of_ble_eq_true rfl, Nat.le_of_ble_eq_true rfl⟩ ⟨(Nat.zero_le _), (Nat.zero_le _)⟩ dX11_findFar_147 (fun r_1 hw => ?_)
    refine mst_23 zc hK hM hS hw.1 dX11_findFar_150 (fun a_far_1 H locs ea_far_1 hM hS => ?_)
    have hw := hw.2 a_far_1 ea_far_1
    obtain ⟨v_2, ev_2⟩ : ∃ y : Int32, y = x3 + (1 : Int32) := ⟨_, rfl⟩
    have hw := hw v_2 ev_2
    refine lv_iinc (v := v_2) (k := 3) (lv' := [(3, .int v_2), (0, .ref q), (1, .int x1), (2, .int x2)]) hx hb dX11_findFar_151 hl rfl (by rw [ev_2]; rfl) (by decide) rfl (fun ls hl => ?_)
    refine lv_goto (tgt := 95) hx hb dX11_findFar_154 (by decide) ?_
    exact hw _ _ _ (lv_sub hl [1, 2, 3, 0] rfl) hM hS
set_option maxRecDepth 20000 in
theorem t_m_findFar_85 {p : Program} {l : Launch} {e : Env} {s : State} {m : MethodId} {args : Array Value} {below : List Frame} {meth : Method} {c : Code} {E : zE} {q : Nat} {f_code : Int32} {a_tape : Nat → Int32} {a_size : Nat → Int32} {a_fault : Nat → Int32} {a_faultPlace : Nat → Int32} {a_many : Nat → Int32} {a_lands : Nat → Int32} {a_evenings : Nat → Int32} {a_sights : Nat → Int32} {a_choirs : Nat → Int32} {f_reached : Int32} {f_length : Int32} {f_begins : Int32} {f_sort : Int32} {f_value : Int32} {f_word : Int64} {f_wrongAt : Int32} {f_laterFault : Int32} {f_laterPlace : Int32} {a_told : Nat → Int32} {a_read : Nat → Int32} {f_farHut : Int32} {f_farSinger : Int32} {f_good : Int32} {f_land : Int32} {f_huts : Int32} {f_singers : Int32} {f_evening : Int32} {a_at : Nat → Int32} {a_knows : Nat → Int32} {a_climbed : Nat → Int32} {a_snow : Nat → Int32} {a_level : Nat → Int32} {f_begun : Int32} {f_minute : Int32} {f_avalanches : Int32} {a_run : Nat → Int32} {a_covers : Nat → Int32} {a_routes : Nat → Int32} {a_longest : Nat → Int32} {a_steep : Nat → Int32} {a_laid : Nat → Int32} {a_far : Nat → Int32} {f_sight : Int32} {a_runs : Nat → Int32} {f_choir : Int32} {f_voices : Int32} {a_rest : Nat → Int64} {a_wins : Nat → Int32} {f_seed : Int32} {a_other : Nat → Int32} {a_kept : Nat → Int32} {P75 : Int32 → (Nat → Int32) → Prop} {post : (Nat → Int32) → Prop} {x1 : Int32} {x2 : Int32} {ls : Array Slot} {H : Heap} {locs : List Loc}
    (zc : zC p s m args meth c cX11_findFar 4 RX11 none)
    (hK : zK E s)
    (hM : mW E q f_code a_tape a_size a_fault a_faultPlace a_many a_lands a_evenings a_sights a_choirs f_reached f_length f_begins f_sort f_value f_word f_wrongAt f_laterFault f_laterPlace a_told a_read f_farHut f_farSinger f_good f_land f_huts f_singers f_evening a_at a_knows a_climbed a_snow a_level f_begun f_minute f_avalanches a_run a_covers a_routes a_longest a_steep a_laid a_far f_sight a_runs f_choir f_voices a_rest a_wins f_seed a_other a_kept H)
    (hS : va_S (mA q) s.heap H locs)
    (hP75 : ∀ (x1 : Int32) (a_far : Nat → Int32) (H : Heap) (locs : List Loc) (ls : Array Slot), P75 x1 a_far → lv_has ls 4 [(0, .ref q), (1, .int x1)] → mW E q f_code a_tape a_size a_fault a_faultPlace a_many a_lands a_evenings a_sights a_choirs f_reached f_length f_begins f_sort f_value f_word f_wrongAt f_laterFault f_laterPlace a_told a_read f_farHut f_farSinger f_good f_land f_huts f_singers f_evening a_at a_knows a_climbed a_snow a_level f_begun f_minute f_avalanches a_run a_covers a_routes a_longest a_steep a_laid a_far f_sight a_runs f_choir f_voices a_rest a_wins f_seed a_other a_kept H → va_S (mA q) s.heap H locs → W p l e rm_m_findFar s m args below meth c H locs 0 0 (MQ below (zQv (S := (Nat → Int32)) (fun u => post u) (fun u H => mW E q f_code a_tape a_size a_fault a_faultPlace a_many a_lands a_evenings a_sights a_choirs f_reached f_length f_begins f_sort f_value f_word f_wrongAt f_laterFault f_laterPlace a_told a_read f_farHut f_farSinger f_good f_land f_huts f_singers f_evening a_at a_knows a_climbed a_snow a_level f_begun f_minute f_avalanches a_run a_covers a_routes a_longest a_steep a_laid u f_sight a_runs f_choir f_voices a_rest a_wins f_seed a_other a_kept H) (mA q)) args s 0 0 (mA q)) (F0 m 75 ls []))
    (hl : lv_has ls 4 [(0, .ref q), (1, .int x1), (2, .int x2)])
    (hw : q_m_findFar_85 P75 a_lands f_land f_huts a_far x1 x2 post) :
    W p l e rm_m_findFar s m args below meth c H locs 0 0 (MQ below (zQv (S := (Nat → Int32)) (fun u => post u) (fun u H => mW E q f_code a_tape a_size a_fault a_faultPlace a_many a_lands a_evenings a_sights a_choirs f_reached f_length f_begins f_sort f_value f_word f_wrongAt f_laterFault f_laterPlace a_told a_read f_farHut f_farSinger f_good f_land f_huts f_singers f_evening a_at a_knows a_climbed a_snow a_level f_begun f_minute f_avalanches a_run a_covers a_routes a_longest a_steep a_laid u f_sight a_runs f_choir f_voices a_rest a_wins f_seed a_other a_kept H) (mA q)) args s 0 0 (mA q)) (F0 m 85 ls []) := by
  have hx := zc.1
  have hb := zc.2.1
  refine hw (fun x2 a_far => ∀ (H : Heap) (locs : List Loc) (ls : Array Slot), lv_has ls 4 [(0, .ref q), (1, .int x1), (2, .int x2)] → mW E q f_code a_tape a_size a_fault a_faultPlace a_many a_lands a_evenings a_sights a_choirs f_reached f_length f_begins f_sort f_value f_word f_wrongAt f_laterFault f_laterPlace a_told a_read f_farHut f_farSinger f_good f_land f_huts f_singers f_evening a_at a_knows a_climbed a_snow a_level f_begun f_minute f_avalanches a_run a_covers a_routes a_longest a_steep a_laid a_far f_sight a_runs f_choir f_voices a_rest a_wins f_seed a_other a_kept H → va_S (mA q) s.heap H locs → W p l e rm_m_findFar s m args below meth c H locs 0 0 (MQ below (zQv (S := (Nat → Int32)) (fun u => post u) (fun u H => mW E q f_code a_tape a_size a_fault a_faultPlace a_many a_lands a_evenings a_sights a_choirs f_reached f_length f_begins f_sort f_value f_word f_wrongAt f_laterFault f_laterPlace a_told a_read f_farHut f_farSinger f_good f_land f_huts f_singers f_evening a_at a_knows a_climbed a_snow a_level f_begun f_minute f_avalanches a_run a_covers a_routes a_longest a_steep a_laid u f_sight a_runs f_choir f_voices a_rest a_wins f_seed a_other a_kept H) (mA q)) args s 0 0 (mA q)) (F0 m 85 ls [])) ?_ _ _ _ hl hM hS
  intro x2 a_far hw H locs ls hl hM hS
  refine lv_iload_n hx hb dX11_findFar_85 rfl (lv_at hl 2 rfl) ?_
  refine lv_aload_n hx hb dX11_findFar_86 rfl (lv_at hl 0 rfl) ?_
  refine mg_11_307_0 zc hK hM dX11_findFar_87 ?_
  refine lv_icmp_ge (tgt := 163) hx hb dX11_findFar_90 (by decide) (fun hc => ?_) (fun hc => ?_)
  · have hw := hw.1 hc
    obtain ⟨v_1, ev_1⟩ : ∃ y : Int32, y = x1 + (1 : Int32) := ⟨_, rfl⟩
    have hw := hw v_1 ev_1
    refine lv_iinc (v := v_1) (k := 1) (lv' := [(1, .int v_1), (0, .ref q), (2, .int x2)]) hx hb dX11_findFar_163 hl rfl (by rw [ev_1]; rfl) (by decide) rfl (fun ls hl => ?_)
    refine lv_goto (tgt := 75) hx hb dX11_findFar_166 (by decide) ?_
    exact hP75 _ _ _ _ _ hw (lv_sub hl [1, 0] rfl) hM hS
  · have hw := hw.2 hc
    refine lv_iconst (v := (0 : Int32)) hx hb dX11_findFar_93 (by decide) ?_
    refine lv_istore_n (lv' := [(3, .int (0 : Int32)), (0, .ref q), (1, .int x1), (2, .int x2)]) hx hb dX11_findFar_94 rfl hl (by decide) rfl (fun ls hl => ?_)
    exact t_m_findFar_95 zc hK hM hS hP75 (fun _ _ H locs ls h hl hM hS => h H locs ls hl hM hS) (lv_sub hl [1, 2, 3, 0] rfl) hw
set_option maxRecDepth 20000 in
theorem t_m_findFar_75 {p : Program} {l : Launch} {e : Env} {s : State} {m : MethodId} {args : Array Value} {below : List Frame} {meth : Method} {c : Code} {E : zE} {q : Nat} {f_code : Int32} {a_tape : Nat → Int32} {a_size : Nat → Int32} {a_fault : Nat → Int32} {a_faultPlace : Nat → Int32} {a_many : Nat → Int32} {a_lands : Nat → Int32} {a_evenings : Nat → Int32} {a_sights : Nat → Int32} {a_choirs : Nat → Int32} {f_reached : Int32} {f_length : Int32} {f_begins : Int32} {f_sort : Int32} {f_value : Int32} {f_word : Int64} {f_wrongAt : Int32} {f_laterFault : Int32} {f_laterPlace : Int32} {a_told : Nat → Int32} {a_read : Nat → Int32} {f_farHut : Int32} {f_farSinger : Int32} {f_good : Int32} {f_land : Int32} {f_huts : Int32} {f_singers : Int32} {f_evening : Int32} {a_at : Nat → Int32} {a_knows : Nat → Int32} {a_climbed : Nat → Int32} {a_snow : Nat → Int32} {a_level : Nat → Int32} {f_begun : Int32} {f_minute : Int32} {f_avalanches : Int32} {a_run : Nat → Int32} {a_covers : Nat → Int32} {a_routes : Nat → Int32} {a_longest : Nat → Int32} {a_steep : Nat → Int32} {a_laid : Nat → Int32} {a_far : Nat → Int32} {f_sight : Int32} {a_runs : Nat → Int32} {f_choir : Int32} {f_voices : Int32} {a_rest : Nat → Int64} {a_wins : Nat → Int32} {f_seed : Int32} {a_other : Nat → Int32} {a_kept : Nat → Int32} {post : (Nat → Int32) → Prop} {x1 : Int32} {ls : Array Slot} {H : Heap} {locs : List Loc}
    (zc : zC p s m args meth c cX11_findFar 4 RX11 none)
    (hK : zK E s)
    (hM : mW E q f_code a_tape a_size a_fault a_faultPlace a_many a_lands a_evenings a_sights a_choirs f_reached f_length f_begins f_sort f_value f_word f_wrongAt f_laterFault f_laterPlace a_told a_read f_farHut f_farSinger f_good f_land f_huts f_singers f_evening a_at a_knows a_climbed a_snow a_level f_begun f_minute f_avalanches a_run a_covers a_routes a_longest a_steep a_laid a_far f_sight a_runs f_choir f_voices a_rest a_wins f_seed a_other a_kept H)
    (hS : va_S (mA q) s.heap H locs)
    (hl : lv_has ls 4 [(0, .ref q), (1, .int x1)])
    (hw : q_m_findFar_75 a_lands f_land f_huts a_far x1 post) :
    W p l e rm_m_findFar s m args below meth c H locs 0 0 (MQ below (zQv (S := (Nat → Int32)) (fun u => post u) (fun u H => mW E q f_code a_tape a_size a_fault a_faultPlace a_many a_lands a_evenings a_sights a_choirs f_reached f_length f_begins f_sort f_value f_word f_wrongAt f_laterFault f_laterPlace a_told a_read f_farHut f_farSinger f_good f_land f_huts f_singers f_evening a_at a_knows a_climbed a_snow a_level f_begun f_minute f_avalanches a_run a_covers a_routes a_longest a_steep a_laid u f_sight a_runs f_choir f_voices a_rest a_wins f_seed a_other a_kept H) (mA q)) args s 0 0 (mA q)) (F0 m 75 ls []) := by
  have hx := zc.1
  have hb := zc.2.1
  refine hw (fun x1 a_far => ∀ (H : Heap) (locs : List Loc) (ls : Array Slot), lv_has ls 4 [(0, .ref q), (1, .int x1)] → mW E q f_code a_tape a_size a_fault a_faultPlace a_many a_lands a_evenings a_sights a_choirs f_reached f_length f_begins f_sort f_value f_word f_wrongAt f_laterFault f_laterPlace a_told a_read f_farHut f_farSinger f_good f_land f_huts f_singers f_evening a_at a_knows a_climbed a_snow a_level f_begun f_minute f_avalanches a_run a_covers a_routes a_longest a_steep a_laid a_far f_sight a_runs f_choir f_voices a_rest a_wins f_seed a_other a_kept H → va_S (mA q) s.heap H locs → W p l e rm_m_findFar s m args below meth c H locs 0 0 (MQ below (zQv (S := (Nat → Int32)) (fun u => post u) (fun u H => mW E q f_code a_tape a_size a_fault a_faultPlace a_many a_lands a_evenings a_sights a_choirs f_reached f_length f_begins f_sort f_value f_word f_wrongAt f_laterFault f_laterPlace a_told a_read f_farHut f_farSinger f_good f_land f_huts f_singers f_evening a_at a_knows a_climbed a_snow a_level f_begun f_minute f_avalanches a_run a_covers a_routes a_longest a_steep a_laid u f_sight a_runs f_choir f_voices a_rest a_wins f_seed a_other a_kept H) (mA q)) args s 0 0 (mA q)) (F0 m 75 ls [])) ?_ _ _ _ hl hM hS
  intro x1 a_far hw H locs ls hl hM hS
  refine lv_iload_n hx hb dX11_findFar_75 rfl (lv_at hl 1 rfl) ?_
  refine lv_aload_n hx hb dX11_findFar_76 rfl (lv_at hl 0 rfl) ?_
  refine mg_11_307_0 zc hK hM dX11_findFar_77 ?_
  refine lv_icmp_ge (tgt := 169) hx hb dX11_findFar_80 (by decide) (fun hc => ?_) (fun hc => ?_)
  · have hw := hw.1 hc
    exact zret_vw a_far zc hS hw hM dX11_findFar_169
  · have hw := hw.2 hc
    refine lv_iconst (v := (0 : Int32)) hx hb dX11_findFar_83 (by decide) ?_
    refine lv_istore_n (lv' := [(2, .int (0 : Int32)), (0, .ref q), (1, .int x1)]) hx hb dX11_findFar_84 rfl hl (by decide) rfl (fun ls hl => ?_)
    exact t_m_findFar_85 zc hK hM hS (fun _ _ H locs ls h hl hM hS => h H locs ls hl hM hS) (lv_sub hl [1, 2, 0] rfl) hw
set_option maxRecDepth 20000 in
theorem t_m_findFar_2 {p : Program} {l : Launch} {e : Env} {s : State} {m : MethodId} {args : Array Value} {below : List Frame} {meth : Method} {c : Code} {E : zE} {q : Nat} {f_code : Int32} {a_tape : Nat → Int32} {a_size : Nat → Int32} {a_fault : Nat → Int32} {a_faultPlace : Nat → Int32} {a_many : Nat → Int32} {a_lands : Nat → Int32} {a_evenings : Nat → Int32} {a_sights : Nat → Int32} {a_choirs : Nat → Int32} {f_reached : Int32} {f_length : Int32} {f_begins : Int32} {f_sort : Int32} {f_value : Int32} {f_word : Int64} {f_wrongAt : Int32} {f_laterFault : Int32} {f_laterPlace : Int32} {a_told : Nat → Int32} {a_read : Nat → Int32} {f_farHut : Int32} {f_farSinger : Int32} {f_good : Int32} {f_land : Int32} {f_huts : Int32} {f_singers : Int32} {f_evening : Int32} {a_at : Nat → Int32} {a_knows : Nat → Int32} {a_climbed : Nat → Int32} {a_snow : Nat → Int32} {a_level : Nat → Int32} {f_begun : Int32} {f_minute : Int32} {f_avalanches : Int32} {a_run : Nat → Int32} {a_covers : Nat → Int32} {a_routes : Nat → Int32} {a_longest : Nat → Int32} {a_steep : Nat → Int32} {a_laid : Nat → Int32} {a_far : Nat → Int32} {f_sight : Int32} {a_runs : Nat → Int32} {f_choir : Int32} {f_voices : Int32} {a_rest : Nat → Int64} {a_wins : Nat → Int32} {f_seed : Int32} {a_other : Nat → Int32} {a_kept : Nat → Int32} {post : (Nat → Int32) → Prop} {x1 : Int32} {ls : Array Slot} {H : Heap} {locs : List Loc}
    (zc : zC p s m args meth c cX11_findFar 4 RX11 none)
    (hK : zK E s)
    (hM : mW E q f_code a_tape a_size a_fault a_faultPlace a_many a_lands a_evenings a_sights a_choirs f_reached f_length f_begins f_sort f_value f_word f_wrongAt f_laterFault f_laterPlace a_told a_read f_farHut f_farSinger f_good f_land f_huts f_singers f_evening a_at a_knows a_climbed a_snow a_level f_begun f_minute f_avalanches a_run a_covers a_routes a_longest a_steep a_laid a_far f_sight a_runs f_choir f_voices a_rest a_wins f_seed a_other a_kept H)
    (hS : va_S (mA q) s.heap H locs)
    (hl : lv_has ls 4 [(0, .ref q), (1, .int x1)])
    (hw : q_m_findFar_2 a_lands f_land f_huts a_far x1 post) :
    W p l e rm_m_findFar s m args below meth c H locs 0 0 (MQ below (zQv (S := (Nat → Int32)) (fun u => post u) (fun u H => mW E q f_code a_tape a_size a_fault a_faultPlace a_many a_lands a_evenings a_sights a_choirs f_reached f_length f_begins f_sort f_value f_word f_wrongAt f_laterFault f_laterPlace a_told a_read f_farHut f_farSinger f_good f_land f_huts f_singers f_evening a_at a_knows a_climbed a_snow a_level f_begun f_minute f_avalanches a_run a_covers a_routes a_longest a_steep a_laid u f_sight a_runs f_choir f_voices a_rest a_wins f_seed a_other a_kept H) (mA q)) args s 0 0 (mA q)) (F0 m 2 ls []) := by
  have hx := zc.1
  have hb := zc.2.1
  refine hw (fun x1 a_far => ∀ (H : Heap) (locs : List Loc) (ls : Array Slot), lv_has ls 4 [(0, .ref q), (1, .int x1)] → mW E q f_code a_tape a_size a_fault a_faultPlace a_many a_lands a_evenings a_sights a_choirs f_reached f_length f_begins f_sort f_value f_word f_wrongAt f_laterFault f_laterPlace a_told a_read f_farHut f_farSinger f_good f_land f_huts f_singers f_evening a_at a_knows a_climbed a_snow a_level f_begun f_minute f_avalanches a_run a_covers a_routes a_longest a_steep a_laid a_far f_sight a_runs f_choir f_voices a_rest a_wins f_seed a_other a_kept H → va_S (mA q) s.heap H locs → W p l e rm_m_findFar s m args below meth c H locs 0 0 (MQ below (zQv (S := (Nat → Int32)) (fun u => post u) (fun u H => mW E q f_code a_tape a_size a_fault a_faultPlace a_many a_lands a_evenings a_sights a_choirs f_reached f_length f_begins f_sort f_value f_word f_wrongAt f_laterFault f_laterPlace a_told a_read f_farHut f_farSinger f_good f_land f_huts f_singers f_evening a_at a_knows a_climbed a_snow a_level f_begun f_minute f_avalanches a_run a_covers a_routes a_longest a_steep a_laid u f_sight a_runs f_choir f_voices a_rest a_wins f_seed a_other a_kept H) (mA q)) args s 0 0 (mA q)) (F0 m 2 ls [])) ?_ _ _ _ hl hM hS
  intro x1 a_far hw H locs ls hl hM hS
  refine lv_iload_n hx hb dX11_findFar_2 rfl (lv_at hl 1 rfl) ?_
  refine lv_aload_n hx hb dX11_findFar_3 rfl (lv_at hl 0 rfl) ?_
  refine mg_11_307_0 zc hK hM dX11_findFar_4 ?_
  refine lv_icmp_ge (tgt := 73) hx hb dX11_findFar_7 (by decide) (fun hc => ?_) (fun hc => ?_)
  · have hw := hw.1 hc
    refine lv_iconst (v := (0 : Int32)) hx hb dX11_findFar_73 (by decide) ?_
    refine lv_istore_n (lv' := [(1, .int (0 : Int32)), (0, .ref q)]) hx hb dX11_findFar_74 rfl hl (by decide) rfl (fun ls hl => ?_)
    exact t_m_findFar_75 zc hK hM hS  (lv_sub hl [1, 0] rfl) hw
  · have hw := hw.2 hc
    refine lv_iconst (v := (0 : Int32)) hx hb dX11_findFar_10 (by decide) ?_
    refine lv_istore_n (lv' := [(2, .int (0 : Int32)), (0, .ref q), (1, .int x1)]) hx hb dX11_findFar_11 rfl hl (by decide) rfl (fun ls hl => ?_)
    exact t_m_findFar_12 zc hK hM hS (fun _ _ H locs ls h hl hM hS => h H locs ls hl hM hS) (lv_sub hl [1, 2, 0] rfl) hw
set_option maxRecDepth 20000 in
theorem t_m_findFar_0 {p : Program} {l : Launch} {e : Env} {s : State} {m : MethodId} {args : Array Value} {below : List Frame} {meth : Method} {c : Code} {E : zE} {q : Nat} {f_code : Int32} {a_tape : Nat → Int32} {a_size : Nat → Int32} {a_fault : Nat → Int32} {a_faultPlace : Nat → Int32} {a_many : Nat → Int32} {a_lands : Nat → Int32} {a_evenings : Nat → Int32} {a_sights : Nat → Int32} {a_choirs : Nat → Int32} {f_reached : Int32} {f_length : Int32} {f_begins : Int32} {f_sort : Int32} {f_value : Int32} {f_word : Int64} {f_wrongAt : Int32} {f_laterFault : Int32} {f_laterPlace : Int32} {a_told : Nat → Int32} {a_read : Nat → Int32} {f_farHut : Int32} {f_farSinger : Int32} {f_good : Int32} {f_land : Int32} {f_huts : Int32} {f_singers : Int32} {f_evening : Int32} {a_at : Nat → Int32} {a_knows : Nat → Int32} {a_climbed : Nat → Int32} {a_snow : Nat → Int32} {a_level : Nat → Int32} {f_begun : Int32} {f_minute : Int32} {f_avalanches : Int32} {a_run : Nat → Int32} {a_covers : Nat → Int32} {a_routes : Nat → Int32} {a_longest : Nat → Int32} {a_steep : Nat → Int32} {a_laid : Nat → Int32} {a_far : Nat → Int32} {f_sight : Int32} {a_runs : Nat → Int32} {f_choir : Int32} {f_voices : Int32} {a_rest : Nat → Int64} {a_wins : Nat → Int32} {f_seed : Int32} {a_other : Nat → Int32} {a_kept : Nat → Int32} {post : (Nat → Int32) → Prop} {ls : Array Slot} {H : Heap} {locs : List Loc}
    (zc : zC p s m args meth c cX11_findFar 4 RX11 none)
    (hK : zK E s)
    (hM : mW E q f_code a_tape a_size a_fault a_faultPlace a_many a_lands a_evenings a_sights a_choirs f_reached f_length f_begins f_sort f_value f_word f_wrongAt f_laterFault f_laterPlace a_told a_read f_farHut f_farSinger f_good f_land f_huts f_singers f_evening a_at a_knows a_climbed a_snow a_level f_begun f_minute f_avalanches a_run a_covers a_routes a_longest a_steep a_laid a_far f_sight a_runs f_choir f_voices a_rest a_wins f_seed a_other a_kept H)
    (hS : va_S (mA q) s.heap H locs)
    (hl : lv_has ls 4 [(0, .ref q)])
    (hw : q_m_findFar_0 a_lands f_land f_huts a_far post) :
    W p l e rm_m_findFar s m args below meth c H locs 0 0 (MQ below (zQv (S := (Nat → Int32)) (fun u => post u) (fun u H => mW E q f_code a_tape a_size a_fault a_faultPlace a_many a_lands a_evenings a_sights a_choirs f_reached f_length f_begins f_sort f_value f_word f_wrongAt f_laterFault f_laterPlace a_told a_read f_farHut f_farSinger f_good f_land f_huts f_singers f_evening a_at a_knows a_climbed a_snow a_level f_begun f_minute f_avalanches a_run a_covers a_routes a_longest a_steep a_laid u f_sight a_runs f_choir f_voices a_rest a_wins f_seed a_other a_kept H) (mA q)) args s 0 0 (mA q)) (F0 m 0 ls []) := by
  have hx := zc.1
  have hb := zc.2.1
  refine lv_iconst (v := (0 : Int32)) hx hb dX11_findFar_0 (by decide) ?_
  refine lv_istore_n (lv' := [(1, .int (0 : Int32)), (0, .ref q)]) hx hb dX11_findFar_1 rfl hl (by decide) rfl (fun ls hl => ?_)
  exact t_m_findFar_2 zc hK hM hS  (lv_sub hl [1, 0] rfl) hw
set_option maxRecDepth 20000 in
theorem c_m_findFar (l : Launch) {E : zE} {q : Nat} {f_code : Int32} {a_tape : Nat → Int32} {a_size : Nat → Int32} {a_fault : Nat → Int32} {a_faultPlace : Nat → Int32} {a_many : Nat → Int32} {a_lands : Nat → Int32} {a_evenings : Nat → Int32} {a_sights : Nat → Int32} {a_choirs : Nat → Int32} {f_reached : Int32} {f_length : Int32} {f_begins : Int32} {f_sort : Int32} {f_value : Int32} {f_word : Int64} {f_wrongAt : Int32} {f_laterFault : Int32} {f_laterPlace : Int32} {a_told : Nat → Int32} {a_read : Nat → Int32} {f_farHut : Int32} {f_farSinger : Int32} {f_good : Int32} {f_land : Int32} {f_huts : Int32} {f_singers : Int32} {f_evening : Int32} {a_at : Nat → Int32} {a_knows : Nat → Int32} {a_climbed : Nat → Int32} {a_snow : Nat → Int32} {a_level : Nat → Int32} {f_begun : Int32} {f_minute : Int32} {f_avalanches : Int32} {a_run : Nat → Int32} {a_covers : Nat → Int32} {a_routes : Nat → Int32} {a_longest : Nat → Int32} {a_steep : Nat → Int32} {a_laid : Nat → Int32} {a_far : Nat → Int32} {f_sight : Int32} {a_runs : Nat → Int32} {f_choir : Int32} {f_voices : Int32} {a_rest : Nat → Int64} {a_wins : Nat → Int32} {f_seed : Int32} {a_other : Nat → Int32} {a_kept : Nat → Int32} {post : (Nat → Int32) → Prop} (hw : q_m_findFar_0 a_lands f_land f_huts a_far post) : Met l yX11_findFar (Cond.code yX11_findFar cX11_findFar 4 none :: zb) rm_m_findFar (va_Pc [.ref q] (fun U => mW E q f_code a_tape a_size a_fault a_faultPlace a_many a_lands a_evenings a_sights a_choirs f_reached f_length f_begins f_sort f_value f_word f_wrongAt f_laterFault f_laterPlace a_told a_read f_farHut f_farSinger f_good f_land f_huts f_singers f_evening a_at a_knows a_climbed a_snow a_level f_begun f_minute f_avalanches a_run a_covers a_routes a_longest a_steep a_laid a_far f_sight a_runs f_choir f_voices a_rest a_wins f_seed a_other a_kept U.heap ∧ zK E U)) (zQv (S := (Nat → Int32)) (fun u => post u) (fun u H => mW E q f_code a_tape a_size a_fault a_faultPlace a_many a_lands a_evenings a_sights a_choirs f_reached f_length f_begins f_sort f_value f_word f_wrongAt f_laterFault f_laterPlace a_told a_read f_farHut f_farSinger f_good f_land f_huts f_singers f_evening a_at a_knows a_climbed a_snow a_level f_begun f_minute f_avalanches a_run a_covers a_routes a_longest a_steep a_laid u f_sight a_runs f_choir f_voices a_rest a_wins f_seed a_other a_kept H) (mA q)) 0 0 (mA q) := by
  refine Met.ofW (cc := cX11_findFar) (maxL := 4) (ret := none) (by decide) rfl ?_
  intro p e s m args below meth c s₁ B hml hv
  obtain ⟨rfl, hM, hK⟩ := hv
  have zc := zc_of B hml
  have hl := lv_entry ([.ref q]) (n := 4) (Nat.le_of_ble_eq_true rfl)
  rw [lg_entry_eq]
  generalize (lg_sl ([.ref q]) ++ List.replicate (4 - (lg_sl ([.ref q])).length) Slot.unset).toArray = ls at hl ⊢
  have hl : lv_has ls 4 [(0, .ref q)] := hl
  exact t_m_findFar_0 zc hK hM va_S.rf (lv_sub hl [0] rfl) hw
-- m_masses
abbrev rm_m_masses : Room := { frames := 3, cells := 0, slots := 0, locals := 69 }
def q_m_masses_94 (P32 : Int32 → (Nat → Int32) → Prop) (P52 : Int32 → (Nat → Int32) → Prop) (f_code : Int32) (a_many : Nat → Int32) (a_lands : Nat → Int32) (f_land : Int32) (f_huts : Int32) (f_singers : Int32) (a_covers : Nat → Int32) (a_far : Nat → Int32) (x2 : Int32) (x3 : Int32) (x4 : Int32) (x5 : Int32) (y0 : Int32) (y1 : Int32) (y2 : Int32) (post : Int32 → (Int32) → (Int32) → (Int32) → (Int32) → (Nat → Int32) → (Nat → Int32) → Prop) : Prop :=
  ∀ v_1 : Int32, v_1 = (y1 ||| y2) → (vp_in y0 9 ∧ (∀ a_covers_1 : Nat → Int32, a_covers_1 = upd a_covers (Int32.toNatClampNeg y0) v_1 → (∀ v_2 : Int32, v_2 = x5 + (1 : Int32) → (P52 v_2 a_covers_1))))
def q_m_masses_52 (P32 : Int32 → (Nat → Int32) → Prop) (f_code : Int32) (a_many : Nat → Int32) (a_lands : Nat → Int32) (f_land : Int32) (f_huts : Int32) (f_singers : Int32) (a_covers : Nat → Int32) (a_far : Nat → Int32) (x2 : Int32) (x3 : Int32) (x4 : Int32) (x5 : Int32) (post : Int32 → (Int32) → (Int32) → (Int32) → (Int32) → (Nat → Int32) → (Nat → Int32) → Prop) : Prop :=
  ∀ P52 : Int32 → (Nat → Int32) → Prop, (∀ (x5 : Int32) (a_covers : Nat → Int32), ((f_huts ≤ x5 → (∀ v_1 : Int32, v_1 = x4 + (1 : Int32) → (P32 v_1 a_covers))) ∧ (¬ f_huts ≤ x5 → (vp_in x4 9 ∧ (vp_in (((9 : Int32) * x4) + x5) 81 ∧ ((x2 < (a_far (Int32.toNatClampNeg (((9 : Int32) * x4) + x5))) → (q_m_masses_94 P32 P52 f_code a_many a_lands f_land f_huts f_singers a_covers a_far x2 x3 x4 x5 x4 (a_covers (Int32.toNatClampNeg x4)) (0 : Int32) post)) ∧ (¬ x2 < (a_far (Int32.toNatClampNeg (((9 : Int32) * x4) + x5))) → (q_m_masses_94 P32 P52 f_code a_many a_lands f_land f_huts f_singers a_covers a_far x2 x3 x4 x5 x4 (a_covers (Int32.toNatClampNeg x4)) ((1 : Int32) <<< (x5 &&& 31)) post))))))) → P52 x5 a_covers) → P52 x5 a_covers
def q_m_masses_32 (f_code : Int32) (a_many : Nat → Int32) (a_lands : Nat → Int32) (f_land : Int32) (f_huts : Int32) (f_singers : Int32) (a_covers : Nat → Int32) (a_far : Nat → Int32) (x2 : Int32) (x3 : Int32) (x4 : Int32) (post : Int32 → (Int32) → (Int32) → (Int32) → (Int32) → (Nat → Int32) → (Nat → Int32) → Prop) : Prop :=
  ∀ P32 : Int32 → (Nat → Int32) → Prop, (∀ (x4 : Int32) (a_covers : Nat → Int32), ((f_huts ≤ x4 → (q_m_of_0 a_lands f_land (2 : Int32) (fun r_1 => q_m_fewest_0 f_huts a_covers (((1 : Int32) <<< (f_huts &&& 31)) - (1 : Int32)) r_1 (fun r_2 => (x3 = 0 → (q_m_ones_0 r_2 (fun r_3 => post r_3 f_code f_land f_huts f_singers a_covers a_far))) ∧ (¬ x3 = 0 → (post r_2 f_code f_land f_huts f_singers a_covers a_far)))))) ∧ (¬ f_huts ≤ x4 → (vp_in x4 9 ∧ (∀ a_covers_1 : Nat → Int32, a_covers_1 = upd a_covers (Int32.toNatClampNeg x4) (0 : Int32) → (q_m_masses_52 P32 f_code a_many a_lands f_land f_huts f_singers a_covers_1 a_far x2 x3 x4 (0 : Int32) post))))) → P32 x4 a_covers) → P32 x4 a_covers
def q_m_masses_0 (f_code : Int32) (a_many : Nat → Int32) (a_lands : Nat → Int32) (f_land : Int32) (f_huts : Int32) (f_singers : Int32) (a_covers : Nat → Int32) (a_far : Nat → Int32) (x1 : Int32) (x2 : Int32) (x3 : Int32) (post : Int32 → (Int32) → (Int32) → (Int32) → (Int32) → (Nat → Int32) → (Nat → Int32) → Prop) : Prop :=
  q_m_hand_0 a_many a_lands f_land f_huts f_singers x1 (fun r_1 f_land_1 f_huts_1 f_singers_1 => (r_1 = 0 → (post (-1 : Int32) (0 : Int32) f_land_1 f_huts_1 f_singers_1 a_covers a_far)) ∧ (¬ r_1 = 0 → (q_m_in_0 x2 (0 : Int32) (99 : Int32) (fun r_2 => (¬ r_2 = 0 → (q_m_findFar_0 a_lands f_land_1 f_huts_1 a_far (fun a_far_1 => q_m_masses_32 (0 : Int32) a_many a_lands f_land_1 f_huts_1 f_singers_1 a_covers a_far_1 x2 x3 (0 : Int32) post))) ∧ (r_2 = 0 → (post (-1 : Int32) (0 : Int32) f_land_1 f_huts_1 f_singers_1 a_covers a_far))))))
set_option maxRecDepth 20000 in
theorem t_m_masses_94 {p : Program} {l : Launch} {e : Env} {s : State} {m : MethodId} {args : Array Value} {below : List Frame} {meth : Method} {c : Code} {E : zE} {q : Nat} {f_code : Int32} {a_tape : Nat → Int32} {a_size : Nat → Int32} {a_fault : Nat → Int32} {a_faultPlace : Nat → Int32} {a_many : Nat → Int32} {a_lands : Nat → Int32} {a_evenings : Nat → Int32} {a_sights : Nat → Int32} {a_choirs : Nat → Int32} {f_reached : Int32} {f_length : Int32} {f_begins : Int32} {f_sort : Int32} {f_value : Int32} {f_word : Int64} {f_wrongAt : Int32} {f_laterFault : Int32} {f_laterPlace : Int32} {a_told : Nat → Int32} {a_read : Nat → Int32} {f_farHut : Int32} {f_farSinger : Int32} {f_good : Int32} {f_land : Int32} {f_huts : Int32} {f_singers : Int32} {f_evening : Int32} {a_at : Nat → Int32} {a_knows : Nat → Int32} {a_climbed : Nat → Int32} {a_snow : Nat → Int32} {a_level : Nat → Int32} {f_begun : Int32} {f_minute : Int32} {f_avalanches : Int32} {a_run : Nat → Int32} {a_covers : Nat → Int32} {a_routes : Nat → Int32} {a_longest : Nat → Int32} {a_steep : Nat → Int32} {a_laid : Nat → Int32} {a_far : Nat → Int32} {f_sight : Int32} {a_runs : Nat → Int32} {f_choir : Int32} {f_voices : Int32} {a_rest : Nat → Int64} {a_wins : Nat → Int32} {f_seed : Int32} {a_other : Nat → Int32} {a_kept : Nat → Int32} {P32 : Int32 → (Nat → Int32) → Prop} {P52 : Int32 → (Nat → Int32) → Prop} {post : Int32 → (Int32) → (Int32) → (Int32) → (Int32) → (Nat → Int32) → (Nat → Int32) → Prop} {x2 : Int32} {x3 : Int32} {x4 : Int32} {x5 : Int32} {y0 : Int32} {y1 : Int32} {y2 : Int32} {ls : Array Slot} {H : Heap} {locs : List Loc}
    (zc : zC p s m args meth c cX11_masses 6 RX11 (some .int))
    (hK : zK E s)
    (hM : mW E q f_code a_tape a_size a_fault a_faultPlace a_many a_lands a_evenings a_sights a_choirs f_reached f_length f_begins f_sort f_value f_word f_wrongAt f_laterFault f_laterPlace a_told a_read f_farHut f_farSinger f_good f_land f_huts f_singers f_evening a_at a_knows a_climbed a_snow a_level f_begun f_minute f_avalanches a_run a_covers a_routes a_longest a_steep a_laid a_far f_sight a_runs f_choir f_voices a_rest a_wins f_seed a_other a_kept H)
    (hS : va_S (mA q) s.heap H locs)
    (hP32 : ∀ (x4 : Int32) (a_covers : Nat → Int32) (H : Heap) (locs : List Loc) (ls : Array Slot), P32 x4 a_covers → lv_has ls 6 [(0, .ref q), (2, .int x2), (3, .int x3), (4, .int x4)] → mW E q f_code a_tape a_size a_fault a_faultPlace a_many a_lands a_evenings a_sights a_choirs f_reached f_length f_begins f_sort f_value f_word f_wrongAt f_laterFault f_laterPlace a_told a_read f_farHut f_farSinger f_good f_land f_huts f_singers f_evening a_at a_knows a_climbed a_snow a_level f_begun f_minute f_avalanches a_run a_covers a_routes a_longest a_steep a_laid a_far f_sight a_runs f_choir f_voices a_rest a_wins f_seed a_other a_kept H → va_S (mA q) s.heap H locs → W p l e rm_m_masses s m args below meth c H locs 0 0 (MQ below (zQi (S := (Int32) × (Int32) × (Int32) × (Int32) × (Nat → Int32) × (Nat → Int32)) (fun r u => post r u.1 u.2.1 u.2.2.1 u.2.2.2.1 u.2.2.2.2.1 u.2.2.2.2.2) (fun u H => mW E q u.1 a_tape a_size a_fault a_faultPlace a_many a_lands a_evenings a_sights a_choirs f_reached f_length f_begins f_sort f_value f_word f_wrongAt f_laterFault f_laterPlace a_told a_read f_farHut f_farSinger f_good u.2.1 u.2.2.1 u.2.2.2.1 f_evening a_at a_knows a_climbed a_snow a_level f_begun f_minute f_avalanches a_run u.2.2.2.2.1 a_routes a_longest a_steep a_laid u.2.2.2.2.2 f_sight a_runs f_choir f_voices a_rest a_wins f_seed a_other a_kept H) (mA q)) args s 0 0 (mA q)) (F0 m 32 ls []))
    (hP52 : ∀ (x5 : Int32) (a_covers : Nat → Int32) (H : Heap) (locs : List Loc) (ls : Array Slot), P52 x5 a_covers → lv_has ls 6 [(0, .ref q), (2, .int x2), (3, .int x3), (4, .int x4), (5, .int x5)] → mW E q f_code a_tape a_size a_fault a_faultPlace a_many a_lands a_evenings a_sights a_choirs f_reached f_length f_begins f_sort f_value f_word f_wrongAt f_laterFault f_laterPlace a_told a_read f_farHut f_farSinger f_good f_land f_huts f_singers f_evening a_at a_knows a_climbed a_snow a_level f_begun f_minute f_avalanches a_run a_covers a_routes a_longest a_steep a_laid a_far f_sight a_runs f_choir f_voices a_rest a_wins f_seed a_other a_kept H → va_S (mA q) s.heap H locs → W p l e rm_m_masses s m args below meth c H locs 0 0 (MQ below (zQi (S := (Int32) × (Int32) × (Int32) × (Int32) × (Nat → Int32) × (Nat → Int32)) (fun r u => post r u.1 u.2.1 u.2.2.1 u.2.2.2.1 u.2.2.2.2.1 u.2.2.2.2.2) (fun u H => mW E q u.1 a_tape a_size a_fault a_faultPlace a_many a_lands a_evenings a_sights a_choirs f_reached f_length f_begins f_sort f_value f_word f_wrongAt f_laterFault f_laterPlace a_told a_read f_farHut f_farSinger f_good u.2.1 u.2.2.1 u.2.2.2.1 f_evening a_at a_knows a_climbed a_snow a_level f_begun f_minute f_avalanches a_run u.2.2.2.2.1 a_routes a_longest a_steep a_laid u.2.2.2.2.2 f_sight a_runs f_choir f_voices a_rest a_wins f_seed a_other a_kept H) (mA q)) args s 0 0 (mA q)) (F0 m 52 ls []))
    (hl : lv_has ls 6 [(0, .ref q), (2, .int x2), (3, .int x3), (4, .int x4), (5, .int x5)])
    (hw : q_m_masses_94 P32 P52 f_code a_many a_lands f_land f_huts f_singers a_covers a_far x2 x3 x4 x5 y0 y1 y2 post) :
    W p l e rm_m_masses s m args below meth c H locs 0 0 (MQ below (zQi (S := (Int32) × (Int32) × (Int32) × (Int32) × (Nat → Int32) × (Nat → Int32)) (fun r u => post r u.1 u.2.1 u.2.2.1 u.2.2.2.1 u.2.2.2.2.1 u.2.2.2.2.2) (fun u H => mW E q u.1 a_tape a_size a_fault a_faultPlace a_many a_lands a_evenings a_sights a_choirs f_reached f_length f_begins f_sort f_value f_word f_wrongAt f_laterFault f_laterPlace a_told a_read f_farHut f_farSinger f_good u.2.1 u.2.2.1 u.2.2.2.1 f_evening a_at a_knows a_climbed a_snow a_level f_begun f_minute f_avalanches a_run u.2.2.2.2.1 a_routes a_longest a_steep a_laid u.2.2.2.2.2 f_sight a_runs f_choir f_voices a_rest a_wins f_seed a_other a_kept H) (mA q)) args s 0 0 (mA q)) (F0 m 94 ls [.int y2, .int y1, .int y0, .ref (q + 18)]) := by
  have hx := zc.1
  have hb := zc.2.1
  refine lv_ior hx hb dX11_masses_94 ?_
  refine lv_topi (fun v_1 ev_1 => ?_)
  have hw := hw v_1 ev_1
  refine mst_18 zc hK hM hS hw.1 dX11_masses_95 (fun a_covers_1 H locs ea_covers_1 hM hS => ?_)
  have hw := hw.2 a_covers_1 ea_covers_1
  obtain ⟨v_2, ev_2⟩ : ∃ y : Int32, y = x5 + (1 : Int32) := ⟨_, rfl⟩
  have hw := hw v_2 ev_2
  refine lv_iinc (v := v_2) (k := 4) (lv' := [(5, .int v_2), (0, .ref q), (2, .int x2), (3, .int x3), (4, .int x4)]) hx hb dX11_masses_96 hl rfl (by rw [ev_2]; rfl) (by decide) rfl (fun ls hl => ?_)
  refine lv_goto (tgt := 52) hx hb dX11_masses_99 (by decide) ?_
  exact hP52 _ _ _ _ _ hw (lv_sub hl [1, 2, 3, 4, 0] rfl) hM hS
set_option maxRecDepth 20000 in
theorem t_m_masses_52 {p : Program} {l : Launch} {e : Env} {s : State} {m : MethodId} {args : Array Value} {below : List Frame} {meth : Method} {c : Code} {E : zE} {q : Nat} {f_code : Int32} {a_tape : Nat → Int32} {a_size : Nat → Int32} {a_fault : Nat → Int32} {a_faultPlace : Nat → Int32} {a_many : Nat → Int32} {a_lands : Nat → Int32} {a_evenings : Nat → Int32} {a_sights : Nat → Int32} {a_choirs : Nat → Int32} {f_reached : Int32} {f_length : Int32} {f_begins : Int32} {f_sort : Int32} {f_value : Int32} {f_word : Int64} {f_wrongAt : Int32} {f_laterFault : Int32} {f_laterPlace : Int32} {a_told : Nat → Int32} {a_read : Nat → Int32} {f_farHut : Int32} {f_farSinger : Int32} {f_good : Int32} {f_land : Int32} {f_huts : Int32} {f_singers : Int32} {f_evening : Int32} {a_at : Nat → Int32} {a_knows : Nat → Int32} {a_climbed : Nat → Int32} {a_snow : Nat → Int32} {a_level : Nat → Int32} {f_begun : Int32} {f_minute : Int32} {f_avalanches : Int32} {a_run : Nat → Int32} {a_covers : Nat → Int32} {a_routes : Nat → Int32} {a_longest : Nat → Int32} {a_steep : Nat → Int32} {a_laid : Nat → Int32} {a_far : Nat → Int32} {f_sight : Int32} {a_runs : Nat → Int32} {f_choir : Int32} {f_voices : Int32} {a_rest : Nat → Int64} {a_wins : Nat → Int32} {f_seed : Int32} {a_other : Nat → Int32} {a_kept : Nat → Int32} {P32 : Int32 → (Nat → Int32) → Prop} {post : Int32 → (Int32) → (Int32) → (Int32) → (Int32) → (Nat → Int32) → (Nat → Int32) → Prop} {x2 : Int32} {x3 : Int32} {x4 : Int32} {x5 : Int32} {ls : Array Slot} {H : Heap} {locs : List Loc}
    (zc : zC p s m args meth c cX11_masses 6 RX11 (some .int))
    (hK : zK E s)
    (hM : mW E q f_code a_tape a_size a_fault a_faultPlace a_many a_lands a_evenings a_sights a_choirs f_reached f_length f_begins f_sort f_value f_word f_wrongAt f_laterFault f_laterPlace a_told a_read f_farHut f_farSinger f_good f_land f_huts f_singers f_evening a_at a_knows a_climbed a_snow a_level f_begun f_minute f_avalanches a_run a_covers a_routes a_longest a_steep a_laid a_far f_sight a_runs f_choir f_voices a_rest a_wins f_seed a_other a_kept H)
    (hS : va_S (mA q) s.heap H locs)
    (hP32 : ∀ (x4 : Int32) (a_covers : Nat → Int32) (H : Heap) (locs : List Loc) (ls : Array Slot), P32 x4 a_covers → lv_has ls 6 [(0, .ref q), (2, .int x2), (3, .int x3), (4, .int x4)] → mW E q f_code a_tape a_size a_fault a_faultPlace a_many a_lands a_evenings a_sights a_choirs f_reached f_length f_begins f_sort f_value f_word f_wrongAt f_laterFault f_laterPlace a_told a_read f_farHut f_farSinger f_good f_land f_huts f_singers f_evening a_at a_knows a_climbed a_snow a_level f_begun f_minute f_avalanches a_run a_covers a_routes a_longest a_steep a_laid a_far f_sight a_runs f_choir f_voices a_rest a_wins f_seed a_other a_kept H → va_S (mA q) s.heap H locs → W p l e rm_m_masses s m args below meth c H locs 0 0 (MQ below (zQi (S := (Int32) × (Int32) × (Int32) × (Int32) × (Nat → Int32) × (Nat → Int32)) (fun r u => post r u.1 u.2.1 u.2.2.1 u.2.2.2.1 u.2.2.2.2.1 u.2.2.2.2.2) (fun u H => mW E q u.1 a_tape a_size a_fault a_faultPlace a_many a_lands a_evenings a_sights a_choirs f_reached f_length f_begins f_sort f_value f_word f_wrongAt f_laterFault f_laterPlace a_told a_read f_farHut f_farSinger f_good u.2.1 u.2.2.1 u.2.2.2.1 f_evening a_at a_knows a_climbed a_snow a_level f_begun f_minute f_avalanches a_run u.2.2.2.2.1 a_routes a_longest a_steep a_laid u.2.2.2.2.2 f_sight a_runs f_choir f_voices a_rest a_wins f_seed a_other a_kept H) (mA q)) args s 0 0 (mA q)) (F0 m 32 ls []))
    (hl : lv_has ls 6 [(0, .ref q), (2, .int x2), (3, .int x3), (4, .int x4), (5, .int x5)])
    (hw : q_m_masses_52 P32 f_code a_many a_lands f_land f_huts f_singers a_covers a_far x2 x3 x4 x5 post) :
    W p l e rm_m_masses s m args below meth c H locs 0 0 (MQ below (zQi (S := (Int32) × (Int32) × (Int32) × (Int32) × (Nat → Int32) × (Nat → Int32)) (fun r u => post r u.1 u.2.1 u.2.2.1 u.2.2.2.1 u.2.2.2.2.1 u.2.2.2.2.2) (fun u H => mW E q u.1 a_tape a_size a_fault a_faultPlace a_many a_lands a_evenings a_sights a_choirs f_reached f_length f_begins f_sort f_value f_word f_wrongAt f_laterFault f_laterPlace a_told a_read f_farHut f_farSinger f_good u.2.1 u.2.2.1 u.2.2.2.1 f_evening a_at a_knows a_climbed a_snow a_level f_begun f_minute f_avalanches a_run u.2.2.2.2.1 a_routes a_longest a_steep a_laid u.2.2.2.2.2 f_sight a_runs f_choir f_voices a_rest a_wins f_seed a_other a_kept H) (mA q)) args s 0 0 (mA q)) (F0 m 52 ls []) := by
  have hx := zc.1
  have hb := zc.2.1
  refine hw (fun x5 a_covers => ∀ (H : Heap) (locs : List Loc) (ls : Array Slot), lv_has ls 6 [(0, .ref q), (2, .int x2), (3, .int x3), (4, .int x4), (5, .int x5)] → mW E q f_code a_tape a_size a_fault a_faultPlace a_many a_lands a_evenings a_sights a_choirs f_reached f_length f_begins f_sort f_value f_word f_wrongAt f_laterFault f_laterPlace a_told a_read f_farHut f_farSinger f_good f_land f_huts f_singers f_evening a_at a_knows a_climbed a_snow a_level f_begun f_minute f_avalanches a_run a_covers a_routes a_longest a_steep a_laid a_far f_sight a_runs f_choir f_voices a_rest a_wins f_seed a_other a_kept H → va_S (mA q) s.heap H locs → W p l e rm_m_masses s m args below meth c H locs 0 0 (MQ below (zQi (S := (Int32) × (Int32) × (Int32) × (Int32) × (Nat → Int32) × (Nat → Int32)) (fun r u => post r u.1 u.2.1 u.2.2.1 u.2.2.2.1 u.2.2.2.2.1 u.2.2.2.2.2) (fun u H => mW E q u.1 a_tape a_size a_fault a_faultPlace a_many a_lands a_evenings a_sights a_choirs f_reached f_length f_begins f_sort f_value f_word f_wrongAt f_laterFault f_laterPlace a_told a_read f_farHut f_farSinger f_good u.2.1 u.2.2.1 u.2.2.2.1 f_evening a_at a_knows a_climbed a_snow a_level f_begun f_minute f_avalanches a_run u.2.2.2.2.1 a_routes a_longest a_steep a_laid u.2.2.2.2.2 f_sight a_runs f_choir f_voices a_rest a_wins f_seed a_other a_kept H) (mA q)) args s 0 0 (mA q)) (F0 m 52 ls [])) ?_ _ _ _ hl hM hS
  intro x5 a_covers hw H locs ls hl hM hS
  refine lv_iload hx hb dX11_masses_52 (lv_at hl 4 rfl) ?_
  refine lv_aload_n hx hb dX11_masses_54 rfl (lv_at hl 0 rfl) ?_
  refine mg_11_307_0 zc hK hM dX11_masses_55 ?_
  refine lv_icmp_ge (tgt := 102) hx hb dX11_masses_58 (by decide) (fun hc => ?_) (fun hc => ?_)
  · have hw := hw.1 hc
    obtain ⟨v_1, ev_1⟩ : ∃ y : Int32, y = x4 + (1 : Int32) := ⟨_, rfl⟩
    have hw := hw v_1 ev_1
    refine lv_iinc (v := v_1) (k := 3) (lv' := [(4, .int v_1), (0, .ref q), (2, .int x2), (3, .int x3), (5, .int x5)]) hx hb dX11_masses_102 hl rfl (by rw [ev_1]; rfl) (by decide) rfl (fun ls hl => ?_)
    refine lv_goto (tgt := 32) hx hb dX11_masses_105 (by decide) ?_
    exact hP32 _ _ _ _ _ hw (lv_sub hl [1, 2, 3, 0] rfl) hM hS
  · have hw := hw.2 hc
    refine lv_aload_n hx hb dX11_masses_61 rfl (lv_at hl 0 rfl) ?_
    refine mg_11_62_0 zc hK hM dX11_masses_62 ?_
    refine lv_iload hx hb dX11_masses_65 (lv_at hl 3 rfl) ?_
    refine lv_dup2_11 hx hb dX11_masses_67 rfl rfl ?_
    refine mld_18 zc hK hM hw.1 dX11_masses_68 ?_
    have hw := hw.2
    refine lv_aload_n hx hb dX11_masses_69 rfl (lv_at hl 0 rfl) ?_
    refine mg_11_78_0 zc hK hM dX11_masses_70 ?_
    refine lv_bipush (v := (9 : Int32)) hx hb dX11_masses_73 (by decide) ?_
    refine lv_iload hx hb dX11_masses_75 (lv_at hl 3 rfl) ?_
    refine lv_imul hx hb dX11_masses_77 ?_
    refine lv_iload hx hb dX11_masses_78 (lv_at hl 4 rfl) ?_
    refine lv_iadd hx hb dX11_masses_80 ?_
    refine mld_23 zc hK hM hw.1 dX11_masses_81 ?_
    have hw := hw.2
    refine lv_iload_n hx hb dX11_masses_82 rfl (lv_at hl 1 rfl) ?_
    refine lv_icmp_gt (tgt := 93) hx hb dX11_masses_83 (by decide) (fun hc => ?_) (fun hc => ?_)
    · have hw := hw.1 hc
      refine lv_iconst (v := (0 : Int32)) hx hb dX11_masses_93 (by decide) ?_
      exact t_m_masses_94 zc hK hM hS hP32 (fun _ _ H locs ls h hl hM hS => h H locs ls hl hM hS) (lv_sub hl [0, 1, 2, 3, 4] rfl) hw
    · have hw := hw.2 hc
      refine lv_iconst (v := (1 : Int32)) hx hb dX11_masses_86 (by decide) ?_
      refine lv_iload hx hb dX11_masses_87 (lv_at hl 4 rfl) ?_
      refine lv_ishl hx hb dX11_masses_89 ?_
      refine lv_goto (tgt := 94) hx hb dX11_masses_90 (by decide) ?_
      exact t_m_masses_94 zc hK hM hS hP32 (fun _ _ H locs ls h hl hM hS => h H locs ls hl hM hS) (lv_sub hl [0, 1, 2, 3, 4] rfl) hw
set_option maxRecDepth 20000 in
theorem t_m_masses_32 {p : Program} {l : Launch} {e : Env} {s : State} {m : MethodId} {args : Array Value} {below : List Frame} {meth : Method} {c : Code} {E : zE} {q : Nat} {f_code : Int32} {a_tape : Nat → Int32} {a_size : Nat → Int32} {a_fault : Nat → Int32} {a_faultPlace : Nat → Int32} {a_many : Nat → Int32} {a_lands : Nat → Int32} {a_evenings : Nat → Int32} {a_sights : Nat → Int32} {a_choirs : Nat → Int32} {f_reached : Int32} {f_length : Int32} {f_begins : Int32} {f_sort : Int32} {f_value : Int32} {f_word : Int64} {f_wrongAt : Int32} {f_laterFault : Int32} {f_laterPlace : Int32} {a_told : Nat → Int32} {a_read : Nat → Int32} {f_farHut : Int32} {f_farSinger : Int32} {f_good : Int32} {f_land : Int32} {f_huts : Int32} {f_singers : Int32} {f_evening : Int32} {a_at : Nat → Int32} {a_knows : Nat → Int32} {a_climbed : Nat → Int32} {a_snow : Nat → Int32} {a_level : Nat → Int32} {f_begun : Int32} {f_minute : Int32} {f_avalanches : Int32} {a_run : Nat → Int32} {a_covers : Nat → Int32} {a_routes : Nat → Int32} {a_longest : Nat → Int32} {a_steep : Nat → Int32} {a_laid : Nat → Int32} {a_far : Nat → Int32} {f_sight : Int32} {a_runs : Nat → Int32} {f_choir : Int32} {f_voices : Int32} {a_rest : Nat → Int64} {a_wins : Nat → Int32} {f_seed : Int32} {a_other : Nat → Int32} {a_kept : Nat → Int32} {post : Int32 → (Int32) → (Int32) → (Int32) → (Int32) → (Nat → Int32) → (Nat → Int32) → Prop} {x2 : Int32} {x3 : Int32} {x4 : Int32} {ls : Array Slot} {H : Heap} {locs : List Loc}
    (zc : zC p s m args meth c cX11_masses 6 RX11 (some .int))
    (hK : zK E s)
    (hM : mW E q f_code a_tape a_size a_fault a_faultPlace a_many a_lands a_evenings a_sights a_choirs f_reached f_length f_begins f_sort f_value f_word f_wrongAt f_laterFault f_laterPlace a_told a_read f_farHut f_farSinger f_good f_land f_huts f_singers f_evening a_at a_knows a_climbed a_snow a_level f_begun f_minute f_avalanches a_run a_covers a_routes a_longest a_steep a_laid a_far f_sight a_runs f_choir f_voices a_rest a_wins f_seed a_other a_kept H)
    (hS : va_S (mA q) s.heap H locs)
    (hl : lv_has ls 6 [(0, .ref q), (2, .int x2), (3, .int x3), (4, .int x4)])
    (hw : q_m_masses_32 f_code a_many a_lands f_land f_huts f_singers a_covers a_far x2 x3 x4 post) :
    W p l e rm_m_masses s m args below meth c H locs 0 0 (MQ below (zQi (S := (Int32) × (Int32) × (Int32) × (Int32) × (Nat → Int32) × (Nat → Int32)) (fun r u => post r u.1 u.2.1 u.2.2.1 u.2.2.2.1 u.2.2.2.2.1 u.2.2.2.2.2) (fun u H => mW E q u.1 a_tape a_size a_fault a_faultPlace a_many a_lands a_evenings a_sights a_choirs f_reached f_length f_begins f_sort f_value f_word f_wrongAt f_laterFault f_laterPlace a_told a_read f_farHut f_farSinger f_good u.2.1 u.2.2.1 u.2.2.2.1 f_evening a_at a_knows a_climbed a_snow a_level f_begun f_minute f_avalanches a_run u.2.2.2.2.1 a_routes a_longest a_steep a_laid u.2.2.2.2.2 f_sight a_runs f_choir f_voices a_rest a_wins f_seed a_other a_kept H) (mA q)) args s 0 0 (mA q)) (F0 m 32 ls []) := by
  have hx := zc.1
  have hb := zc.2.1
  refine hw (fun x4 a_covers => ∀ (H : Heap) (locs : List Loc) (ls : Array Slot), lv_has ls 6 [(0, .ref q), (2, .int x2), (3, .int x3), (4, .int x4)] → mW E q f_code a_tape a_size a_fault a_faultPlace a_many a_lands a_evenings a_sights a_choirs f_reached f_length f_begins f_sort f_value f_word f_wrongAt f_laterFault f_laterPlace a_told a_read f_farHut f_farSinger f_good f_land f_huts f_singers f_evening a_at a_knows a_climbed a_snow a_level f_begun f_minute f_avalanches a_run a_covers a_routes a_longest a_steep a_laid a_far f_sight a_runs f_choir f_voices a_rest a_wins f_seed a_other a_kept H → va_S (mA q) s.heap H locs → W p l e rm_m_masses s m args below meth c H locs 0 0 (MQ below (zQi (S := (Int32) × (Int32) × (Int32) × (Int32) × (Nat → Int32) × (Nat → Int32)) (fun r u => post r u.1 u.2.1 u.2.2.1 u.2.2.2.1 u.2.2.2.2.1 u.2.2.2.2.2) (fun u H => mW E q u.1 a_tape a_size a_fault a_faultPlace a_many a_lands a_evenings a_sights a_choirs f_reached f_length f_begins f_sort f_value f_word f_wrongAt f_laterFault f_laterPlace a_told a_read f_farHut f_farSinger f_good u.2.1 u.2.2.1 u.2.2.2.1 f_evening a_at a_knows a_climbed a_snow a_level f_begun f_minute f_avalanches a_run u.2.2.2.2.1 a_routes a_longest a_steep a_laid u.2.2.2.2.2 f_sight a_runs f_choir f_voices a_rest a_wins f_seed a_other a_kept H) (mA q)) args s 0 0 (mA q)) (F0 m 32 ls [])) ?_ _ _ _ hl hM hS
  intro x4 a_covers hw H locs ls hl hM hS
  refine lv_iload hx hb dX11_masses_32 (lv_at hl 3 rfl) ?_
  refine lv_aload_n hx hb dX11_masses_34 rfl (lv_at hl 0 rfl) ?_
  refine mg_11_307_0 zc hK hM dX11_masses_35 ?_
  refine lv_icmp_ge (tgt := 108) hx hb dX11_masses_38 (by decide) (fun hc => ?_) (fun hc => ?_)
  · have hw := hw.1 hc
    refine lv_aload_n hx hb dX11_masses_108 rfl (lv_at hl 0 rfl) ?_
    refine lv_iconst (v := (1 : Int32)) hx hb dX11_masses_109 (by decide) ?_
    refine lv_aload_n hx hb dX11_masses_110 rfl (lv_at hl 0 rfl) ?_
    refine mg_11_307_0 zc hK hM dX11_masses_111 ?_
    refine lv_ishl hx hb dX11_masses_114 ?_
    refine lv_iconst (v := (1 : Int32)) hx hb dX11_masses_115 (by decide) ?_
    refine lv_isub hx hb dX11_masses_116 ?_
    refine lv_aload_n hx hb dX11_masses_117 rfl (lv_at hl 0 rfl) ?_
    refine lv_iconst (v := (2 : Int32)) hx hb dX11_masses_118 (by decide) ?_
    refine zV_i [.int (2 : Int32)] [.int (((1 : Int32) <<< (f_huts &&& 31)) - (1 : Int32)), .ref q] zc ky_X11_of kz_X11_of km_11_303 (c_m_of l hw) (mPreV0 hK hM) rfl rfl hl.1 (Nat.le_of_ble_eq_true rfl) ⟨rfl, rfl⟩ ⟨Nat.le_of_ble_eq_true rfl, Nat.le_of_ble_eq_true rfl⟩ ⟨(Nat.zero_le _), (Nat.zero_le _)⟩ dX11_masses_119 (fun r_1 hw => ?_)
    refine zV_i [.int (((1 : Int32) <<< (f_huts &&& 31)) - (1 : Int32)), .int r_1] [] zc ky_X11_fewest kz_X11_fewest km_11_438 (c_m_fewest l hw) (mPreV0 hK hM) rfl rfl hl.1 (Nat.le_of_ble_eq_true rfl) ⟨rfl, rfl⟩ ⟨Nat.le_of_ble_eq_true rfl, Nat.le_of_ble_eq_true rfl⟩ ⟨(Nat.zero_le _), (Nat.zero_le _)⟩ dX11_masses_122 (fun r_2 hw => ?_)
    refine lv_istore (lv' := [(4, .int r_2), (0, .ref q), (2, .int x2), (3, .int x3)]) hx hb dX11_masses_125 hl (by decide) rfl (fun ls hl => ?_)
    refine lv_iload_n hx hb dX11_masses_127 rfl (lv_at hl 3 rfl) ?_
    refine lv_if_eq (tgt := 136) hx hb dX11_masses_128 (by decide) (fun hc => ?_) (fun hc => ?_)
    · have hw := hw.1 hc
      refine lv_iload hx hb dX11_masses_136 (lv_at hl 0 rfl) ?_
      refine zS_i [.int r_2] [] zc ky_X11_ones kz_X11_ones km_11_429 (c_m_ones l hw) (zPre0 _) rfl rfl hl.1 (Nat.le_of_ble_eq_true rfl) ⟨rfl, rfl⟩ ⟨Nat.le_of_ble_eq_true rfl, Nat.le_of_ble_eq_true rfl⟩ ⟨(Nat.zero_le _), (Nat.zero_le _)⟩ dX11_masses_138 (fun r_3 hw => ?_)
      exact zret_iw ⟨f_code, f_land, f_huts, f_singers, a_covers, a_far⟩ zc hS hw hM dX11_masses_141
    · have hw := hw.2 hc
      refine lv_iload hx hb dX11_masses_131 (lv_at hl 0 rfl) ?_
      refine lv_goto (tgt := 141) hx hb dX11_masses_133 (by decide) ?_
      exact zret_iw ⟨f_code, f_land, f_huts, f_singers, a_covers, a_far⟩ zc hS hw hM dX11_masses_141
  · have hw := hw.2 hc
    refine lv_aload_n hx hb dX11_masses_41 rfl (lv_at hl 0 rfl) ?_
    refine mg_11_62_0 zc hK hM dX11_masses_42 ?_
    refine lv_iload hx hb dX11_masses_45 (lv_at hl 3 rfl) ?_
    refine lv_iconst (v := (0 : Int32)) hx hb dX11_masses_47 (by decide) ?_
    refine mst_18 zc hK hM hS hw.1 dX11_masses_48 (fun a_covers_1 H locs ea_covers_1 hM hS => ?_)
    have hw := hw.2 a_covers_1 ea_covers_1
    refine lv_iconst (v := (0 : Int32)) hx hb dX11_masses_49 (by decide) ?_
    refine lv_istore (lv' := [(5, .int (0 : Int32)), (0, .ref q), (2, .int x2), (3, .int x3), (4, .int x4)]) hx hb dX11_masses_50 hl (by decide) rfl (fun ls hl => ?_)
    exact t_m_masses_52 zc hK hM hS (fun _ _ H locs ls h hl hM hS => h H locs ls hl hM hS) (lv_sub hl [1, 2, 3, 4, 0] rfl) hw
set_option maxRecDepth 20000 in
theorem t_m_masses_0 {p : Program} {l : Launch} {e : Env} {s : State} {m : MethodId} {args : Array Value} {below : List Frame} {meth : Method} {c : Code} {E : zE} {q : Nat} {f_code : Int32} {a_tape : Nat → Int32} {a_size : Nat → Int32} {a_fault : Nat → Int32} {a_faultPlace : Nat → Int32} {a_many : Nat → Int32} {a_lands : Nat → Int32} {a_evenings : Nat → Int32} {a_sights : Nat → Int32} {a_choirs : Nat → Int32} {f_reached : Int32} {f_length : Int32} {f_begins : Int32} {f_sort : Int32} {f_value : Int32} {f_word : Int64} {f_wrongAt : Int32} {f_laterFault : Int32} {f_laterPlace : Int32} {a_told : Nat → Int32} {a_read : Nat → Int32} {f_farHut : Int32} {f_farSinger : Int32} {f_good : Int32} {f_land : Int32} {f_huts : Int32} {f_singers : Int32} {f_evening : Int32} {a_at : Nat → Int32} {a_knows : Nat → Int32} {a_climbed : Nat → Int32} {a_snow : Nat → Int32} {a_level : Nat → Int32} {f_begun : Int32} {f_minute : Int32} {f_avalanches : Int32} {a_run : Nat → Int32} {a_covers : Nat → Int32} {a_routes : Nat → Int32} {a_longest : Nat → Int32} {a_steep : Nat → Int32} {a_laid : Nat → Int32} {a_far : Nat → Int32} {f_sight : Int32} {a_runs : Nat → Int32} {f_choir : Int32} {f_voices : Int32} {a_rest : Nat → Int64} {a_wins : Nat → Int32} {f_seed : Int32} {a_other : Nat → Int32} {a_kept : Nat → Int32} {post : Int32 → (Int32) → (Int32) → (Int32) → (Int32) → (Nat → Int32) → (Nat → Int32) → Prop} {x1 : Int32} {x2 : Int32} {x3 : Int32} {ls : Array Slot} {H : Heap} {locs : List Loc}
    (zc : zC p s m args meth c cX11_masses 6 RX11 (some .int))
    (hK : zK E s)
    (hM : mW E q f_code a_tape a_size a_fault a_faultPlace a_many a_lands a_evenings a_sights a_choirs f_reached f_length f_begins f_sort f_value f_word f_wrongAt f_laterFault f_laterPlace a_told a_read f_farHut f_farSinger f_good f_land f_huts f_singers f_evening a_at a_knows a_climbed a_snow a_level f_begun f_minute f_avalanches a_run a_covers a_routes a_longest a_steep a_laid a_far f_sight a_runs f_choir f_voices a_rest a_wins f_seed a_other a_kept H)
    (hS : va_S (mA q) s.heap H locs)
    (hl : lv_has ls 6 [(0, .ref q), (1, .int x1), (2, .int x2), (3, .int x3)])
    (hw : q_m_masses_0 f_code a_many a_lands f_land f_huts f_singers a_covers a_far x1 x2 x3 post) :
    W p l e rm_m_masses s m args below meth c H locs 0 0 (MQ below (zQi (S := (Int32) × (Int32) × (Int32) × (Int32) × (Nat → Int32) × (Nat → Int32)) (fun r u => post r u.1 u.2.1 u.2.2.1 u.2.2.2.1 u.2.2.2.2.1 u.2.2.2.2.2) (fun u H => mW E q u.1 a_tape a_size a_fault a_faultPlace a_many a_lands a_evenings a_sights a_choirs f_reached f_length f_begins f_sort f_value f_word f_wrongAt f_laterFault f_laterPlace a_told a_read f_farHut f_farSinger f_good u.2.1 u.2.2.1 u.2.2.2.1 f_evening a_at a_knows a_climbed a_snow a_level f_begun f_minute f_avalanches a_run u.2.2.2.2.1 a_routes a_longest a_steep a_laid u.2.2.2.2.2 f_sight a_runs f_choir f_voices a_rest a_wins f_seed a_other a_kept H) (mA q)) args s 0 0 (mA q)) (F0 m 0 ls []) := by
  have hx := zc.1
  have hb := zc.2.1
  refine lv_aload_n hx hb dX11_masses_0 rfl (lv_at hl 0 rfl) ?_
  refine lv_iconst (v := (0 : Int32)) hx hb dX11_masses_1 (by decide) ?_
  refine mp_11_97_0 zc hK hM hS dX11_masses_2 (fun H locs hM hS => ?_)
  refine lv_aload_n hx hb dX11_masses_5 rfl (lv_at hl 0 rfl) ?_
  refine lv_iload_n hx hb dX11_masses_6 rfl (lv_at hl 1 rfl) ?_
  refine zVw_i [.int x1] [] zc ky_X11_hand kz_X11_hand km_11_313 (c_m_hand l hw) (mPreV0 hK hM) hS rfl rfl hl.1 (Nat.le_of_ble_eq_true rfl) ⟨rfl, rfl⟩ ⟨Nat.le_of_ble_eq_true rfl, Nat.le_of_ble_eq_true rfl⟩ ⟨(Nat.zero_le _), (Nat.zero_le _)⟩ dX11_masses_7 (fun r_1 u H locs hw hM hS => ?_)
  obtain ⟨f_land_1, f_huts_1, f_singers_1⟩ := u
  refine lv_if_eq (tgt := 23) hx hb dX11_masses_10 (by decide) (fun hc => ?_) (fun hc => ?_)
  · have hw := hw.1 hc
    refine lv_iconst (v := (-1 : Int32)) hx hb dX11_masses_23 (by decide) ?_
    exact zret_iw ⟨(0 : Int32), f_land_1, f_huts_1, f_singers_1, a_covers, a_far⟩ zc hS hw hM dX11_masses_24
  · have hw := hw.2 hc
    refine lv_iload_n hx hb dX11_masses_13 rfl (lv_at hl 2 rfl) ?_
    refine lv_iconst (v := (0 : Int32)) hx hb dX11_masses_14 (by decide) ?_
    refine lv_bipush (v := (99 : Int32)) hx hb dX11_masses_15 (by decide) ?_
    refine zS_i [.int x2, .int (0 : Int32), .int (99 : Int32)] [] zc ky_X11_in kz_X11_in km_11_109 (c_m_in l hw) (zPre0 _) rfl rfl hl.1 (Nat.le_of_ble_eq_true rfl) ⟨rfl, rfl⟩ ⟨Nat.le_of_ble_eq_true rfl, Nat.le_of_ble_eq_true rfl⟩ ⟨(Nat.zero_le _), (Nat.zero_le _)⟩ dX11_masses_17 (fun r_2 hw => ?_)
    refine lv_if_ne (tgt := 25) hx hb dX11_masses_20 (by decide) (fun hc => ?_) (fun hc => ?_)
    · have hw := hw.1 hc
      refine lv_aload_n hx hb dX11_masses_25 rfl (lv_at hl 0 rfl) ?_
      refine zVw_v [] [] zc ky_X11_findFar kz_X11_findFar km_11_454 (c_m_findFar l hw) (mPreV0 hK hM) hS rfl rfl hl.1 (Nat.le_of_ble_eq_true rfl) ⟨rfl, rfl⟩ ⟨Nat.le_of_ble_eq_true rfl, Nat.le_of_ble_eq_true rfl⟩ ⟨(Nat.zero_le _), (Nat.zero_le _)⟩ dX11_masses_26 (fun a_far_1 H locs hw hM hS => ?_)
      refine lv_iconst (v := (0 : Int32)) hx hb dX11_masses_29 (by decide) ?_
      refine lv_istore (lv' := [(4, .int (0 : Int32)), (0, .ref q), (1, .int x1), (2, .int x2), (3, .int x3)]) hx hb dX11_masses_30 hl (by decide) rfl (fun ls hl => ?_)
      exact t_m_masses_32 zc hK hM hS  (lv_sub hl [1, 3, 4, 0] rfl) hw
    · have hw := hw.2 hc
      refine lv_iconst (v := (-1 : Int32)) hx hb dX11_masses_23 (by decide) ?_
      exact zret_iw ⟨(0 : Int32), f_land_1, f_huts_1, f_singers_1, a_covers, a_far⟩ zc hS hw hM dX11_masses_24
set_option maxRecDepth 20000 in
theorem c_m_masses (l : Launch) {E : zE} {q : Nat} {f_code : Int32} {a_tape : Nat → Int32} {a_size : Nat → Int32} {a_fault : Nat → Int32} {a_faultPlace : Nat → Int32} {a_many : Nat → Int32} {a_lands : Nat → Int32} {a_evenings : Nat → Int32} {a_sights : Nat → Int32} {a_choirs : Nat → Int32} {f_reached : Int32} {f_length : Int32} {f_begins : Int32} {f_sort : Int32} {f_value : Int32} {f_word : Int64} {f_wrongAt : Int32} {f_laterFault : Int32} {f_laterPlace : Int32} {a_told : Nat → Int32} {a_read : Nat → Int32} {f_farHut : Int32} {f_farSinger : Int32} {f_good : Int32} {f_land : Int32} {f_huts : Int32} {f_singers : Int32} {f_evening : Int32} {a_at : Nat → Int32} {a_knows : Nat → Int32} {a_climbed : Nat → Int32} {a_snow : Nat → Int32} {a_level : Nat → Int32} {f_begun : Int32} {f_minute : Int32} {f_avalanches : Int32} {a_run : Nat → Int32} {a_covers : Nat → Int32} {a_routes : Nat → Int32} {a_longest : Nat → Int32} {a_steep : Nat → Int32} {a_laid : Nat → Int32} {a_far : Nat → Int32} {f_sight : Int32} {a_runs : Nat → Int32} {f_choir : Int32} {f_voices : Int32} {a_rest : Nat → Int64} {a_wins : Nat → Int32} {f_seed : Int32} {a_other : Nat → Int32} {a_kept : Nat → Int32} {x1 : Int32} {x2 : Int32} {x3 : Int32} {post : Int32 → (Int32) → (Int32) → (Int32) → (Int32) → (Nat → Int32) → (Nat → Int32) → Prop} (hw : q_m_masses_0 f_code a_many a_lands f_land f_huts f_singers a_covers a_far x1 x2 x3 post) : Met l yX11_masses (Cond.code yX11_masses cX11_masses 6 (some .int) :: zb) rm_m_masses (va_Pc [.ref q, .int x1, .int x2, .int x3] (fun U => mW E q f_code a_tape a_size a_fault a_faultPlace a_many a_lands a_evenings a_sights a_choirs f_reached f_length f_begins f_sort f_value f_word f_wrongAt f_laterFault f_laterPlace a_told a_read f_farHut f_farSinger f_good f_land f_huts f_singers f_evening a_at a_knows a_climbed a_snow a_level f_begun f_minute f_avalanches a_run a_covers a_routes a_longest a_steep a_laid a_far f_sight a_runs f_choir f_voices a_rest a_wins f_seed a_other a_kept U.heap ∧ zK E U)) (zQi (S := (Int32) × (Int32) × (Int32) × (Int32) × (Nat → Int32) × (Nat → Int32)) (fun r u => post r u.1 u.2.1 u.2.2.1 u.2.2.2.1 u.2.2.2.2.1 u.2.2.2.2.2) (fun u H => mW E q u.1 a_tape a_size a_fault a_faultPlace a_many a_lands a_evenings a_sights a_choirs f_reached f_length f_begins f_sort f_value f_word f_wrongAt f_laterFault f_laterPlace a_told a_read f_farHut f_farSinger f_good u.2.1 u.2.2.1 u.2.2.2.1 f_evening a_at a_knows a_climbed a_snow a_level f_begun f_minute f_avalanches a_run u.2.2.2.2.1 a_routes a_longest a_steep a_laid u.2.2.2.2.2 f_sight a_runs f_choir f_voices a_rest a_wins f_seed a_other a_kept H) (mA q)) 0 0 (mA q) := by
  refine Met.ofW (cc := cX11_masses) (maxL := 6) (ret := (some .int)) (by decide) rfl ?_
  intro p e s m args below meth c s₁ B hml hv
  obtain ⟨rfl, hM, hK⟩ := hv
  have zc := zc_of B hml
  have hl := lv_entry ([.ref q, .int x1, .int x2, .int x3]) (n := 6) (Nat.le_of_ble_eq_true rfl)
  rw [lg_entry_eq]
  generalize (lg_sl ([.ref q, .int x1, .int x2, .int x3]) ++ List.replicate (6 - (lg_sl ([.ref q, .int x1, .int x2, .int x3])).length) Slot.unset).toArray = ls at hl ⊢
  have hl : lv_has ls 6 [(0, .ref q), (1, .int x1), (2, .int x2), (3, .int x3)] := hl
  exact t_m_masses_0 zc hK hM va_S.rf (lv_sub hl [0, 1, 2, 3] rfl) hw
end
section
-- m_facts
abbrev rm_m_facts : Room := { frames := 0, cells := 0, slots := 0, locals := 0 }
def q_m_facts_0 (a_sights : Nat → Int32) (f_sight : Int32) (post : Int32 → Prop) : Prop :=
  vp_in ((31 : Int32) * f_sight) 248 ∧ (post (a_sights (Int32.toNatClampNeg ((31 : Int32) * f_sight))))
set_option maxRecDepth 20000 in
theorem t_m_facts_0 {p : Program} {l : Launch} {e : Env} {s : State} {m : MethodId} {args : Array Value} {below : List Frame} {meth : Method} {c : Code} {E : zE} {q : Nat} {f_code : Int32} {a_tape : Nat → Int32} {a_size : Nat → Int32} {a_fault : Nat → Int32} {a_faultPlace : Nat → Int32} {a_many : Nat → Int32} {a_lands : Nat → Int32} {a_evenings : Nat → Int32} {a_sights : Nat → Int32} {a_choirs : Nat → Int32} {f_reached : Int32} {f_length : Int32} {f_begins : Int32} {f_sort : Int32} {f_value : Int32} {f_word : Int64} {f_wrongAt : Int32} {f_laterFault : Int32} {f_laterPlace : Int32} {a_told : Nat → Int32} {a_read : Nat → Int32} {f_farHut : Int32} {f_farSinger : Int32} {f_good : Int32} {f_land : Int32} {f_huts : Int32} {f_singers : Int32} {f_evening : Int32} {a_at : Nat → Int32} {a_knows : Nat → Int32} {a_climbed : Nat → Int32} {a_snow : Nat → Int32} {a_level : Nat → Int32} {f_begun : Int32} {f_minute : Int32} {f_avalanches : Int32} {a_run : Nat → Int32} {a_covers : Nat → Int32} {a_routes : Nat → Int32} {a_longest : Nat → Int32} {a_steep : Nat → Int32} {a_laid : Nat → Int32} {a_far : Nat → Int32} {f_sight : Int32} {a_runs : Nat → Int32} {f_choir : Int32} {f_voices : Int32} {a_rest : Nat → Int64} {a_wins : Nat → Int32} {f_seed : Int32} {a_other : Nat → Int32} {a_kept : Nat → Int32} {post : Int32 → Prop} {ls : Array Slot}
    (zc : zC p s m args meth c cX11_facts 1 RX11 (some .int))
    (hK : zK E s)
    (hM : mW E q f_code a_tape a_size a_fault a_faultPlace a_many a_lands a_evenings a_sights a_choirs f_reached f_length f_begins f_sort f_value f_word f_wrongAt f_laterFault f_laterPlace a_told a_read f_farHut f_farSinger f_good f_land f_huts f_singers f_evening a_at a_knows a_climbed a_snow a_level f_begun f_minute f_avalanches a_run a_covers a_routes a_longest a_steep a_laid a_far f_sight a_runs f_choir f_voices a_rest a_wins f_seed a_other a_kept s.heap)
    (hl : lv_has ls 1 [(0, .ref q)])
    (hw : q_m_facts_0 a_sights f_sight post) :
    W p l e rm_m_facts s m args below meth c s.heap [] 0 0 (MQ below (vp_Si post) args s 0 0 (fun _ => False)) (F0 m 0 ls []) := by
  have hx := zc.1
  have hb := zc.2.1
  refine lv_aload_n hx hb dX11_facts_0 rfl (lv_at hl 0 rfl) ?_
  refine mg_11_32_0 zc hK hM dX11_facts_1 ?_
  refine lv_bipush (v := (31 : Int32)) hx hb dX11_facts_4 (by decide) ?_
  refine lv_aload_n hx hb dX11_facts_6 rfl (lv_at hl 0 rfl) ?_
  refine mg_11_457_0 zc hK hM dX11_facts_7 ?_
  refine lv_imul hx hb dX11_facts_10 ?_
  refine mld_8 zc hK hM hw.1 dX11_facts_11 ?_
  have hw := hw.2
  exact zret_i zc hw dX11_facts_12
set_option maxRecDepth 20000 in
theorem c_m_facts (l : Launch) {E : zE} {q : Nat} {f_code : Int32} {a_tape : Nat → Int32} {a_size : Nat → Int32} {a_fault : Nat → Int32} {a_faultPlace : Nat → Int32} {a_many : Nat → Int32} {a_lands : Nat → Int32} {a_evenings : Nat → Int32} {a_sights : Nat → Int32} {a_choirs : Nat → Int32} {f_reached : Int32} {f_length : Int32} {f_begins : Int32} {f_sort : Int32} {f_value : Int32} {f_word : Int64} {f_wrongAt : Int32} {f_laterFault : Int32} {f_laterPlace : Int32} {a_told : Nat → Int32} {a_read : Nat → Int32} {f_farHut : Int32} {f_farSinger : Int32} {f_good : Int32} {f_land : Int32} {f_huts : Int32} {f_singers : Int32} {f_evening : Int32} {a_at : Nat → Int32} {a_knows : Nat → Int32} {a_climbed : Nat → Int32} {a_snow : Nat → Int32} {a_level : Nat → Int32} {f_begun : Int32} {f_minute : Int32} {f_avalanches : Int32} {a_run : Nat → Int32} {a_covers : Nat → Int32} {a_routes : Nat → Int32} {a_longest : Nat → Int32} {a_steep : Nat → Int32} {a_laid : Nat → Int32} {a_far : Nat → Int32} {f_sight : Int32} {a_runs : Nat → Int32} {f_choir : Int32} {f_voices : Int32} {a_rest : Nat → Int64} {a_wins : Nat → Int32} {f_seed : Int32} {a_other : Nat → Int32} {a_kept : Nat → Int32} {post : Int32 → Prop} (hw : q_m_facts_0 a_sights f_sight post) : Met l yX11_facts (Cond.code yX11_facts cX11_facts 1 (some .int) :: zb) rm_m_facts (va_Pc [.ref q] (fun U => mW E q f_code a_tape a_size a_fault a_faultPlace a_many a_lands a_evenings a_sights a_choirs f_reached f_length f_begins f_sort f_value f_word f_wrongAt f_laterFault f_laterPlace a_told a_read f_farHut f_farSinger f_good f_land f_huts f_singers f_evening a_at a_knows a_climbed a_snow a_level f_begun f_minute f_avalanches a_run a_covers a_routes a_longest a_steep a_laid a_far f_sight a_runs f_choir f_voices a_rest a_wins f_seed a_other a_kept U.heap ∧ zK E U)) (vp_Si post) 0 0 (fun _ => False) := by
  refine Met.ofW (cc := cX11_facts) (maxL := 1) (ret := (some .int)) (by decide) rfl ?_
  intro p e s m args below meth c s₁ B hml hv
  obtain ⟨rfl, hM, hK⟩ := hv
  have zc := zc_of B hml
  have hl := lv_entry ([.ref q]) (n := 1) (Nat.le_of_ble_eq_true rfl)
  rw [lg_entry_eq]
  generalize (lg_sl ([.ref q]) ++ List.replicate (1 - (lg_sl ([.ref q])).length) Slot.unset).toArray = ls at hl ⊢
  have hl : lv_has ls 1 [(0, .ref q)] := hl
  exact t_m_facts_0 zc hK hM (lv_sub hl [0] rfl) hw
-- m_factOf
abbrev rm_m_factOf : Room := { frames := 0, cells := 0, slots := 0, locals := 0 }
def q_m_factOf_0 (a_sights : Nat → Int32) (f_sight : Int32) (x1 : Int32) (x2 : Int32) (post : Int32 → Prop) : Prop :=
  vp_in (((((31 : Int32) * f_sight) + (1 : Int32)) + ((3 : Int32) * x1)) + x2) 248 ∧ (post (a_sights (Int32.toNatClampNeg (((((31 : Int32) * f_sight) + (1 : Int32)) + ((3 : Int32) * x1)) + x2))))
set_option maxRecDepth 20000 in
theorem t_m_factOf_0 {p : Program} {l : Launch} {e : Env} {s : State} {m : MethodId} {args : Array Value} {below : List Frame} {meth : Method} {c : Code} {E : zE} {q : Nat} {f_code : Int32} {a_tape : Nat → Int32} {a_size : Nat → Int32} {a_fault : Nat → Int32} {a_faultPlace : Nat → Int32} {a_many : Nat → Int32} {a_lands : Nat → Int32} {a_evenings : Nat → Int32} {a_sights : Nat → Int32} {a_choirs : Nat → Int32} {f_reached : Int32} {f_length : Int32} {f_begins : Int32} {f_sort : Int32} {f_value : Int32} {f_word : Int64} {f_wrongAt : Int32} {f_laterFault : Int32} {f_laterPlace : Int32} {a_told : Nat → Int32} {a_read : Nat → Int32} {f_farHut : Int32} {f_farSinger : Int32} {f_good : Int32} {f_land : Int32} {f_huts : Int32} {f_singers : Int32} {f_evening : Int32} {a_at : Nat → Int32} {a_knows : Nat → Int32} {a_climbed : Nat → Int32} {a_snow : Nat → Int32} {a_level : Nat → Int32} {f_begun : Int32} {f_minute : Int32} {f_avalanches : Int32} {a_run : Nat → Int32} {a_covers : Nat → Int32} {a_routes : Nat → Int32} {a_longest : Nat → Int32} {a_steep : Nat → Int32} {a_laid : Nat → Int32} {a_far : Nat → Int32} {f_sight : Int32} {a_runs : Nat → Int32} {f_choir : Int32} {f_voices : Int32} {a_rest : Nat → Int64} {a_wins : Nat → Int32} {f_seed : Int32} {a_other : Nat → Int32} {a_kept : Nat → Int32} {post : Int32 → Prop} {x1 : Int32} {x2 : Int32} {ls : Array Slot}
    (zc : zC p s m args meth c cX11_factOf 3 RX11 (some .int))
    (hK : zK E s)
    (hM : mW E q f_code a_tape a_size a_fault a_faultPlace a_many a_lands a_evenings a_sights a_choirs f_reached f_length f_begins f_sort f_value f_word f_wrongAt f_laterFault f_laterPlace a_told a_read f_farHut f_farSinger f_good f_land f_huts f_singers f_evening a_at a_knows a_climbed a_snow a_level f_begun f_minute f_avalanches a_run a_covers a_routes a_longest a_steep a_laid a_far f_sight a_runs f_choir f_voices a_rest a_wins f_seed a_other a_kept s.heap)
    (hl : lv_has ls 3 [(0, .ref q), (1, .int x1), (2, .int x2)])
    (hw : q_m_factOf_0 a_sights f_sight x1 x2 post) :
    W p l e rm_m_factOf s m args below meth c s.heap [] 0 0 (MQ below (vp_Si post) args s 0 0 (fun _ => False)) (F0 m 0 ls []) := by
  have hx := zc.1
  have hb := zc.2.1
  refine lv_aload_n hx hb dX11_factOf_0 rfl (lv_at hl 0 rfl) ?_
  refine mg_11_32_0 zc hK hM dX11_factOf_1 ?_
  refine lv_bipush (v := (31 : Int32)) hx hb dX11_factOf_4 (by decide) ?_
  refine lv_aload_n hx hb dX11_factOf_6 rfl (lv_at hl 0 rfl) ?_
  refine mg_11_457_0 zc hK hM dX11_factOf_7 ?_
  refine lv_imul hx hb dX11_factOf_10 ?_
  refine lv_iconst (v := (1 : Int32)) hx hb dX11_factOf_11 (by decide) ?_
  refine lv_iadd hx hb dX11_factOf_12 ?_
  refine lv_iconst (v := (3 : Int32)) hx hb dX11_factOf_13 (by decide) ?_
  refine lv_iload_n hx hb dX11_factOf_14 rfl (lv_at hl 1 rfl) ?_
  refine lv_imul hx hb dX11_factOf_15 ?_
  refine lv_iadd hx hb dX11_factOf_16 ?_
  refine lv_iload_n hx hb dX11_factOf_17 rfl (lv_at hl 2 rfl) ?_
  refine lv_iadd hx hb dX11_factOf_18 ?_
  refine mld_8 zc hK hM hw.1 dX11_factOf_19 ?_
  have hw := hw.2
  exact zret_i zc hw dX11_factOf_20
set_option maxRecDepth 20000 in
theorem c_m_factOf (l : Launch) {E : zE} {q : Nat} {f_code : Int32} {a_tape : Nat → Int32} {a_size : Nat → Int32} {a_fault : Nat → Int32} {a_faultPlace : Nat → Int32} {a_many : Nat → Int32} {a_lands : Nat → Int32} {a_evenings : Nat → Int32} {a_sights : Nat → Int32} {a_choirs : Nat → Int32} {f_reached : Int32} {f_length : Int32} {f_begins : Int32} {f_sort : Int32} {f_value : Int32} {f_word : Int64} {f_wrongAt : Int32} {f_laterFault : Int32} {f_laterPlace : Int32} {a_told : Nat → Int32} {a_read : Nat → Int32} {f_farHut : Int32} {f_farSinger : Int32} {f_good : Int32} {f_land : Int32} {f_huts : Int32} {f_singers : Int32} {f_evening : Int32} {a_at : Nat → Int32} {a_knows : Nat → Int32} {a_climbed : Nat → Int32} {a_snow : Nat → Int32} {a_level : Nat → Int32} {f_begun : Int32} {f_minute : Int32} {f_avalanches : Int32} {a_run : Nat → Int32} {a_covers : Nat → Int32} {a_routes : Nat → Int32} {a_longest : Nat → Int32} {a_steep : Nat → Int32} {a_laid : Nat → Int32} {a_far : Nat → Int32} {f_sight : Int32} {a_runs : Nat → Int32} {f_choir : Int32} {f_voices : Int32} {a_rest : Nat → Int64} {a_wins : Nat → Int32} {f_seed : Int32} {a_other : Nat → Int32} {a_kept : Nat → Int32} {x1 : Int32} {x2 : Int32} {post : Int32 → Prop} (hw : q_m_factOf_0 a_sights f_sight x1 x2 post) : Met l yX11_factOf (Cond.code yX11_factOf cX11_factOf 3 (some .int) :: zb) rm_m_factOf (va_Pc [.ref q, .int x1, .int x2] (fun U => mW E q f_code a_tape a_size a_fault a_faultPlace a_many a_lands a_evenings a_sights a_choirs f_reached f_length f_begins f_sort f_value f_word f_wrongAt f_laterFault f_laterPlace a_told a_read f_farHut f_farSinger f_good f_land f_huts f_singers f_evening a_at a_knows a_climbed a_snow a_level f_begun f_minute f_avalanches a_run a_covers a_routes a_longest a_steep a_laid a_far f_sight a_runs f_choir f_voices a_rest a_wins f_seed a_other a_kept U.heap ∧ zK E U)) (vp_Si post) 0 0 (fun _ => False) := by
  refine Met.ofW (cc := cX11_factOf) (maxL := 3) (ret := (some .int)) (by decide) rfl ?_
  intro p e s m args below meth c s₁ B hml hv
  obtain ⟨rfl, hM, hK⟩ := hv
  have zc := zc_of B hml
  have hl := lv_entry ([.ref q, .int x1, .int x2]) (n := 3) (Nat.le_of_ble_eq_true rfl)
  rw [lg_entry_eq]
  generalize (lg_sl ([.ref q, .int x1, .int x2]) ++ List.replicate (3 - (lg_sl ([.ref q, .int x1, .int x2])).length) Slot.unset).toArray = ls at hl ⊢
  have hl : lv_has ls 3 [(0, .ref q), (1, .int x1), (2, .int x2)] := hl
  exact t_m_factOf_0 zc hK hM (lv_sub hl [0, 1, 2] rfl) hw
-- m_hasSight
abbrev rm_m_hasSight : Room := { frames := 2, cells := 0, slots := 0, locals := 44 }
def q_m_hasSight_0 (a_many : Nat → Int32) (f_sight : Int32) (x1 : Int32) (post : Int32 → (Int32) → Prop) : Prop :=
  q_m_is_0 a_many (2 : Int32) x1 (fun r_1 => narrow .boolean (.int r_1) = .int r_1 ∧ post r_1 x1)
set_option maxRecDepth 20000 in
theorem t_m_hasSight_0 {p : Program} {l : Launch} {e : Env} {s : State} {m : MethodId} {args : Array Value} {below : List Frame} {meth : Method} {c : Code} {E : zE} {q : Nat} {f_code : Int32} {a_tape : Nat → Int32} {a_size : Nat → Int32} {a_fault : Nat → Int32} {a_faultPlace : Nat → Int32} {a_many : Nat → Int32} {a_lands : Nat → Int32} {a_evenings : Nat → Int32} {a_sights : Nat → Int32} {a_choirs : Nat → Int32} {f_reached : Int32} {f_length : Int32} {f_begins : Int32} {f_sort : Int32} {f_value : Int32} {f_word : Int64} {f_wrongAt : Int32} {f_laterFault : Int32} {f_laterPlace : Int32} {a_told : Nat → Int32} {a_read : Nat → Int32} {f_farHut : Int32} {f_farSinger : Int32} {f_good : Int32} {f_land : Int32} {f_huts : Int32} {f_singers : Int32} {f_evening : Int32} {a_at : Nat → Int32} {a_knows : Nat → Int32} {a_climbed : Nat → Int32} {a_snow : Nat → Int32} {a_level : Nat → Int32} {f_begun : Int32} {f_minute : Int32} {f_avalanches : Int32} {a_run : Nat → Int32} {a_covers : Nat → Int32} {a_routes : Nat → Int32} {a_longest : Nat → Int32} {a_steep : Nat → Int32} {a_laid : Nat → Int32} {a_far : Nat → Int32} {f_sight : Int32} {a_runs : Nat → Int32} {f_choir : Int32} {f_voices : Int32} {a_rest : Nat → Int64} {a_wins : Nat → Int32} {f_seed : Int32} {a_other : Nat → Int32} {a_kept : Nat → Int32} {post : Int32 → (Int32) → Prop} {x1 : Int32} {ls : Array Slot} {H : Heap} {locs : List Loc}
    (zc : zC p s m args meth c cX11_hasSight 2 RX11 (some .boolean))
    (hK : zK E s)
    (hM : mW E q f_code a_tape a_size a_fault a_faultPlace a_many a_lands a_evenings a_sights a_choirs f_reached f_length f_begins f_sort f_value f_word f_wrongAt f_laterFault f_laterPlace a_told a_read f_farHut f_farSinger f_good f_land f_huts f_singers f_evening a_at a_knows a_climbed a_snow a_level f_begun f_minute f_avalanches a_run a_covers a_routes a_longest a_steep a_laid a_far f_sight a_runs f_choir f_voices a_rest a_wins f_seed a_other a_kept H)
    (hS : va_S (mA q) s.heap H locs)
    (hl : lv_has ls 2 [(0, .ref q), (1, .int x1)])
    (hw : q_m_hasSight_0 a_many f_sight x1 post) :
    W p l e rm_m_hasSight s m args below meth c H locs 0 0 (MQ below (zQi (S := (Int32)) (fun r u => post r u) (fun u H => mW E q f_code a_tape a_size a_fault a_faultPlace a_many a_lands a_evenings a_sights a_choirs f_reached f_length f_begins f_sort f_value f_word f_wrongAt f_laterFault f_laterPlace a_told a_read f_farHut f_farSinger f_good f_land f_huts f_singers f_evening a_at a_knows a_climbed a_snow a_level f_begun f_minute f_avalanches a_run a_covers a_routes a_longest a_steep a_laid a_far u a_runs f_choir f_voices a_rest a_wins f_seed a_other a_kept H) (mA q)) args s 0 0 (mA q)) (F0 m 0 ls []) := by
  have hx := zc.1
  have hb := zc.2.1
  refine lv_aload_n hx hb dX11_hasSight_0 rfl (lv_at hl 0 rfl) ?_
  refine lv_iload_n hx hb dX11_hasSight_1 rfl (lv_at hl 1 rfl) ?_
  refine mp_11_457_0 zc hK hM hS dX11_hasSight_2 (fun H locs hM hS => ?_)
  refine lv_aload_n hx hb dX11_hasSight_5 rfl (lv_at hl 0 rfl) ?_
  refine lv_iconst (v := (2 : Int32)) hx hb dX11_hasSight_6 (by decide) ?_
  refine lv_iload_n hx hb dX11_hasSight_7 rfl (lv_at hl 1 rfl) ?_
  refine zV_i [.int (2 : Int32), .int x1] [] zc ky_X11_is kz_X11_is km_11_291 (c_m_is l hw) (mPreV0 hK hM) rfl rfl hl.1 (Nat.le_of_ble_eq_true rfl) ⟨rfl, rfl⟩ ⟨Nat.le_of_ble_eq_true rfl, Nat.le_of_ble_eq_true rfl⟩ ⟨(Nat.zero_le _), (Nat.zero_le _)⟩ dX11_hasSight_8 (fun r_1 hw => ?_)
  exact zret_zw x1 zc hS hw.1 hw.2 hM dX11_hasSight_11
set_option maxRecDepth 20000 in
theorem c_m_hasSight (l : Launch) {E : zE} {q : Nat} {f_code : Int32} {a_tape : Nat → Int32} {a_size : Nat → Int32} {a_fault : Nat → Int32} {a_faultPlace : Nat → Int32} {a_many : Nat → Int32} {a_lands : Nat → Int32} {a_evenings : Nat → Int32} {a_sights : Nat → Int32} {a_choirs : Nat → Int32} {f_reached : Int32} {f_length : Int32} {f_begins : Int32} {f_sort : Int32} {f_value : Int32} {f_word : Int64} {f_wrongAt : Int32} {f_laterFault : Int32} {f_laterPlace : Int32} {a_told : Nat → Int32} {a_read : Nat → Int32} {f_farHut : Int32} {f_farSinger : Int32} {f_good : Int32} {f_land : Int32} {f_huts : Int32} {f_singers : Int32} {f_evening : Int32} {a_at : Nat → Int32} {a_knows : Nat → Int32} {a_climbed : Nat → Int32} {a_snow : Nat → Int32} {a_level : Nat → Int32} {f_begun : Int32} {f_minute : Int32} {f_avalanches : Int32} {a_run : Nat → Int32} {a_covers : Nat → Int32} {a_routes : Nat → Int32} {a_longest : Nat → Int32} {a_steep : Nat → Int32} {a_laid : Nat → Int32} {a_far : Nat → Int32} {f_sight : Int32} {a_runs : Nat → Int32} {f_choir : Int32} {f_voices : Int32} {a_rest : Nat → Int64} {a_wins : Nat → Int32} {f_seed : Int32} {a_other : Nat → Int32} {a_kept : Nat → Int32} {x1 : Int32} {post : Int32 → (Int32) → Prop} (hw : q_m_hasSight_0 a_many f_sight x1 post) : Met l yX11_hasSight (Cond.code yX11_hasSight cX11_hasSight 2 (some .boolean) :: zb) rm_m_hasSight (va_Pc [.ref q, .int x1] (fun U => mW E q f_code a_tape a_size a_fault a_faultPlace a_many a_lands a_evenings a_sights a_choirs f_reached f_length f_begins f_sort f_value f_word f_wrongAt f_laterFault f_laterPlace a_told a_read f_farHut f_farSinger f_good f_land f_huts f_singers f_evening a_at a_knows a_climbed a_snow a_level f_begun f_minute f_avalanches a_run a_covers a_routes a_longest a_steep a_laid a_far f_sight a_runs f_choir f_voices a_rest a_wins f_seed a_other a_kept U.heap ∧ zK E U)) (zQi (S := (Int32)) (fun r u => post r u) (fun u H => mW E q f_code a_tape a_size a_fault a_faultPlace a_many a_lands a_evenings a_sights a_choirs f_reached f_length f_begins f_sort f_value f_word f_wrongAt f_laterFault f_laterPlace a_told a_read f_farHut f_farSinger f_good f_land f_huts f_singers f_evening a_at a_knows a_climbed a_snow a_level f_begun f_minute f_avalanches a_run a_covers a_routes a_longest a_steep a_laid a_far u a_runs f_choir f_voices a_rest a_wins f_seed a_other a_kept H) (mA q)) 0 0 (mA q) := by
  refine Met.ofW (cc := cX11_hasSight) (maxL := 2) (ret := (some .boolean)) (by decide) rfl ?_
  intro p e s m args below meth c s₁ B hml hv
  obtain ⟨rfl, hM, hK⟩ := hv
  have zc := zc_of B hml
  have hl := lv_entry ([.ref q, .int x1]) (n := 2) (Nat.le_of_ble_eq_true rfl)
  rw [lg_entry_eq]
  generalize (lg_sl ([.ref q, .int x1]) ++ List.replicate (2 - (lg_sl ([.ref q, .int x1])).length) Slot.unset).toArray = ls at hl ⊢
  have hl : lv_has ls 2 [(0, .ref q), (1, .int x1)] := hl
  exact t_m_hasSight_0 zc hK hM va_S.rf (lv_sub hl [0, 1] rfl) hw
-- m_fact
abbrev rm_m_fact : Room := { frames := 3, cells := 0, slots := 0, locals := 65 }
def q_m_fact_0 (f_code : Int32) (a_many : Nat → Int32) (a_sights : Nat → Int32) (f_sight : Int32) (x1 : Int32) (x2 : Int32) (x3 : Int32) (post : Int32 → (Int32) → (Int32) → Prop) : Prop :=
  q_m_hasSight_0 a_many f_sight x1 (fun r_1 f_sight_1 => (¬ r_1 = 0 → ((¬ x2 = (-1 : Int32) → (q_m_facts_0 a_sights f_sight_1 (fun r_2 => q_m_in_0 x2 (0 : Int32) (r_2 - (1 : Int32)) (fun r_3 => (r_3 = 0 → (post (-2 : Int32) (0 : Int32) f_sight_1)) ∧ (¬ r_3 = 0 → (q_m_in_0 x3 (0 : Int32) (2 : Int32) (fun r_4 => (r_4 = 0 → (post (-2 : Int32) (0 : Int32) f_sight_1)) ∧ (¬ r_4 = 0 → (q_m_factOf_0 a_sights f_sight_1 x2 x3 (fun r_5 => post r_5 (0 : Int32) f_sight_1)))))))))) ∧ (x2 = (-1 : Int32) → ((¬ x3 = 0 → (post (-2 : Int32) (0 : Int32) f_sight_1)) ∧ (x3 = 0 → (q_m_facts_0 a_sights f_sight_1 (fun r_6 => post r_6 (0 : Int32) f_sight_1))))))) ∧ (r_1 = 0 → (post (-2 : Int32) (0 : Int32) f_sight_1)))
set_option maxRecDepth 20000 in
theorem t_m_fact_0 {p : Program} {l : Launch} {e : Env} {s : State} {m : MethodId} {args : Array Value} {below : List Frame} {meth : Method} {c : Code} {E : zE} {q : Nat} {f_code : Int32} {a_tape : Nat → Int32} {a_size : Nat → Int32} {a_fault : Nat → Int32} {a_faultPlace : Nat → Int32} {a_many : Nat → Int32} {a_lands : Nat → Int32} {a_evenings : Nat → Int32} {a_sights : Nat → Int32} {a_choirs : Nat → Int32} {f_reached : Int32} {f_length : Int32} {f_begins : Int32} {f_sort : Int32} {f_value : Int32} {f_word : Int64} {f_wrongAt : Int32} {f_laterFault : Int32} {f_laterPlace : Int32} {a_told : Nat → Int32} {a_read : Nat → Int32} {f_farHut : Int32} {f_farSinger : Int32} {f_good : Int32} {f_land : Int32} {f_huts : Int32} {f_singers : Int32} {f_evening : Int32} {a_at : Nat → Int32} {a_knows : Nat → Int32} {a_climbed : Nat → Int32} {a_snow : Nat → Int32} {a_level : Nat → Int32} {f_begun : Int32} {f_minute : Int32} {f_avalanches : Int32} {a_run : Nat → Int32} {a_covers : Nat → Int32} {a_routes : Nat → Int32} {a_longest : Nat → Int32} {a_steep : Nat → Int32} {a_laid : Nat → Int32} {a_far : Nat → Int32} {f_sight : Int32} {a_runs : Nat → Int32} {f_choir : Int32} {f_voices : Int32} {a_rest : Nat → Int64} {a_wins : Nat → Int32} {f_seed : Int32} {a_other : Nat → Int32} {a_kept : Nat → Int32} {post : Int32 → (Int32) → (Int32) → Prop} {x1 : Int32} {x2 : Int32} {x3 : Int32} {ls : Array Slot} {H : Heap} {locs : List Loc}
    (zc : zC p s m args meth c cX11_fact 4 RX11 (some .int))
    (hK : zK E s)
    (hM : mW E q f_code a_tape a_size a_fault a_faultPlace a_many a_lands a_evenings a_sights a_choirs f_reached f_length f_begins f_sort f_value f_word f_wrongAt f_laterFault f_laterPlace a_told a_read f_farHut f_farSinger f_good f_land f_huts f_singers f_evening a_at a_knows a_climbed a_snow a_level f_begun f_minute f_avalanches a_run a_covers a_routes a_longest a_steep a_laid a_far f_sight a_runs f_choir f_voices a_rest a_wins f_seed a_other a_kept H)
    (hS : va_S (mA q) s.heap H locs)
    (hl : lv_has ls 4 [(0, .ref q), (1, .int x1), (2, .int x2), (3, .int x3)])
    (hw : q_m_fact_0 f_code a_many a_sights f_sight x1 x2 x3 post) :
    W p l e rm_m_fact s m args below meth c H locs 0 0 (MQ below (zQi (S := (Int32) × (Int32)) (fun r u => post r u.1 u.2) (fun u H => mW E q u.1 a_tape a_size a_fault a_faultPlace a_many a_lands a_evenings a_sights a_choirs f_reached f_length f_begins f_sort f_value f_word f_wrongAt f_laterFault f_laterPlace a_told a_read f_farHut f_farSinger f_good f_land f_huts f_singers f_evening a_at a_knows a_climbed a_snow a_level f_begun f_minute f_avalanches a_run a_covers a_routes a_longest a_steep a_laid a_far u.2 a_runs f_choir f_voices a_rest a_wins f_seed a_other a_kept H) (mA q)) args s 0 0 (mA q)) (F0 m 0 ls []) := by
  have hx := zc.1
  have hb := zc.2.1
  refine lv_aload_n hx hb dX11_fact_0 rfl (lv_at hl 0 rfl) ?_
  refine lv_iconst (v := (0 : Int32)) hx hb dX11_fact_1 (by decide) ?_
  refine mp_11_97_0 zc hK hM hS dX11_fact_2 (fun H locs hM hS => ?_)
  refine lv_aload_n hx hb dX11_fact_5 rfl (lv_at hl 0 rfl) ?_
  refine lv_iload_n hx hb dX11_fact_6 rfl (lv_at hl 1 rfl) ?_
  refine zVw_i [.int x1] [] zc ky_X11_hasSight kz_X11_hasSight km_11_460 (c_m_hasSight l hw) (mPreV0 hK hM) hS rfl rfl hl.1 (Nat.le_of_ble_eq_true rfl) ⟨rfl, rfl⟩ ⟨Nat.le_of_ble_eq_true rfl, Nat.le_of_ble_eq_true rfl⟩ ⟨(Nat.zero_le _), (Nat.zero_le _)⟩ dX11_fact_7 (fun r_1 f_sight_1 H locs hw hM hS => ?_)
  refine lv_if_ne (tgt := 16) hx hb dX11_fact_10 (by decide) (fun hc => ?_) (fun hc => ?_)
  · have hw := hw.1 hc
    refine lv_iload_n hx hb dX11_fact_16 rfl (lv_at hl 2 rfl) ?_
    refine lv_iconst (v := (-1 : Int32)) hx hb dX11_fact_17 (by decide) ?_
    refine lv_icmp_ne (tgt := 35) hx hb dX11_fact_18 (by decide) (fun hc => ?_) (fun hc => ?_)
    · have hw := hw.1 hc
      refine lv_iload_n hx hb dX11_fact_35 rfl (lv_at hl 2 rfl) ?_
      refine lv_iconst (v := (0 : Int32)) hx hb dX11_fact_36 (by decide) ?_
      refine lv_aload_n hx hb dX11_fact_37 rfl (lv_at hl 0 rfl) ?_
      refine zV_i [] [.int (0 : Int32), .int x2] zc ky_X11_facts kz_X11_facts km_11_463 (c_m_facts l hw) (mPreV0 hK hM) rfl rfl hl.1 (Nat.le_of_ble_eq_true rfl) ⟨rfl, rfl⟩ ⟨Nat.le_of_ble_eq_true rfl, Nat.le_of_ble_eq_true rfl⟩ ⟨(Nat.zero_le _), (Nat.zero_le _)⟩ dX11_fact_38 (fun r_2 hw => ?_)
      refine lv_iconst (v := (1 : Int32)) hx hb dX11_fact_41 (by decide) ?_
      refine lv_isub hx hb dX11_fact_42 ?_
      refine zS_i [.int x2, .int (0 : Int32), .int (r_2 - (1 : Int32))] [] zc ky_X11_in kz_X11_in km_11_109 (c_m_in l hw) (zPre0 _) rfl rfl hl.1 (Nat.le_of_ble_eq_true rfl) ⟨rfl, rfl⟩ ⟨Nat.le_of_ble_eq_true rfl, Nat.le_of_ble_eq_true rfl⟩ ⟨(Nat.zero_le _), (Nat.zero_le _)⟩ dX11_fact_43 (fun r_3 hw => ?_)
      refine lv_if_eq (tgt := 67) hx hb dX11_fact_46 (by decide) (fun hc => ?_) (fun hc => ?_)
      · have hw := hw.1 hc
        refine lv_bipush (v := (-2 : Int32)) hx hb dX11_fact_67 (by decide) ?_
        exact zret_iw ⟨(0 : Int32), f_sight_1⟩ zc hS hw hM dX11_fact_69
      · have hw := hw.2 hc
        refine lv_iload_n hx hb dX11_fact_49 rfl (lv_at hl 3 rfl) ?_
        refine lv_iconst (v := (0 : Int32)) hx hb dX11_fact_50 (by decide) ?_
        refine lv_iconst (v := (2 : Int32)) hx hb dX11_fact_51 (by decide) ?_
        refine zS_i [.int x3, .int (0 : Int32), .int (2 : Int32)] [] zc ky_X11_in kz_X11_in km_11_109 (c_m_in l hw) (zPre0 _) rfl rfl hl.1 (Nat.le_of_ble_eq_true rfl) ⟨rfl, rfl⟩ ⟨Nat.le_of_ble_eq_true rfl, Nat.le_of_ble_eq_true rfl⟩ ⟨(Nat.zero_le _), (Nat.zero_le _)⟩ dX11_fact_52 (fun r_4 hw => ?_)
        refine lv_if_eq (tgt := 67) hx hb dX11_fact_55 (by decide) (fun hc => ?_) (fun hc => ?_)
        · have hw := hw.1 hc
          refine lv_bipush (v := (-2 : Int32)) hx hb dX11_fact_67 (by decide) ?_
          exact zret_iw ⟨(0 : Int32), f_sight_1⟩ zc hS hw hM dX11_fact_69
        · have hw := hw.2 hc
          refine lv_aload_n hx hb dX11_fact_58 rfl (lv_at hl 0 rfl) ?_
          refine lv_iload_n hx hb dX11_fact_59 rfl (lv_at hl 2 rfl) ?_
          refine lv_iload_n hx hb dX11_fact_60 rfl (lv_at hl 3 rfl) ?_
          refine zV_i [.int x2, .int x3] [] zc ky_X11_factOf kz_X11_factOf km_11_466 (c_m_factOf l hw) (mPreV0 hK hM) rfl rfl hl.1 (Nat.le_of_ble_eq_true rfl) ⟨rfl, rfl⟩ ⟨Nat.le_of_ble_eq_true rfl, Nat.le_of_ble_eq_true rfl⟩ ⟨(Nat.zero_le _), (Nat.zero_le _)⟩ dX11_fact_61 (fun r_5 hw => ?_)
          refine lv_goto (tgt := 69) hx hb dX11_fact_64 (by decide) ?_
          exact zret_iw ⟨(0 : Int32), f_sight_1⟩ zc hS hw hM dX11_fact_69
    · have hw := hw.2 hc
      refine lv_iload_n hx hb dX11_fact_21 rfl (lv_at hl 3 rfl) ?_
      refine lv_if_ne (tgt := 32) hx hb dX11_fact_22 (by decide) (fun hc => ?_) (fun hc => ?_)
      · have hw := hw.1 hc
        refine lv_bipush (v := (-2 : Int32)) hx hb dX11_fact_32 (by decide) ?_
        exact zret_iw ⟨(0 : Int32), f_sight_1⟩ zc hS hw hM dX11_fact_34
      · have hw := hw.2 hc
        refine lv_aload_n hx hb dX11_fact_25 rfl (lv_at hl 0 rfl) ?_
        refine zV_i [] [] zc ky_X11_facts kz_X11_facts km_11_463 (c_m_facts l hw) (mPreV0 hK hM) rfl rfl hl.1 (Nat.le_of_ble_eq_true rfl) ⟨rfl, rfl⟩ ⟨Nat.le_of_ble_eq_true rfl, Nat.le_of_ble_eq_true rfl⟩ ⟨(Nat.zero_le _), (Nat.zero_le _)⟩ dX11_fact_26 (fun r_6 hw => ?_)
        refine lv_goto (tgt := 34) hx hb dX11_fact_29 (by decide) ?_
        exact zret_iw ⟨(0 : Int32), f_sight_1⟩ zc hS hw hM dX11_fact_34
  · have hw := hw.2 hc
    refine lv_bipush (v := (-2 : Int32)) hx hb dX11_fact_13 (by decide) ?_
    exact zret_iw ⟨(0 : Int32), f_sight_1⟩ zc hS hw hM dX11_fact_15
set_option maxRecDepth 20000 in
theorem c_m_fact (l : Launch) {E : zE} {q : Nat} {f_code : Int32} {a_tape : Nat → Int32} {a_size : Nat → Int32} {a_fault : Nat → Int32} {a_faultPlace : Nat → Int32} {a_many : Nat → Int32} {a_lands : Nat → Int32} {a_evenings : Nat → Int32} {a_sights : Nat → Int32} {a_choirs : Nat → Int32} {f_reached : Int32} {f_length : Int32} {f_begins : Int32} {f_sort : Int32} {f_value : Int32} {f_word : Int64} {f_wrongAt : Int32} {f_laterFault : Int32} {f_laterPlace : Int32} {a_told : Nat → Int32} {a_read : Nat → Int32} {f_farHut : Int32} {f_farSinger : Int32} {f_good : Int32} {f_land : Int32} {f_huts : Int32} {f_singers : Int32} {f_evening : Int32} {a_at : Nat → Int32} {a_knows : Nat → Int32} {a_climbed : Nat → Int32} {a_snow : Nat → Int32} {a_level : Nat → Int32} {f_begun : Int32} {f_minute : Int32} {f_avalanches : Int32} {a_run : Nat → Int32} {a_covers : Nat → Int32} {a_routes : Nat → Int32} {a_longest : Nat → Int32} {a_steep : Nat → Int32} {a_laid : Nat → Int32} {a_far : Nat → Int32} {f_sight : Int32} {a_runs : Nat → Int32} {f_choir : Int32} {f_voices : Int32} {a_rest : Nat → Int64} {a_wins : Nat → Int32} {f_seed : Int32} {a_other : Nat → Int32} {a_kept : Nat → Int32} {x1 : Int32} {x2 : Int32} {x3 : Int32} {post : Int32 → (Int32) → (Int32) → Prop} (hw : q_m_fact_0 f_code a_many a_sights f_sight x1 x2 x3 post) : Met l yX11_fact (Cond.code yX11_fact cX11_fact 4 (some .int) :: zb) rm_m_fact (va_Pc [.ref q, .int x1, .int x2, .int x3] (fun U => mW E q f_code a_tape a_size a_fault a_faultPlace a_many a_lands a_evenings a_sights a_choirs f_reached f_length f_begins f_sort f_value f_word f_wrongAt f_laterFault f_laterPlace a_told a_read f_farHut f_farSinger f_good f_land f_huts f_singers f_evening a_at a_knows a_climbed a_snow a_level f_begun f_minute f_avalanches a_run a_covers a_routes a_longest a_steep a_laid a_far f_sight a_runs f_choir f_voices a_rest a_wins f_seed a_other a_kept U.heap ∧ zK E U)) (zQi (S := (Int32) × (Int32)) (fun r u => post r u.1 u.2) (fun u H => mW E q u.1 a_tape a_size a_fault a_faultPlace a_many a_lands a_evenings a_sights a_choirs f_reached f_length f_begins f_sort f_value f_word f_wrongAt f_laterFault f_laterPlace a_told a_read f_farHut f_farSinger f_good f_land f_huts f_singers f_evening a_at a_knows a_climbed a_snow a_level f_begun f_minute f_avalanches a_run a_covers a_routes a_longest a_steep a_laid a_far u.2 a_runs f_choir f_voices a_rest a_wins f_seed a_other a_kept H) (mA q)) 0 0 (mA q) := by
  refine Met.ofW (cc := cX11_fact) (maxL := 4) (ret := (some .int)) (by decide) rfl ?_
  intro p e s m args below meth c s₁ B hml hv
  obtain ⟨rfl, hM, hK⟩ := hv
  have zc := zc_of B hml
  have hl := lv_entry ([.ref q, .int x1, .int x2, .int x3]) (n := 4) (Nat.le_of_ble_eq_true rfl)
  rw [lg_entry_eq]
  generalize (lg_sl ([.ref q, .int x1, .int x2, .int x3]) ++ List.replicate (4 - (lg_sl ([.ref q, .int x1, .int x2, .int x3])).length) Slot.unset).toArray = ls at hl ⊢
  have hl : lv_has ls 4 [(0, .ref q), (1, .int x1), (2, .int x2), (3, .int x3)] := hl
  exact t_m_fact_0 zc hK hM va_S.rf (lv_sub hl [0, 1, 2, 3] rfl) hw
-- m_isFit
abbrev rm_m_isFit : Room := { frames := 3, cells := 0, slots := 0, locals := 70 }
def q_m_isFit_89 (P41 : Int32 → Prop) (a_lands : Nat → Int32) (a_sights : Nat → Int32) (f_land : Int32) (f_huts : Int32) (a_run : Nat → Int32) (f_sight : Int32) (a_runs : Nat → Int32) (x1 : Int32) (x2 : Int32) (y0 : Int32) (y1 : Int32) (post : Int32 → (Nat → Int32) → (Nat → Int32) → Prop) : Prop :=
  (y0 = y1 → (∀ v_1 : Int32, v_1 = x2 + (1 : Int32) → (P41 v_1))) ∧ (¬ y0 = y1 → (post (0 : Int32) a_run a_runs))
def q_m_isFit_74 (P41 : Int32 → Prop) (a_lands : Nat → Int32) (a_sights : Nat → Int32) (f_land : Int32) (f_huts : Int32) (a_run : Nat → Int32) (f_sight : Int32) (a_runs : Nat → Int32) (x1 : Int32) (x2 : Int32) (y0 : Int32) (post : Int32 → (Nat → Int32) → (Nat → Int32) → Prop) : Prop :=
  q_m_factOf_0 a_sights f_sight x2 (0 : Int32) (fun r_1 => (¬ r_1 = (1 : Int32) → (q_m_isFit_89 P41 a_lands a_sights f_land f_huts a_run f_sight a_runs x1 x2 y0 (0 : Int32) post)) ∧ (r_1 = (1 : Int32) → (q_m_isFit_89 P41 a_lands a_sights f_land f_huts a_run f_sight a_runs x1 x2 y0 (1 : Int32) post)))
def q_m_isFit_41 (a_lands : Nat → Int32) (a_sights : Nat → Int32) (f_land : Int32) (f_huts : Int32) (a_run : Nat → Int32) (f_sight : Int32) (a_runs : Nat → Int32) (x1 : Int32) (x2 : Int32) (post : Int32 → (Nat → Int32) → (Nat → Int32) → Prop) : Prop :=
  ∀ P41 : Int32 → Prop, (∀ (x2 : Int32), (q_m_facts_0 a_sights f_sight (fun r_1 => (r_1 ≤ x2 → (q_m_isDam_0 a_lands f_land x1 (fun r_2 => (¬ r_2 = 0 → (post (0 : Int32) a_run a_runs)) ∧ (r_2 = 0 → (post (1 : Int32) a_run a_runs))))) ∧ (¬ r_1 ≤ x2 → (q_m_factOf_0 a_sights f_sight x2 (1 : Int32) (fun r_3 => vp_in r_3 9 ∧ (q_m_factOf_0 a_sights f_sight x2 (2 : Int32) (fun r_4 => (r_4 < (a_run (Int32.toNatClampNeg r_3)) → (q_m_isFit_74 P41 a_lands a_sights f_land f_huts a_run f_sight a_runs x1 x2 (0 : Int32) post)) ∧ (¬ r_4 < (a_run (Int32.toNatClampNeg r_3)) → (q_m_isFit_74 P41 a_lands a_sights f_land f_huts a_run f_sight a_runs x1 x2 (1 : Int32) post))))))))) → P41 x2) → P41 x2
def q_m_isFit_8 (a_lands : Nat → Int32) (a_sights : Nat → Int32) (f_land : Int32) (f_huts : Int32) (a_run : Nat → Int32) (f_sight : Int32) (a_runs : Nat → Int32) (x1 : Int32) (x2 : Int32) (post : Int32 → (Nat → Int32) → (Nat → Int32) → Prop) : Prop :=
  ∀ P8 : Int32 → (Nat → Int32) → Prop, (∀ (x2 : Int32) (a_runs : Nat → Int32), ((f_huts ≤ x2 → (q_m_isFit_41 a_lands a_sights f_land f_huts a_run f_sight a_runs x1 (0 : Int32) post)) ∧ (¬ f_huts ≤ x2 → (vp_in x2 9 ∧ (∀ v_1 : Int32, v_1 = (a_run (Int32.toNatClampNeg x2)) → (vp_in (((9 : Int32) * x1) + x2) 81 ∧ (∀ a_runs_1 : Nat → Int32, a_runs_1 = upd a_runs (Int32.toNatClampNeg (((9 : Int32) * x1) + x2)) v_1 → (∀ v_2 : Int32, v_2 = x2 + (1 : Int32) → (P8 v_2 a_runs_1)))))))) → P8 x2 a_runs) → P8 x2 a_runs
def q_m_isFit_0 (a_lands : Nat → Int32) (a_sights : Nat → Int32) (f_land : Int32) (f_huts : Int32) (a_run : Nat → Int32) (f_sight : Int32) (a_runs : Nat → Int32) (x1 : Int32) (post : Int32 → (Nat → Int32) → (Nat → Int32) → Prop) : Prop :=
  q_m_findRun_0 a_lands f_land f_huts a_run x1 (0 : Int32) (fun a_run_1 => q_m_isFit_8 a_lands a_sights f_land f_huts a_run_1 f_sight a_runs x1 (0 : Int32) post)
set_option maxRecDepth 20000 in
theorem t_m_isFit_89 {p : Program} {l : Launch} {e : Env} {s : State} {m : MethodId} {args : Array Value} {below : List Frame} {meth : Method} {c : Code} {E : zE} {q : Nat} {f_code : Int32} {a_tape : Nat → Int32} {a_size : Nat → Int32} {a_fault : Nat → Int32} {a_faultPlace : Nat → Int32} {a_many : Nat → Int32} {a_lands : Nat → Int32} {a_evenings : Nat → Int32} {a_sights : Nat → Int32} {a_choirs : Nat → Int32} {f_reached : Int32} {f_length : Int32} {f_begins : Int32} {f_sort : Int32} {f_value : Int32} {f_word : Int64} {f_wrongAt : Int32} {f_laterFault : Int32} {f_laterPlace : Int32} {a_told : Nat → Int32} {a_read : Nat → Int32} {f_farHut : Int32} {f_farSinger : Int32} {f_good : Int32} {f_land : Int32} {f_huts : Int32} {f_singers : Int32} {f_evening : Int32} {a_at : Nat → Int32} {a_knows : Nat → Int32} {a_climbed : Nat → Int32} {a_snow : Nat → Int32} {a_level : Nat → Int32} {f_begun : Int32} {f_minute : Int32} {f_avalanches : Int32} {a_run : Nat → Int32} {a_covers : Nat → Int32} {a_routes : Nat → Int32} {a_longest : Nat → Int32} {a_steep : Nat → Int32} {a_laid : Nat → Int32} {a_far : Nat → Int32} {f_sight : Int32} {a_runs : Nat → Int32} {f_choir : Int32} {f_voices : Int32} {a_rest : Nat → Int64} {a_wins : Nat → Int32} {f_seed : Int32} {a_other : Nat → Int32} {a_kept : Nat → Int32} {P41 : Int32 → Prop} {post : Int32 → (Nat → Int32) → (Nat → Int32) → Prop} {x1 : Int32} {x2 : Int32} {y0 : Int32} {y1 : Int32} {ls : Array Slot} {H : Heap} {locs : List Loc}
    (zc : zC p s m args meth c cX11_isFit 3 RX11 (some .boolean))
    (hK : zK E s)
    (hM : mW E q f_code a_tape a_size a_fault a_faultPlace a_many a_lands a_evenings a_sights a_choirs f_reached f_length f_begins f_sort f_value f_word f_wrongAt f_laterFault f_laterPlace a_told a_read f_farHut f_farSinger f_good f_land f_huts f_singers f_evening a_at a_knows a_climbed a_snow a_level f_begun f_minute f_avalanches a_run a_covers a_routes a_longest a_steep a_laid a_far f_sight a_runs f_choir f_voices a_rest a_wins f_seed a_other a_kept H)
    (hS : va_S (mA q) s.heap H locs)
    (hP41 : ∀ (x2 : Int32) (H : Heap) (locs : List Loc) (ls : Array Slot), P41 x2 → lv_has ls 3 [(0, .ref q), (1, .int x1), (2, .int x2)] → mW E q f_code a_tape a_size a_fault a_faultPlace a_many a_lands a_evenings a_sights a_choirs f_reached f_length f_begins f_sort f_value f_word f_wrongAt f_laterFault f_laterPlace a_told a_read f_farHut f_farSinger f_good f_land f_huts f_singers f_evening a_at a_knows a_climbed a_snow a_level f_begun f_minute f_avalanches a_run a_covers a_routes a_longest a_steep a_laid a_far f_sight a_runs f_choir f_voices a_rest a_wins f_seed a_other a_kept H → va_S (mA q) s.heap H locs → W p l e rm_m_isFit s m args below meth c H locs 0 0 (MQ below (zQi (S := (Nat → Int32) × (Nat → Int32)) (fun r u => post r u.1 u.2) (fun u H => mW E q f_code a_tape a_size a_fault a_faultPlace a_many a_lands a_evenings a_sights a_choirs f_reached f_length f_begins f_sort f_value f_word f_wrongAt f_laterFault f_laterPlace a_told a_read f_farHut f_farSinger f_good f_land f_huts f_singers f_evening a_at a_knows a_climbed a_snow a_level f_begun f_minute f_avalanches u.1 a_covers a_routes a_longest a_steep a_laid a_far f_sight u.2 f_choir f_voices a_rest a_wins f_seed a_other a_kept H) (mA q)) args s 0 0 (mA q)) (F0 m 41 ls []))
    (hl : lv_has ls 3 [(0, .ref q), (1, .int x1), (2, .int x2)])
    (hw : q_m_isFit_89 P41 a_lands a_sights f_land f_huts a_run f_sight a_runs x1 x2 y0 y1 post) :
    W p l e rm_m_isFit s m args below meth c H locs 0 0 (MQ below (zQi (S := (Nat → Int32) × (Nat → Int32)) (fun r u => post r u.1 u.2) (fun u H => mW E q f_code a_tape a_size a_fault a_faultPlace a_many a_lands a_evenings a_sights a_choirs f_reached f_length f_begins f_sort f_value f_word f_wrongAt f_laterFault f_laterPlace a_told a_read f_farHut f_farSinger f_good f_land f_huts f_singers f_evening a_at a_knows a_climbed a_snow a_level f_begun f_minute f_avalanches u.1 a_covers a_routes a_longest a_steep a_laid a_far f_sight u.2 f_choir f_voices a_rest a_wins f_seed a_other a_kept H) (mA q)) args s 0 0 (mA q)) (F0 m 89 ls [.int y1, .int y0]) := by
  have hx := zc.1
  have hb := zc.2.1
  refine lv_icmp_eq (tgt := 94) hx hb dX11_isFit_89 (by decide) (fun hc => ?_) (fun hc => ?_)
  · have hw := hw.1 hc
    obtain ⟨v_1, ev_1⟩ : ∃ y : Int32, y = x2 + (1 : Int32) := ⟨_, rfl⟩
    have hw := hw v_1 ev_1
    refine lv_iinc (v := v_1) (k := 2) (lv' := [(2, .int v_1), (0, .ref q), (1, .int x1)]) hx hb dX11_isFit_94 hl rfl (by rw [ev_1]; rfl) (by decide) rfl (fun ls hl => ?_)
    refine lv_goto (tgt := 41) hx hb dX11_isFit_97 (by decide) ?_
    exact hP41 _ _ _ _ hw (lv_sub hl [1, 2, 0] rfl) hM hS
  · have hw := hw.2 hc
    refine lv_iconst (v := (0 : Int32)) hx hb dX11_isFit_92 (by decide) ?_
    exact zret_zw ⟨a_run, a_runs⟩ zc hS rfl hw hM dX11_isFit_93
set_option maxRecDepth 20000 in
theorem t_m_isFit_74 {p : Program} {l : Launch} {e : Env} {s : State} {m : MethodId} {args : Array Value} {below : List Frame} {meth : Method} {c : Code} {E : zE} {q : Nat} {f_code : Int32} {a_tape : Nat → Int32} {a_size : Nat → Int32} {a_fault : Nat → Int32} {a_faultPlace : Nat → Int32} {a_many : Nat → Int32} {a_lands : Nat → Int32} {a_evenings : Nat → Int32} {a_sights : Nat → Int32} {a_choirs : Nat → Int32} {f_reached : Int32} {f_length : Int32} {f_begins : Int32} {f_sort : Int32} {f_value : Int32} {f_word : Int64} {f_wrongAt : Int32} {f_laterFault : Int32} {f_laterPlace : Int32} {a_told : Nat → Int32} {a_read : Nat → Int32} {f_farHut : Int32} {f_farSinger : Int32} {f_good : Int32} {f_land : Int32} {f_huts : Int32} {f_singers : Int32} {f_evening : Int32} {a_at : Nat → Int32} {a_knows : Nat → Int32} {a_climbed : Nat → Int32} {a_snow : Nat → Int32} {a_level : Nat → Int32} {f_begun : Int32} {f_minute : Int32} {f_avalanches : Int32} {a_run : Nat → Int32} {a_covers : Nat → Int32} {a_routes : Nat → Int32} {a_longest : Nat → Int32} {a_steep : Nat → Int32} {a_laid : Nat → Int32} {a_far : Nat → Int32} {f_sight : Int32} {a_runs : Nat → Int32} {f_choir : Int32} {f_voices : Int32} {a_rest : Nat → Int64} {a_wins : Nat → Int32} {f_seed : Int32} {a_other : Nat → Int32} {a_kept : Nat → Int32} {P41 : Int32 → Prop} {post : Int32 → (Nat → Int32) → (Nat → Int32) → Prop} {x1 : Int32} {x2 : Int32} {y0 : Int32} {ls : Array Slot} {H : Heap} {locs : List Loc}
    (zc : zC p s m args meth c cX11_isFit 3 RX11 (some .boolean))
    (hK : zK E s)
    (hM : mW E q f_code a_tape a_size a_fault a_faultPlace a_many a_lands a_evenings a_sights a_choirs f_reached f_length f_begins f_sort f_value f_word f_wrongAt f_laterFault f_laterPlace a_told a_read f_farHut f_farSinger f_good f_land f_huts f_singers f_evening a_at a_knows a_climbed a_snow a_level f_begun f_minute f_avalanches a_run a_covers a_routes a_longest a_steep a_laid a_far f_sight a_runs f_choir f_voices a_rest a_wins f_seed a_other a_kept H)
    (hS : va_S (mA q) s.heap H locs)
    (hP41 : ∀ (x2 : Int32) (H : Heap) (locs : List Loc) (ls : Array Slot), P41 x2 → lv_has ls 3 [(0, .ref q), (1, .int x1), (2, .int x2)] → mW E q f_code a_tape a_size a_fault a_faultPlace a_many a_lands a_evenings a_sights a_choirs f_reached f_length f_begins f_sort f_value f_word f_wrongAt f_laterFault f_laterPlace a_told a_read f_farHut f_farSinger f_good f_land f_huts f_singers f_evening a_at a_knows a_climbed a_snow a_level f_begun f_minute f_avalanches a_run a_covers a_routes a_longest a_steep a_laid a_far f_sight a_runs f_choir f_voices a_rest a_wins f_seed a_other a_kept H → va_S (mA q) s.heap H locs → W p l e rm_m_isFit s m args below meth c H locs 0 0 (MQ below (zQi (S := (Nat → Int32) × (Nat → Int32)) (fun r u => post r u.1 u.2) (fun u H => mW E q f_code a_tape a_size a_fault a_faultPlace a_many a_lands a_evenings a_sights a_choirs f_reached f_length f_begins f_sort f_value f_word f_wrongAt f_laterFault f_laterPlace a_told a_read f_farHut f_farSinger f_good f_land f_huts f_singers f_evening a_at a_knows a_climbed a_snow a_level f_begun f_minute f_avalanches u.1 a_covers a_routes a_longest a_steep a_laid a_far f_sight u.2 f_choir f_voices a_rest a_wins f_seed a_other a_kept H) (mA q)) args s 0 0 (mA q)) (F0 m 41 ls []))
    (hl : lv_has ls 3 [(0, .ref q), (1, .int x1), (2, .int x2)])
    (hw : q_m_isFit_74 P41 a_lands a_sights f_land f_huts a_run f_sight a_runs x1 x2 y0 post) :
    W p l e rm_m_isFit s m args below meth c H locs 0 0 (MQ below (zQi (S := (Nat → Int32) × (Nat → Int32)) (fun r u => post r u.1 u.2) (fun u H => mW E q f_code a_tape a_size a_fault a_faultPlace a_many a_lands a_evenings a_sights a_choirs f_reached f_length f_begins f_sort f_value f_word f_wrongAt f_laterFault f_laterPlace a_told a_read f_farHut f_farSinger f_good f_land f_huts f_singers f_evening a_at a_knows a_climbed a_snow a_level f_begun f_minute f_avalanches u.1 a_covers a_routes a_longest a_steep a_laid a_far f_sight u.2 f_choir f_voices a_rest a_wins f_seed a_other a_kept H) (mA q)) args s 0 0 (mA q)) (F0 m 74 ls [.int y0]) := by
  have hx := zc.1
  have hb := zc.2.1
  refine lv_aload_n hx hb dX11_isFit_74 rfl (lv_at hl 0 rfl) ?_
  refine lv_iload_n hx hb dX11_isFit_75 rfl (lv_at hl 2 rfl) ?_
  refine lv_iconst (v := (0 : Int32)) hx hb dX11_isFit_76 (by decide) ?_
  refine zV_i [.int x2, .int (0 : Int32)] [.int y0] zc ky_X11_factOf kz_X11_factOf km_11_466 (c_m_factOf l hw) (mPreV0 hK hM) rfl rfl hl.1 (Nat.le_of_ble_eq_true rfl) ⟨rfl, rfl⟩ ⟨Nat.le_of_ble_eq_true rfl, Nat.le_of_ble_eq_true rfl⟩ ⟨(Nat.zero_le _), (Nat.zero_le _)⟩ dX11_isFit_77 (fun r_1 hw => ?_)
  refine lv_iconst (v := (1 : Int32)) hx hb dX11_isFit_80 (by decide) ?_
  refine lv_icmp_ne (tgt := 88) hx hb dX11_isFit_81 (by decide) (fun hc => ?_) (fun hc => ?_)
  · have hw := hw.1 hc
    refine lv_iconst (v := (0 : Int32)) hx hb dX11_isFit_88 (by decide) ?_
    exact t_m_isFit_89 zc hK hM hS hP41 (lv_sub hl [0, 1, 2] rfl) hw
  · have hw := hw.2 hc
    refine lv_iconst (v := (1 : Int32)) hx hb dX11_isFit_84 (by decide) ?_
    refine lv_goto (tgt := 89) hx hb dX11_isFit_85 (by decide) ?_
    exact t_m_isFit_89 zc hK hM hS hP41 (lv_sub hl [0, 1, 2] rfl) hw
set_option maxRecDepth 20000 in
theorem t_m_isFit_41 {p : Program} {l : Launch} {e : Env} {s : State} {m : MethodId} {args : Array Value} {below : List Frame} {meth : Method} {c : Code} {E : zE} {q : Nat} {f_code : Int32} {a_tape : Nat → Int32} {a_size : Nat → Int32} {a_fault : Nat → Int32} {a_faultPlace : Nat → Int32} {a_many : Nat → Int32} {a_lands : Nat → Int32} {a_evenings : Nat → Int32} {a_sights : Nat → Int32} {a_choirs : Nat → Int32} {f_reached : Int32} {f_length : Int32} {f_begins : Int32} {f_sort : Int32} {f_value : Int32} {f_word : Int64} {f_wrongAt : Int32} {f_laterFault : Int32} {f_laterPlace : Int32} {a_told : Nat → Int32} {a_read : Nat → Int32} {f_farHut : Int32} {f_farSinger : Int32} {f_good : Int32} {f_land : Int32} {f_huts : Int32} {f_singers : Int32} {f_evening : Int32} {a_at : Nat → Int32} {a_knows : Nat → Int32} {a_climbed : Nat → Int32} {a_snow : Nat → Int32} {a_level : Nat → Int32} {f_begun : Int32} {f_minute : Int32} {f_avalanches : Int32} {a_run : Nat → Int32} {a_covers : Nat → Int32} {a_routes : Nat → Int32} {a_longest : Nat → Int32} {a_steep : Nat → Int32} {a_laid : Nat → Int32} {a_far : Nat → Int32} {f_sight : Int32} {a_runs : Nat → Int32} {f_choir : Int32} {f_voices : Int32} {a_rest : Nat → Int64} {a_wins : Nat → Int32} {f_seed : Int32} {a_other : Nat → Int32} {a_kept : Nat → Int32} {post : Int32 → (Nat → Int32) → (Nat → Int32) → Prop} {x1 : Int32} {x2 : Int32} {ls : Array Slot} {H : Heap} {locs : List Loc}
    (zc : zC p s m args meth c cX11_isFit 3 RX11 (some .boolean))
    (hK : zK E s)
    (hM : mW E q f_code a_tape a_size a_fault a_faultPlace a_many a_lands a_evenings a_sights a_choirs f_reached f_length f_begins f_sort f_value f_word f_wrongAt f_laterFault f_laterPlace a_told a_read f_farHut f_farSinger f_good f_land f_huts f_singers f_evening a_at a_knows a_climbed a_snow a_level f_begun f_minute f_avalanches a_run a_covers a_routes a_longest a_steep a_laid a_far f_sight a_runs f_choir f_voices a_rest a_wins f_seed a_other a_kept H)
    (hS : va_S (mA q) s.heap H locs)
    (hl : lv_has ls 3 [(0, .ref q), (1, .int x1), (2, .int x2)])
    (hw : q_m_isFit_41 a_lands a_sights f_land f_huts a_run f_sight a_runs x1 x2 post) :
    W p l e rm_m_isFit s m args below meth c H locs 0 0 (MQ below (zQi (S := (Nat → Int32) × (Nat → Int32)) (fun r u => post r u.1 u.2) (fun u H => mW E q f_code a_tape a_size a_fault a_faultPlace a_many a_lands a_evenings a_sights a_choirs f_reached f_length f_begins f_sort f_value f_word f_wrongAt f_laterFault f_laterPlace a_told a_read f_farHut f_farSinger f_good f_land f_huts f_singers f_evening a_at a_knows a_climbed a_snow a_level f_begun f_minute f_avalanches u.1 a_covers a_routes a_longest a_steep a_laid a_far f_sight u.2 f_choir f_voices a_rest a_wins f_seed a_other a_kept H) (mA q)) args s 0 0 (mA q)) (F0 m 41 ls []) := by
  have hx := zc.1
  have hb := zc.2.1
  refine hw (fun x2 => ∀ (H : Heap) (locs : List Loc) (ls : Array Slot), lv_has ls 3 [(0, .ref q), (1, .int x1), (2, .int x2)] → mW E q f_code a_tape a_size a_fault a_faultPlace a_many a_lands a_evenings a_sights a_choirs f_reached f_length f_begins f_sort f_value f_word f_wrongAt f_laterFault f_laterPlace a_told a_read f_farHut f_farSinger f_good f_land f_huts f_singers f_evening a_at a_knows a_climbed a_snow a_level f_begun f_minute f_avalanches a_run a_covers a_routes a_longest a_steep a_laid a_far f_sight a_runs f_choir f_voices a_rest a_wins f_seed a_other a_kept H → va_S (mA q) s.heap H locs → W p l e rm_m_isFit s m args below meth c H locs 0 0 (MQ below (zQi (S := (Nat → Int32) × (Nat → Int32)) (fun r u => post r u.1 u.2) (fun u H => mW E q f_code a_tape a_size a_fault a_faultPlace a_many a_lands a_evenings a_sights a_choirs f_reached f_length f_begins f_sort f_value f_word f_wrongAt f_laterFault f_laterPlace a_told a_read f_farHut f_farSinger f_good f_land f_huts f_singers f_evening a_at a_knows a_climbed a_snow a_level f_begun f_minute f_avalanches u.1 a_covers a_routes a_longest a_steep a_laid a_far f_sight u.2 f_choir f_voices a_rest a_wins f_seed a_other a_kept H) (mA q)) args s 0 0 (mA q)) (F0 m 41 ls [])) ?_ _ _ _ hl hM hS
  intro x2 hw H locs ls hl hM hS
  refine lv_iload_n hx hb dX11_isFit_41 rfl (lv_at hl 2 rfl) ?_
  refine lv_aload_n hx hb dX11_isFit_42 rfl (lv_at hl 0 rfl) ?_
  refine zV_i [] [.int x2] zc ky_X11_facts kz_X11_facts km_11_463 (c_m_facts l hw) (mPreV0 hK hM) rfl rfl hl.1 (Nat.le_of_ble_eq_true rfl) ⟨rfl, rfl⟩ ⟨Nat.le_of_ble_eq_true rfl, Nat.le_of_ble_eq_true rfl⟩ ⟨(Nat.zero_le _), (Nat.zero_le _)⟩ dX11_isFit_43 (fun r_1 hw => ?_)
  refine lv_icmp_ge (tgt := 100) hx hb dX11_isFit_46 (by decide) (fun hc => ?_) (fun hc => ?_)
  · have hw := hw.1 hc
    refine lv_aload_n hx hb dX11_isFit_100 rfl (lv_at hl 0 rfl) ?_
    refine lv_iload_n hx hb dX11_isFit_101 rfl (lv_at hl 1 rfl) ?_
    refine zV_i [.int x1] [] zc ky_X11_isDam kz_X11_isDam km_11_355 (c_m_isDam l hw) (mPreV0 hK hM) rfl rfl hl.1 (Nat.le_of_ble_eq_true rfl) ⟨rfl, rfl⟩ ⟨Nat.le_of_ble_eq_true rfl, Nat.le_of_ble_eq_true rfl⟩ ⟨(Nat.zero_le _), (Nat.zero_le _)⟩ dX11_isFit_102 (fun r_2 hw => ?_)
    refine lv_if_ne (tgt := 112) hx hb dX11_isFit_105 (by decide) (fun hc => ?_) (fun hc => ?_)
    · have hw := hw.1 hc
      refine lv_iconst (v := (0 : Int32)) hx hb dX11_isFit_112 (by decide) ?_
      exact zret_zw ⟨a_run, a_runs⟩ zc hS rfl hw hM dX11_isFit_113
    · have hw := hw.2 hc
      refine lv_iconst (v := (1 : Int32)) hx hb dX11_isFit_108 (by decide) ?_
      refine lv_goto (tgt := 113) hx hb dX11_isFit_109 (by decide) ?_
      exact zret_zw ⟨a_run, a_runs⟩ zc hS rfl hw hM dX11_isFit_113
  · have hw := hw.2 hc
    refine lv_aload_n hx hb dX11_isFit_49 rfl (lv_at hl 0 rfl) ?_
    refine mg_11_59_0 zc hK hM dX11_isFit_50 ?_
    refine lv_aload_n hx hb dX11_isFit_53 rfl (lv_at hl 0 rfl) ?_
    refine lv_iload_n hx hb dX11_isFit_54 rfl (lv_at hl 2 rfl) ?_
    refine lv_iconst (v := (1 : Int32)) hx hb dX11_isFit_55 (by decide) ?_
    refine zV_i [.int x2, .int (1 : Int32)] [.ref (q + 17)] zc ky_X11_factOf kz_X11_factOf km_11_466 (c_m_factOf l hw) (mPreV0 hK hM) rfl rfl hl.1 (Nat.le_of_ble_eq_true rfl) ⟨rfl, rfl⟩ ⟨Nat.le_of_ble_eq_true rfl, Nat.le_of_ble_eq_true rfl⟩ ⟨(Nat.zero_le _), (Nat.zero_le _)⟩ dX11_isFit_56 (fun r_3 hw => ?_)
    refine mld_17 zc hK hM hw.1 dX11_isFit_59 ?_
    have hw := hw.2
    refine lv_aload_n hx hb dX11_isFit_60 rfl (lv_at hl 0 rfl) ?_
    refine lv_iload_n hx hb dX11_isFit_61 rfl (lv_at hl 2 rfl) ?_
    refine lv_iconst (v := (2 : Int32)) hx hb dX11_isFit_62 (by decide) ?_
    refine zV_i [.int x2, .int (2 : Int32)] [.int (a_run (Int32.toNatClampNeg r_3))] zc ky_X11_factOf kz_X11_factOf km_11_466 (c_m_factOf l hw) (mPreV0 hK hM) rfl rfl hl.1 (Nat.le_of_ble_eq_true rfl) ⟨rfl, rfl⟩ ⟨Nat.le_of_ble_eq_true rfl, Nat.le_of_ble_eq_true rfl⟩ ⟨(Nat.zero_le _), (Nat.zero_le _)⟩ dX11_isFit_63 (fun r_4 hw => ?_)
    refine lv_icmp_gt (tgt := 73) hx hb dX11_isFit_66 (by decide) (fun hc => ?_) (fun hc => ?_)
    · have hw := hw.1 hc
      refine lv_iconst (v := (0 : Int32)) hx hb dX11_isFit_73 (by decide) ?_
      exact t_m_isFit_74 zc hK hM hS (fun _ H locs ls h hl hM hS => h H locs ls hl hM hS) (lv_sub hl [0, 1, 2] rfl) hw
    · have hw := hw.2 hc
      refine lv_iconst (v := (1 : Int32)) hx hb dX11_isFit_69 (by decide) ?_
      refine lv_goto (tgt := 74) hx hb dX11_isFit_70 (by decide) ?_
      exact t_m_isFit_74 zc hK hM hS (fun _ H locs ls h hl hM hS => h H locs ls hl hM hS) (lv_sub hl [0, 1, 2] rfl) hw
set_option maxRecDepth 20000 in
theorem t_m_isFit_8 {p : Program} {l : Launch} {e : Env} {s : State} {m : MethodId} {args : Array Value} {below : List Frame} {meth : Method} {c : Code} {E : zE} {q : Nat} {f_code : Int32} {a_tape : Nat → Int32} {a_size : Nat → Int32} {a_fault : Nat → Int32} {a_faultPlace : Nat → Int32} {a_many : Nat → Int32} {a_lands : Nat → Int32} {a_evenings : Nat → Int32} {a_sights : Nat → Int32} {a_choirs : Nat → Int32} {f_reached : Int32} {f_length : Int32} {f_begins : Int32} {f_sort : Int32} {f_value : Int32} {f_word : Int64} {f_wrongAt : Int32} {f_laterFault : Int32} {f_laterPlace : Int32} {a_told : Nat → Int32} {a_read : Nat → Int32} {f_farHut : Int32} {f_farSinger : Int32} {f_good : Int32} {f_land : Int32} {f_huts : Int32} {f_singers : Int32} {f_evening : Int32} {a_at : Nat → Int32} {a_knows : Nat → Int32} {a_climbed : Nat → Int32} {a_snow : Nat → Int32} {a_level : Nat → Int32} {f_begun : Int32} {f_minute : Int32} {f_avalanches : Int32} {a_run : Nat → Int32} {a_covers : Nat → Int32} {a_routes : Nat → Int32} {a_longest : Nat → Int32} {a_steep : Nat → Int32} {a_laid : Nat → Int32} {a_far : Nat → Int32} {f_sight : Int32} {a_runs : Nat → Int32} {f_choir : Int32} {f_voices : Int32} {a_rest : Nat → Int64} {a_wins : Nat → Int32} {f_seed : Int32} {a_other : Nat → Int32} {a_kept : Nat → Int32} {post : Int32 → (Nat → Int32) → (Nat → Int32) → Prop} {x1 : Int32} {x2 : Int32} {ls : Array Slot} {H : Heap} {locs : List Loc}
    (zc : zC p s m args meth c cX11_isFit 3 RX11 (some .boolean))
    (hK : zK E s)
    (hM : mW E q f_code a_tape a_size a_fault a_faultPlace a_many a_lands a_evenings a_sights a_choirs f_reached f_length f_begins f_sort f_value f_word f_wrongAt f_laterFault f_laterPlace a_told a_read f_farHut f_farSinger f_good f_land f_huts f_singers f_evening a_at a_knows a_climbed a_snow a_level f_begun f_minute f_avalanches a_run a_covers a_routes a_longest a_steep a_laid a_far f_sight a_runs f_choir f_voices a_rest a_wins f_seed a_other a_kept H)
    (hS : va_S (mA q) s.heap H locs)
    (hl : lv_has ls 3 [(0, .ref q), (1, .int x1), (2, .int x2)])
    (hw : q_m_isFit_8 a_lands a_sights f_land f_huts a_run f_sight a_runs x1 x2 post) :
    W p l e rm_m_isFit s m args below meth c H locs 0 0 (MQ below (zQi (S := (Nat → Int32) × (Nat → Int32)) (fun r u => post r u.1 u.2) (fun u H => mW E q f_code a_tape a_size a_fault a_faultPlace a_many a_lands a_evenings a_sights a_choirs f_reached f_length f_begins f_sort f_value f_word f_wrongAt f_laterFault f_laterPlace a_told a_read f_farHut f_farSinger f_good f_land f_huts f_singers f_evening a_at a_knows a_climbed a_snow a_level f_begun f_minute f_avalanches u.1 a_covers a_routes a_longest a_steep a_laid a_far f_sight u.2 f_choir f_voices a_rest a_wins f_seed a_other a_kept H) (mA q)) args s 0 0 (mA q)) (F0 m 8 ls []) := by
  have hx := zc.1
  have hb := zc.2.1
  refine hw (fun x2 a_runs => ∀ (H : Heap) (locs : List Loc) (ls : Array Slot), lv_has ls 3 [(0, .ref q), (1, .int x1), (2, .int x2)] → mW E q f_code a_tape a_size a_fault a_faultPlace a_many a_lands a_evenings a_sights a_choirs f_reached f_length f_begins f_sort f_value f_word f_wrongAt f_laterFault f_laterPlace a_told a_read f_farHut f_farSinger f_good f_land f_huts f_singers f_evening a_at a_knows a_climbed a_snow a_level f_begun f_minute f_avalanches a_run a_covers a_routes a_longest a_steep a_laid a_far f_sight a_runs f_choir f_voices a_rest a_wins f_seed a_other a_kept H → va_S (mA q) s.heap H locs → W p l e rm_m_isFit s m args below meth c H locs 0 0 (MQ below (zQi (S := (Nat → Int32) × (Nat → Int32)) (fun r u => post r u.1 u.2) (fun u H => mW E q f_code a_tape a_size a_fault a_faultPlace a_many a_lands a_evenings a_sights a_choirs f_reached f_length f_begins f_sort f_value f_word f_wrongAt f_laterFault f_laterPlace a_told a_read f_farHut f_farSinger f_good f_land f_huts f_singers f_evening a_at a_knows a_climbed a_snow a_level f_begun f_minute f_avalanches u.1 a_covers a_routes a_longest a_steep a_laid a_far f_sight u.2 f_choir f_voices a_rest a_wins f_seed a_other a_kept H) (mA q)) args s 0 0 (mA q)) (F0 m 8 ls [])) ?_ _ _ _ hl hM hS
  intro x2 a_runs hw H locs ls hl hM hS
  refine lv_iload_n hx hb dX11_isFit_8 rfl (lv_at hl 2 rfl) ?_
  refine lv_aload_n hx hb dX11_isFit_9 rfl (lv_at hl 0 rfl) ?_
  refine mg_11_307_0 zc hK hM dX11_isFit_10 ?_
  refine lv_icmp_ge (tgt := 39) hx hb dX11_isFit_13 (by decide) (fun hc => ?_) (fun hc => ?_)
  · have hw := hw.1 hc
    refine lv_iconst (v := (0 : Int32)) hx hb dX11_isFit_39 (by decide) ?_
    refine lv_istore_n (lv' := [(2, .int (0 : Int32)), (0, .ref q), (1, .int x1)]) hx hb dX11_isFit_40 rfl hl (by decide) rfl (fun ls hl => ?_)
    exact t_m_isFit_41 zc hK hM hS  (lv_sub hl [1, 2, 0] rfl) hw
  · have hw := hw.2 hc
    refine lv_aload_n hx hb dX11_isFit_16 rfl (lv_at hl 0 rfl) ?_
    refine mg_11_81_0 zc hK hM dX11_isFit_17 ?_
    refine lv_bipush (v := (9 : Int32)) hx hb dX11_isFit_20 (by decide) ?_
    refine lv_iload_n hx hb dX11_isFit_22 rfl (lv_at hl 1 rfl) ?_
    refine lv_imul hx hb dX11_isFit_23 ?_
    refine lv_iload_n hx hb dX11_isFit_24 rfl (lv_at hl 2 rfl) ?_
    refine lv_iadd hx hb dX11_isFit_25 ?_
    refine lv_aload_n hx hb dX11_isFit_26 rfl (lv_at hl 0 rfl) ?_
    refine mg_11_59_0 zc hK hM dX11_isFit_27 ?_
    refine lv_iload_n hx hb dX11_isFit_30 rfl (lv_at hl 2 rfl) ?_
    refine mld_17 zc hK hM hw.1 dX11_isFit_31 ?_
    have hw := hw.2
    refine lv_topi (fun v_1 ev_1 => ?_)
    have hw := hw v_1 ev_1
    refine mst_24 zc hK hM hS hw.1 dX11_isFit_32 (fun a_runs_1 H locs ea_runs_1 hM hS => ?_)
    have hw := hw.2 a_runs_1 ea_runs_1
    obtain ⟨v_2, ev_2⟩ : ∃ y : Int32, y = x2 + (1 : Int32) := ⟨_, rfl⟩
    have hw := hw v_2 ev_2
    refine lv_iinc (v := v_2) (k := 2) (lv' := [(2, .int v_2), (0, .ref q), (1, .int x1)]) hx hb dX11_isFit_33 hl rfl (by rw [ev_2]; rfl) (by decide) rfl (fun ls hl => ?_)
    refine lv_goto (tgt := 8) hx hb dX11_isFit_36 (by decide) ?_
    exact hw _ _ _ (lv_sub hl [1, 2, 0] rfl) hM hS
set_option maxRecDepth 20000 in
theorem t_m_isFit_0 {p : Program} {l : Launch} {e : Env} {s : State} {m : MethodId} {args : Array Value} {below : List Frame} {meth : Method} {c : Code} {E : zE} {q : Nat} {f_code : Int32} {a_tape : Nat → Int32} {a_size : Nat → Int32} {a_fault : Nat → Int32} {a_faultPlace : Nat → Int32} {a_many : Nat → Int32} {a_lands : Nat → Int32} {a_evenings : Nat → Int32} {a_sights : Nat → Int32} {a_choirs : Nat → Int32} {f_reached : Int32} {f_length : Int32} {f_begins : Int32} {f_sort : Int32} {f_value : Int32} {f_word : Int64} {f_wrongAt : Int32} {f_laterFault : Int32} {f_laterPlace : Int32} {a_told : Nat → Int32} {a_read : Nat → Int32} {f_farHut : Int32} {f_farSinger : Int32} {f_good : Int32} {f_land : Int32} {f_huts : Int32} {f_singers : Int32} {f_evening : Int32} {a_at : Nat → Int32} {a_knows : Nat → Int32} {a_climbed : Nat → Int32} {a_snow : Nat → Int32} {a_level : Nat → Int32} {f_begun : Int32} {f_minute : Int32} {f_avalanches : Int32} {a_run : Nat → Int32} {a_covers : Nat → Int32} {a_routes : Nat → Int32} {a_longest : Nat → Int32} {a_steep : Nat → Int32} {a_laid : Nat → Int32} {a_far : Nat → Int32} {f_sight : Int32} {a_runs : Nat → Int32} {f_choir : Int32} {f_voices : Int32} {a_rest : Nat → Int64} {a_wins : Nat → Int32} {f_seed : Int32} {a_other : Nat → Int32} {a_kept : Nat → Int32} {post : Int32 → (Nat → Int32) → (Nat → Int32) → Prop} {x1 : Int32} {ls : Array Slot} {H : Heap} {locs : List Loc}
    (zc : zC p s m args meth c cX11_isFit 3 RX11 (some .boolean))
    (hK : zK E s)
    (hM : mW E q f_code a_tape a_size a_fault a_faultPlace a_many a_lands a_evenings a_sights a_choirs f_reached f_length f_begins f_sort f_value f_word f_wrongAt f_laterFault f_laterPlace a_told a_read f_farHut f_farSinger f_good f_land f_huts f_singers f_evening a_at a_knows a_climbed a_snow a_level f_begun f_minute f_avalanches a_run a_covers a_routes a_longest a_steep a_laid a_far f_sight a_runs f_choir f_voices a_rest a_wins f_seed a_other a_kept H)
    (hS : va_S (mA q) s.heap H locs)
    (hl : lv_has ls 3 [(0, .ref q), (1, .int x1)])
    (hw : q_m_isFit_0 a_lands a_sights f_land f_huts a_run f_sight a_runs x1 post) :
    W p l e rm_m_isFit s m args below meth c H locs 0 0 (MQ below (zQi (S := (Nat → Int32) × (Nat → Int32)) (fun r u => post r u.1 u.2) (fun u H => mW E q f_code a_tape a_size a_fault a_faultPlace a_many a_lands a_evenings a_sights a_choirs f_reached f_length f_begins f_sort f_value f_word f_wrongAt f_laterFault f_laterPlace a_told a_read f_farHut f_farSinger f_good f_land f_huts f_singers f_evening a_at a_knows a_climbed a_snow a_level f_begun f_minute f_avalanches u.1 a_covers a_routes a_longest a_steep a_laid a_far f_sight u.2 f_choir f_voices a_rest a_wins f_seed a_other a_kept H) (mA q)) args s 0 0 (mA q)) (F0 m 0 ls []) := by
  have hx := zc.1
  have hb := zc.2.1
  refine lv_aload_n hx hb dX11_isFit_0 rfl (lv_at hl 0 rfl) ?_
  refine lv_iload_n hx hb dX11_isFit_1 rfl (lv_at hl 1 rfl) ?_
  refine lv_iconst (v := (0 : Int32)) hx hb dX11_isFit_2 (by decide) ?_
  refine zVw_v [.int x1, .int (0 : Int32)] [] zc ky_X11_findRun kz_X11_findRun km_11_414 (c_m_findRun l hw) (mPreV0 hK hM) hS rfl rfl hl.1 (Nat.le_of_ble_eq_true rfl) ⟨rfl, rfl⟩ ⟨Nat.le_of_ble_eq_true rfl, Nat.le_of_ble_eq_true rfl⟩ ⟨(Nat.zero_le _), (Nat.zero_le _)⟩ dX11_isFit_3 (fun a_run_1 H locs hw hM hS => ?_)
  refine lv_iconst (v := (0 : Int32)) hx hb dX11_isFit_6 (by decide) ?_
  refine lv_istore_n (lv' := [(2, .int (0 : Int32)), (0, .ref q), (1, .int x1)]) hx hb dX11_isFit_7 rfl hl (by decide) rfl (fun ls hl => ?_)
  exact t_m_isFit_8 zc hK hM hS  (lv_sub hl [1, 2, 0] rfl) hw
set_option maxRecDepth 20000 in
theorem c_m_isFit (l : Launch) {E : zE} {q : Nat} {f_code : Int32} {a_tape : Nat → Int32} {a_size : Nat → Int32} {a_fault : Nat → Int32} {a_faultPlace : Nat → Int32} {a_many : Nat → Int32} {a_lands : Nat → Int32} {a_evenings : Nat → Int32} {a_sights : Nat → Int32} {a_choirs : Nat → Int32} {f_reached : Int32} {f_length : Int32} {f_begins : Int32} {f_sort : Int32} {f_value : Int32} {f_word : Int64} {f_wrongAt : Int32} {f_laterFault : Int32} {f_laterPlace : Int32} {a_told : Nat → Int32} {a_read : Nat → Int32} {f_farHut : Int32} {f_farSinger : Int32} {f_good : Int32} {f_land : Int32} {f_huts : Int32} {f_singers : Int32} {f_evening : Int32} {a_at : Nat → Int32} {a_knows : Nat → Int32} {a_climbed : Nat → Int32} {a_snow : Nat → Int32} {a_level : Nat → Int32} {f_begun : Int32} {f_minute : Int32} {f_avalanches : Int32} {a_run : Nat → Int32} {a_covers : Nat → Int32} {a_routes : Nat → Int32} {a_longest : Nat → Int32} {a_steep : Nat → Int32} {a_laid : Nat → Int32} {a_far : Nat → Int32} {f_sight : Int32} {a_runs : Nat → Int32} {f_choir : Int32} {f_voices : Int32} {a_rest : Nat → Int64} {a_wins : Nat → Int32} {f_seed : Int32} {a_other : Nat → Int32} {a_kept : Nat → Int32} {x1 : Int32} {post : Int32 → (Nat → Int32) → (Nat → Int32) → Prop} (hw : q_m_isFit_0 a_lands a_sights f_land f_huts a_run f_sight a_runs x1 post) : Met l yX11_isFit (Cond.code yX11_isFit cX11_isFit 3 (some .boolean) :: zb) rm_m_isFit (va_Pc [.ref q, .int x1] (fun U => mW E q f_code a_tape a_size a_fault a_faultPlace a_many a_lands a_evenings a_sights a_choirs f_reached f_length f_begins f_sort f_value f_word f_wrongAt f_laterFault f_laterPlace a_told a_read f_farHut f_farSinger f_good f_land f_huts f_singers f_evening a_at a_knows a_climbed a_snow a_level f_begun f_minute f_avalanches a_run a_covers a_routes a_longest a_steep a_laid a_far f_sight a_runs f_choir f_voices a_rest a_wins f_seed a_other a_kept U.heap ∧ zK E U)) (zQi (S := (Nat → Int32) × (Nat → Int32)) (fun r u => post r u.1 u.2) (fun u H => mW E q f_code a_tape a_size a_fault a_faultPlace a_many a_lands a_evenings a_sights a_choirs f_reached f_length f_begins f_sort f_value f_word f_wrongAt f_laterFault f_laterPlace a_told a_read f_farHut f_farSinger f_good f_land f_huts f_singers f_evening a_at a_knows a_climbed a_snow a_level f_begun f_minute f_avalanches u.1 a_covers a_routes a_longest a_steep a_laid a_far f_sight u.2 f_choir f_voices a_rest a_wins f_seed a_other a_kept H) (mA q)) 0 0 (mA q) := by
  refine Met.ofW (cc := cX11_isFit) (maxL := 3) (ret := (some .boolean)) (by decide) rfl ?_
  intro p e s m args below meth c s₁ B hml hv
  obtain ⟨rfl, hM, hK⟩ := hv
  have zc := zc_of B hml
  have hl := lv_entry ([.ref q, .int x1]) (n := 3) (Nat.le_of_ble_eq_true rfl)
  rw [lg_entry_eq]
  generalize (lg_sl ([.ref q, .int x1]) ++ List.replicate (3 - (lg_sl ([.ref q, .int x1])).length) Slot.unset).toArray = ls at hl ⊢
  have hl : lv_has ls 3 [(0, .ref q), (1, .int x1)] := hl
  exact t_m_isFit_0 zc hK hM va_S.rf (lv_sub hl [0, 1] rfl) hw
-- m_askOf
abbrev rm_m_askOf : Room := { frames := 2, cells := 0, slots := 0, locals := 43 }
def q_m_askOf_128 (P9 : Int32 → Int32 → Int32 → Prop) (f_huts : Int32) (a_runs : Nat → Int32) (x1 : Int32) (x2 : Int32) (x3 : Int32) (x4 : Int32) (post : Int32 → Prop) : Prop :=
  ∀ v_1 : Int32, v_1 = x4 + (1 : Int32) → (P9 x2 x3 v_1)
def q_m_askOf_120 (P9 : Int32 → Int32 → Int32 → Prop) (f_huts : Int32) (a_runs : Nat → Int32) (x1 : Int32) (x3 : Int32) (x4 : Int32) (x7 : Int32) (y0 : Int32) (post : Int32 → Prop) : Prop :=
  q_m_lesser_0 x3 x7 (fun r_1 => q_m_askOf_128 P9 f_huts a_runs x1 y0 r_1 x4 post)
def q_m_askOf_85 (P9 : Int32 → Int32 → Int32 → Prop) (P39 : Int32 → Int32 → Prop) (f_huts : Int32) (a_runs : Nat → Int32) (x1 : Int32) (x2 : Int32) (x3 : Int32) (x4 : Int32) (x5 : Int32) (x7 : Int32) (y0 : Int32) (y1 : Int32) (post : Int32 → Prop) : Prop :=
  ∀ v_1 : Int32, v_1 = (y0 + y1) → (∀ v_2 : Int32, v_2 = x7 + (1 : Int32) → (P39 v_1 v_2))
def q_m_askOf_84 (P9 : Int32 → Int32 → Int32 → Prop) (P39 : Int32 → Int32 → Prop) (f_huts : Int32) (a_runs : Nat → Int32) (x1 : Int32) (x2 : Int32) (x3 : Int32) (x4 : Int32) (x5 : Int32) (x7 : Int32) (y0 : Int32) (post : Int32 → Prop) : Prop :=
  q_m_askOf_85 P9 P39 f_huts a_runs x1 x2 x3 x4 x5 x7 y0 (0 : Int32) post
def q_m_askOf_39 (P9 : Int32 → Int32 → Int32 → Prop) (f_huts : Int32) (a_runs : Nat → Int32) (x1 : Int32) (x2 : Int32) (x3 : Int32) (x4 : Int32) (x5 : Int32) (x6 : Int32) (x7 : Int32) (post : Int32 → Prop) : Prop :=
  ∀ P39 : Int32 → Int32 → Prop, (∀ (x6 : Int32) (x7 : Int32), ((f_huts ≤ x7 → (q_m_ones_0 x1 (fun r_1 => q_m_greater_0 x6 (r_1 - x6) (fun r_2 => (x3 ≤ r_2 → (q_m_askOf_120 P9 f_huts a_runs x1 x3 x4 r_2 x2 post)) ∧ (¬ x3 ≤ r_2 → (q_m_askOf_120 P9 f_huts a_runs x1 x3 x4 r_2 x4 post)))))) ∧ (¬ f_huts ≤ x7 → (q_m_has_0 x1 x7 (fun r_3 => (r_3 = 0 → (q_m_askOf_84 P9 P39 f_huts a_runs x1 x2 x3 x4 x5 x7 x6 post)) ∧ (¬ r_3 = 0 → (vp_in (((9 : Int32) * x7) + x5) 81 ∧ (((x4 / (10 : Int32)) < (a_runs (Int32.toNatClampNeg (((9 : Int32) * x7) + x5))) → (q_m_askOf_84 P9 P39 f_huts a_runs x1 x2 x3 x4 x5 x7 x6 post)) ∧ (¬ (x4 / (10 : Int32)) < (a_runs (Int32.toNatClampNeg (((9 : Int32) * x7) + x5))) → (q_m_askOf_85 P9 P39 f_huts a_runs x1 x2 x3 x4 x5 x7 x6 (1 : Int32) post))))))))) → P39 x6 x7) → P39 x6 x7
def q_m_askOf_9 (f_huts : Int32) (a_runs : Nat → Int32) (x1 : Int32) (x2 : Int32) (x3 : Int32) (x4 : Int32) (post : Int32 → Prop) : Prop :=
  ∀ P9 : Int32 → Int32 → Int32 → Prop, (∀ (x2 : Int32) (x3 : Int32) (x4 : Int32), (((608 : Int32) < x4 → (post x2)) ∧ (¬ (608 : Int32) < x4 → (∀ v_1 : Int32, v_1 = (x4 - x4 / (10 : Int32) * (10 : Int32)) → (q_m_isHut_0 f_huts v_1 (fun r_1 => (r_1 = 0 → (q_m_askOf_128 P9 f_huts a_runs x1 x2 x3 x4 post)) ∧ (¬ r_1 = 0 → (q_m_askOf_39 P9 f_huts a_runs x1 x2 x3 x4 v_1 (0 : Int32) (0 : Int32) post))))))) → P9 x2 x3 x4) → P9 x2 x3 x4
def q_m_askOf_0 (f_huts : Int32) (a_runs : Nat → Int32) (x1 : Int32) (post : Int32 → Prop) : Prop :=
  q_m_askOf_9 f_huts a_runs x1 (-1 : Int32) (1000000 : Int32) (0 : Int32) post
set_option maxRecDepth 20000 in
theorem t_m_askOf_128 {p : Program} {l : Launch} {e : Env} {s : State} {m : MethodId} {args : Array Value} {below : List Frame} {meth : Method} {c : Code} {E : zE} {q : Nat} {f_code : Int32} {a_tape : Nat → Int32} {a_size : Nat → Int32} {a_fault : Nat → Int32} {a_faultPlace : Nat → Int32} {a_many : Nat → Int32} {a_lands : Nat → Int32} {a_evenings : Nat → Int32} {a_sights : Nat → Int32} {a_choirs : Nat → Int32} {f_reached : Int32} {f_length : Int32} {f_begins : Int32} {f_sort : Int32} {f_value : Int32} {f_word : Int64} {f_wrongAt : Int32} {f_laterFault : Int32} {f_laterPlace : Int32} {a_told : Nat → Int32} {a_read : Nat → Int32} {f_farHut : Int32} {f_farSinger : Int32} {f_good : Int32} {f_land : Int32} {f_huts : Int32} {f_singers : Int32} {f_evening : Int32} {a_at : Nat → Int32} {a_knows : Nat → Int32} {a_climbed : Nat → Int32} {a_snow : Nat → Int32} {a_level : Nat → Int32} {f_begun : Int32} {f_minute : Int32} {f_avalanches : Int32} {a_run : Nat → Int32} {a_covers : Nat → Int32} {a_routes : Nat → Int32} {a_longest : Nat → Int32} {a_steep : Nat → Int32} {a_laid : Nat → Int32} {a_far : Nat → Int32} {f_sight : Int32} {a_runs : Nat → Int32} {f_choir : Int32} {f_voices : Int32} {a_rest : Nat → Int64} {a_wins : Nat → Int32} {f_seed : Int32} {a_other : Nat → Int32} {a_kept : Nat → Int32} {P9 : Int32 → Int32 → Int32 → Prop} {post : Int32 → Prop} {x1 : Int32} {x2 : Int32} {x3 : Int32} {x4 : Int32} {ls : Array Slot}
    (zc : zC p s m args meth c cX11_askOf 8 RX11 (some .int))
    (hK : zK E s)
    (hM : mW E q f_code a_tape a_size a_fault a_faultPlace a_many a_lands a_evenings a_sights a_choirs f_reached f_length f_begins f_sort f_value f_word f_wrongAt f_laterFault f_laterPlace a_told a_read f_farHut f_farSinger f_good f_land f_huts f_singers f_evening a_at a_knows a_climbed a_snow a_level f_begun f_minute f_avalanches a_run a_covers a_routes a_longest a_steep a_laid a_far f_sight a_runs f_choir f_voices a_rest a_wins f_seed a_other a_kept s.heap)
    (hP9 : ∀ (x2 : Int32) (x3 : Int32) (x4 : Int32) (ls : Array Slot), P9 x2 x3 x4 → lv_has ls 8 [(0, .ref q), (1, .int x1), (2, .int x2), (3, .int x3), (4, .int x4)] → W p l e rm_m_askOf s m args below meth c s.heap [] 0 0 (MQ below (vp_Si post) args s 0 0 (fun _ => False)) (F0 m 9 ls []))
    (hl : lv_has ls 8 [(0, .ref q), (1, .int x1), (2, .int x2), (3, .int x3), (4, .int x4)])
    (hw : q_m_askOf_128 P9 f_huts a_runs x1 x2 x3 x4 post) :
    W p l e rm_m_askOf s m args below meth c s.heap [] 0 0 (MQ below (vp_Si post) args s 0 0 (fun _ => False)) (F0 m 128 ls []) := by
  have hx := zc.1
  have hb := zc.2.1
  obtain ⟨v_1, ev_1⟩ : ∃ y : Int32, y = x4 + (1 : Int32) := ⟨_, rfl⟩
  have hw := hw v_1 ev_1
  refine lv_iinc (v := v_1) (k := 4) (lv' := [(4, .int v_1), (0, .ref q), (1, .int x1), (2, .int x2), (3, .int x3)]) hx hb dX11_askOf_128 hl rfl (by rw [ev_1]; rfl) (by decide) rfl (fun ls hl => ?_)
  refine lv_goto (tgt := 9) hx hb dX11_askOf_131 (by decide) ?_
  exact hP9 _ _ _ _ hw (lv_sub hl [1, 2, 3, 4, 0] rfl)
set_option maxRecDepth 20000 in
theorem t_m_askOf_120 {p : Program} {l : Launch} {e : Env} {s : State} {m : MethodId} {args : Array Value} {below : List Frame} {meth : Method} {c : Code} {E : zE} {q : Nat} {f_code : Int32} {a_tape : Nat → Int32} {a_size : Nat → Int32} {a_fault : Nat → Int32} {a_faultPlace : Nat → Int32} {a_many : Nat → Int32} {a_lands : Nat → Int32} {a_evenings : Nat → Int32} {a_sights : Nat → Int32} {a_choirs : Nat → Int32} {f_reached : Int32} {f_length : Int32} {f_begins : Int32} {f_sort : Int32} {f_value : Int32} {f_word : Int64} {f_wrongAt : Int32} {f_laterFault : Int32} {f_laterPlace : Int32} {a_told : Nat → Int32} {a_read : Nat → Int32} {f_farHut : Int32} {f_farSinger : Int32} {f_good : Int32} {f_land : Int32} {f_huts : Int32} {f_singers : Int32} {f_evening : Int32} {a_at : Nat → Int32} {a_knows : Nat → Int32} {a_climbed : Nat → Int32} {a_snow : Nat → Int32} {a_level : Nat → Int32} {f_begun : Int32} {f_minute : Int32} {f_avalanches : Int32} {a_run : Nat → Int32} {a_covers : Nat → Int32} {a_routes : Nat → Int32} {a_longest : Nat → Int32} {a_steep : Nat → Int32} {a_laid : Nat → Int32} {a_far : Nat → Int32} {f_sight : Int32} {a_runs : Nat → Int32} {f_choir : Int32} {f_voices : Int32} {a_rest : Nat → Int64} {a_wins : Nat → Int32} {f_seed : Int32} {a_other : Nat → Int32} {a_kept : Nat → Int32} {P9 : Int32 → Int32 → Int32 → Prop} {post : Int32 → Prop} {x1 : Int32} {x3 : Int32} {x4 : Int32} {x7 : Int32} {y0 : Int32} {ls : Array Slot}
    (zc : zC p s m args meth c cX11_askOf 8 RX11 (some .int))
    (hK : zK E s)
    (hM : mW E q f_code a_tape a_size a_fault a_faultPlace a_many a_lands a_evenings a_sights a_choirs f_reached f_length f_begins f_sort f_value f_word f_wrongAt f_laterFault f_laterPlace a_told a_read f_farHut f_farSinger f_good f_land f_huts f_singers f_evening a_at a_knows a_climbed a_snow a_level f_begun f_minute f_avalanches a_run a_covers a_routes a_longest a_steep a_laid a_far f_sight a_runs f_choir f_voices a_rest a_wins f_seed a_other a_kept s.heap)
    (hP9 : ∀ (x2 : Int32) (x3 : Int32) (x4 : Int32) (ls : Array Slot), P9 x2 x3 x4 → lv_has ls 8 [(0, .ref q), (1, .int x1), (2, .int x2), (3, .int x3), (4, .int x4)] → W p l e rm_m_askOf s m args below meth c s.heap [] 0 0 (MQ below (vp_Si post) args s 0 0 (fun _ => False)) (F0 m 9 ls []))
    (hl : lv_has ls 8 [(0, .ref q), (1, .int x1), (3, .int x3), (4, .int x4), (7, .int x7)])
    (hw : q_m_askOf_120 P9 f_huts a_runs x1 x3 x4 x7 y0 post) :
    W p l e rm_m_askOf s m args below meth c s.heap [] 0 0 (MQ below (vp_Si post) args s 0 0 (fun _ => False)) (F0 m 120 ls [.int y0]) := by
  have hx := zc.1
  have hb := zc.2.1
  refine lv_istore_n (lv' := [(2, .int y0), (0, .ref q), (1, .int x1), (3, .int x3), (4, .int x4), (7, .int x7)]) hx hb dX11_askOf_120 rfl hl (by decide) rfl (fun ls hl => ?_)
  refine lv_iload_n hx hb dX11_askOf_121 rfl (lv_at hl 3 rfl) ?_
  refine lv_iload hx hb dX11_askOf_122 (lv_at hl 5 rfl) ?_
  refine zS_i [.int x3, .int x7] [] zc ky_X11_lesser kz_X11_lesser km_11_411 (c_m_lesser l hw) (zPre0 _) rfl rfl hl.1 (Nat.le_of_ble_eq_true rfl) ⟨rfl, rfl⟩ ⟨Nat.le_of_ble_eq_true rfl, Nat.le_of_ble_eq_true rfl⟩ ⟨(Nat.zero_le _), (Nat.zero_le _)⟩ dX11_askOf_124 (fun r_1 hw => ?_)
  refine lv_istore_n (lv' := [(3, .int r_1), (2, .int y0), (0, .ref q), (1, .int x1), (4, .int x4), (7, .int x7)]) hx hb dX11_askOf_127 rfl hl (by decide) rfl (fun ls hl => ?_)
  exact t_m_askOf_128 zc hK hM hP9 (lv_sub hl [2, 3, 1, 0, 4] rfl) hw
set_option maxRecDepth 20000 in
theorem t_m_askOf_85 {p : Program} {l : Launch} {e : Env} {s : State} {m : MethodId} {args : Array Value} {below : List Frame} {meth : Method} {c : Code} {E : zE} {q : Nat} {f_code : Int32} {a_tape : Nat → Int32} {a_size : Nat → Int32} {a_fault : Nat → Int32} {a_faultPlace : Nat → Int32} {a_many : Nat → Int32} {a_lands : Nat → Int32} {a_evenings : Nat → Int32} {a_sights : Nat → Int32} {a_choirs : Nat → Int32} {f_reached : Int32} {f_length : Int32} {f_begins : Int32} {f_sort : Int32} {f_value : Int32} {f_word : Int64} {f_wrongAt : Int32} {f_laterFault : Int32} {f_laterPlace : Int32} {a_told : Nat → Int32} {a_read : Nat → Int32} {f_farHut : Int32} {f_farSinger : Int32} {f_good : Int32} {f_land : Int32} {f_huts : Int32} {f_singers : Int32} {f_evening : Int32} {a_at : Nat → Int32} {a_knows : Nat → Int32} {a_climbed : Nat → Int32} {a_snow : Nat → Int32} {a_level : Nat → Int32} {f_begun : Int32} {f_minute : Int32} {f_avalanches : Int32} {a_run : Nat → Int32} {a_covers : Nat → Int32} {a_routes : Nat → Int32} {a_longest : Nat → Int32} {a_steep : Nat → Int32} {a_laid : Nat → Int32} {a_far : Nat → Int32} {f_sight : Int32} {a_runs : Nat → Int32} {f_choir : Int32} {f_voices : Int32} {a_rest : Nat → Int64} {a_wins : Nat → Int32} {f_seed : Int32} {a_other : Nat → Int32} {a_kept : Nat → Int32} {P9 : Int32 → Int32 → Int32 → Prop} {P39 : Int32 → Int32 → Prop} {post : Int32 → Prop} {x1 : Int32} {x2 : Int32} {x3 : Int32} {x4 : Int32} {x5 : Int32} {x7 : Int32} {y0 : Int32} {y1 : Int32} {ls : Array Slot}
    (zc : zC p s m args meth c cX11_askOf 8 RX11 (some .int))
    (hK : zK E s)
    (hM : mW E q f_code a_tape a_size a_fault a_faultPlace a_many a_lands a_evenings a_sights a_choirs f_reached f_length f_begins f_sort f_value f_word f_wrongAt f_laterFault f_laterPlace a_told a_read f_farHut f_farSinger f_good f_land f_huts f_singers f_evening a_at a_knows a_climbed a_snow a_level f_begun f_minute f_avalanches a_run a_covers a_routes a_longest a_steep a_laid a_far f_sight a_runs f_choir f_voices a_rest a_wins f_seed a_other a_kept s.heap)
    (hP9 : ∀ (x2 : Int32) (x3 : Int32) (x4 : Int32) (ls : Array Slot), P9 x2 x3 x4 → lv_has ls 8 [(0, .ref q), (1, .int x1), (2, .int x2), (3, .int x3), (4, .int x4)] → W p l e rm_m_askOf s m args below meth c s.heap [] 0 0 (MQ below (vp_Si post) args s 0 0 (fun _ => False)) (F0 m 9 ls []))
    (hP39 : ∀ (x6 : Int32) (x7 : Int32) (ls : Array Slot), P39 x6 x7 → lv_has ls 8 [(0, .ref q), (1, .int x1), (2, .int x2), (3, .int x3), (4, .int x4), (5, .int x5), (6, .int x6), (7, .int x7)] → W p l e rm_m_askOf s m args below meth c s.heap [] 0 0 (MQ below (vp_Si post) args s 0 0 (fun _ => False)) (F0 m 39 ls []))
    (hl : lv_has ls 8 [(0, .ref q), (1, .int x1), (2, .int x2), (3, .int x3), (4, .int x4), (5, .int x5), (7, .int x7)])
    (hw : q_m_askOf_85 P9 P39 f_huts a_runs x1 x2 x3 x4 x5 x7 y0 y1 post) :
    W p l e rm_m_askOf s m args below meth c s.heap [] 0 0 (MQ below (vp_Si post) args s 0 0 (fun _ => False)) (F0 m 85 ls [.int y1, .int y0]) := by
  have hx := zc.1
  have hb := zc.2.1
  refine lv_iadd hx hb dX11_askOf_85 ?_
  refine lv_topi (fun v_1 ev_1 => ?_)
  have hw := hw v_1 ev_1
  refine lv_istore (lv' := [(6, .int v_1), (0, .ref q), (1, .int x1), (2, .int x2), (3, .int x3), (4, .int x4), (5, .int x5), (7, .int x7)]) hx hb dX11_askOf_86 hl (by decide) rfl (fun ls hl => ?_)
  obtain ⟨v_2, ev_2⟩ : ∃ y : Int32, y = x7 + (1 : Int32) := ⟨_, rfl⟩
  have hw := hw v_2 ev_2
  refine lv_iinc (v := v_2) (k := 7) (lv' := [(7, .int v_2), (6, .int v_1), (0, .ref q), (1, .int x1), (2, .int x2), (3, .int x3), (4, .int x4), (5, .int x5)]) hx hb dX11_askOf_88 hl rfl (by rw [ev_2]; rfl) (by decide) rfl (fun ls hl => ?_)
  refine lv_goto (tgt := 39) hx hb dX11_askOf_91 (by decide) ?_
  exact hP39 _ _ _ hw (lv_sub hl [2, 3, 4, 5, 6, 7, 1, 0] rfl)
set_option maxRecDepth 20000 in
theorem t_m_askOf_84 {p : Program} {l : Launch} {e : Env} {s : State} {m : MethodId} {args : Array Value} {below : List Frame} {meth : Method} {c : Code} {E : zE} {q : Nat} {f_code : Int32} {a_tape : Nat → Int32} {a_size : Nat → Int32} {a_fault : Nat → Int32} {a_faultPlace : Nat → Int32} {a_many : Nat → Int32} {a_lands : Nat → Int32} {a_evenings : Nat → Int32} {a_sights : Nat → Int32} {a_choirs : Nat → Int32} {f_reached : Int32} {f_length : Int32} {f_begins : Int32} {f_sort : Int32} {f_value : Int32} {f_word : Int64} {f_wrongAt : Int32} {f_laterFault : Int32} {f_laterPlace : Int32} {a_told : Nat → Int32} {a_read : Nat → Int32} {f_farHut : Int32} {f_farSinger : Int32} {f_good : Int32} {f_land : Int32} {f_huts : Int32} {f_singers : Int32} {f_evening : Int32} {a_at : Nat → Int32} {a_knows : Nat → Int32} {a_climbed : Nat → Int32} {a_snow : Nat → Int32} {a_level : Nat → Int32} {f_begun : Int32} {f_minute : Int32} {f_avalanches : Int32} {a_run : Nat → Int32} {a_covers : Nat → Int32} {a_routes : Nat → Int32} {a_longest : Nat → Int32} {a_steep : Nat → Int32} {a_laid : Nat → Int32} {a_far : Nat → Int32} {f_sight : Int32} {a_runs : Nat → Int32} {f_choir : Int32} {f_voices : Int32} {a_rest : Nat → Int64} {a_wins : Nat → Int32} {f_seed : Int32} {a_other : Nat → Int32} {a_kept : Nat → Int32} {P9 : Int32 → Int32 → Int32 → Prop} {P39 : Int32 → Int32 → Prop} {post : Int32 → Prop} {x1 : Int32} {x2 : Int32} {x3 : Int32} {x4 : Int32} {x5 : Int32} {x7 : Int32} {y0 : Int32} {ls : Array Slot}
    (zc : zC p s m args meth c cX11_askOf 8 RX11 (some .int))
    (hK : zK E s)
    (hM : mW E q f_code a_tape a_size a_fault a_faultPlace a_many a_lands a_evenings a_sights a_choirs f_reached f_length f_begins f_sort f_value f_word f_wrongAt f_laterFault f_laterPlace a_told a_read f_farHut f_farSinger f_good f_land f_huts f_singers f_evening a_at a_knows a_climbed a_snow a_level f_begun f_minute f_avalanches a_run a_covers a_routes a_longest a_steep a_laid a_far f_sight a_runs f_choir f_voices a_rest a_wins f_seed a_other a_kept s.heap)
    (hP9 : ∀ (x2 : Int32) (x3 : Int32) (x4 : Int32) (ls : Array Slot), P9 x2 x3 x4 → lv_has ls 8 [(0, .ref q), (1, .int x1), (2, .int x2), (3, .int x3), (4, .int x4)] → W p l e rm_m_askOf s m args below meth c s.heap [] 0 0 (MQ below (vp_Si post) args s 0 0 (fun _ => False)) (F0 m 9 ls []))
    (hP39 : ∀ (x6 : Int32) (x7 : Int32) (ls : Array Slot), P39 x6 x7 → lv_has ls 8 [(0, .ref q), (1, .int x1), (2, .int x2), (3, .int x3), (4, .int x4), (5, .int x5), (6, .int x6), (7, .int x7)] → W p l e rm_m_askOf s m args below meth c s.heap [] 0 0 (MQ below (vp_Si post) args s 0 0 (fun _ => False)) (F0 m 39 ls []))
    (hl : lv_has ls 8 [(0, .ref q), (1, .int x1), (2, .int x2), (3, .int x3), (4, .int x4), (5, .int x5), (7, .int x7)])
    (hw : q_m_askOf_84 P9 P39 f_huts a_runs x1 x2 x3 x4 x5 x7 y0 post) :
    W p l e rm_m_askOf s m args below meth c s.heap [] 0 0 (MQ below (vp_Si post) args s 0 0 (fun _ => False)) (F0 m 84 ls [.int y0]) := by
  have hx := zc.1
  have hb := zc.2.1
  refine lv_iconst (v := (0 : Int32)) hx hb dX11_askOf_84 (by decide) ?_
  exact t_m_askOf_85 zc hK hM hP9 hP39 (lv_sub hl [0, 1, 2, 3, 4, 5, 6] rfl) hw
set_option maxRecDepth 20000 in
theorem t_m_askOf_39 {p : Program} {l : Launch} {e : Env} {s : State} {m : MethodId} {args : Array Value} {below : List Frame} {meth : Method} {c : Code} {E : zE} {q : Nat} {f_code : Int32} {a_tape : Nat → Int32} {a_size : Nat → Int32} {a_fault : Nat → Int32} {a_faultPlace : Nat → Int32} {a_many : Nat → Int32} {a_lands : Nat → Int32} {a_evenings : Nat → Int32} {a_sights : Nat → Int32} {a_choirs : Nat → Int32} {f_reached : Int32} {f_length : Int32} {f_begins : Int32} {f_sort : Int32} {f_value : Int32} {f_word : Int64} {f_wrongAt : Int32} {f_laterFault : Int32} {f_laterPlace : Int32} {a_told : Nat → Int32} {a_read : Nat → Int32} {f_farHut : Int32} {f_farSinger : Int32} {f_good : Int32} {f_land : Int32} {f_huts : Int32} {f_singers : Int32} {f_evening : Int32} {a_at : Nat → Int32} {a_knows : Nat → Int32} {a_climbed : Nat → Int32} {a_snow : Nat → Int32} {a_level : Nat → Int32} {f_begun : Int32} {f_minute : Int32} {f_avalanches : Int32} {a_run : Nat → Int32} {a_covers : Nat → Int32} {a_routes : Nat → Int32} {a_longest : Nat → Int32} {a_steep : Nat → Int32} {a_laid : Nat → Int32} {a_far : Nat → Int32} {f_sight : Int32} {a_runs : Nat → Int32} {f_choir : Int32} {f_voices : Int32} {a_rest : Nat → Int64} {a_wins : Nat → Int32} {f_seed : Int32} {a_other : Nat → Int32} {a_kept : Nat → Int32} {P9 : Int32 → Int32 → Int32 → Prop} {post : Int32 → Prop} {x1 : Int32} {x2 : Int32} {x3 : Int32} {x4 : Int32} {x5 : Int32} {x6 : Int32} {x7 : Int32} {ls : Array Slot}
    (zc : zC p s m args meth c cX11_askOf 8 RX11 (some .int))
    (hK : zK E s)
    (hM : mW E q f_code a_tape a_size a_fault a_faultPlace a_many a_lands a_evenings a_sights a_choirs f_reached f_length f_begins f_sort f_value f_word f_wrongAt f_laterFault f_laterPlace a_told a_read f_farHut f_farSinger f_good f_land f_huts f_singers f_evening a_at a_knows a_climbed a_snow a_level f_begun f_minute f_avalanches a_run a_covers a_routes a_longest a_steep a_laid a_far f_sight a_runs f_choir f_voices a_rest a_wins f_seed a_other a_kept s.heap)
    (hP9 : ∀ (x2 : Int32) (x3 : Int32) (x4 : Int32) (ls : Array Slot), P9 x2 x3 x4 → lv_has ls 8 [(0, .ref q), (1, .int x1), (2, .int x2), (3, .int x3), (4, .int x4)] → W p l e rm_m_askOf s m args below meth c s.heap [] 0 0 (MQ below (vp_Si post) args s 0 0 (fun _ => False)) (F0 m 9 ls []))
    (hl : lv_has ls 8 [(0, .ref q), (1, .int x1), (2, .int x2), (3, .int x3), (4, .int x4), (5, .int x5), (6, .int x6), (7, .int x7)])
    (hw : q_m_askOf_39 P9 f_huts a_runs x1 x2 x3 x4 x5 x6 x7 post) :
    W p l e rm_m_askOf s m args below meth c s.heap [] 0 0 (MQ below (vp_Si post) args s 0 0 (fun _ => False)) (F0 m 39 ls []) := by
  have hx := zc.1
  have hb := zc.2.1
  refine hw (fun x6 x7 => ∀ (ls : Array Slot), lv_has ls 8 [(0, .ref q), (1, .int x1), (2, .int x2), (3, .int x3), (4, .int x4), (5, .int x5), (6, .int x6), (7, .int x7)] → W p l e rm_m_askOf s m args below meth c s.heap [] 0 0 (MQ below (vp_Si post) args s 0 0 (fun _ => False)) (F0 m 39 ls [])) ?_ _ hl
  intro x6 x7 hw ls hl
  refine lv_iload hx hb dX11_askOf_39 (lv_at hl 7 rfl) ?_
  refine lv_aload_n hx hb dX11_askOf_41 rfl (lv_at hl 0 rfl) ?_
  refine mg_11_307_0 zc hK hM dX11_askOf_42 ?_
  refine lv_icmp_ge (tgt := 94) hx hb dX11_askOf_45 (by decide) (fun hc => ?_) (fun hc => ?_)
  · have hw := hw.1 hc
    refine lv_iload hx hb dX11_askOf_94 (lv_at hl 6 rfl) ?_
    refine lv_iload_n hx hb dX11_askOf_96 rfl (lv_at hl 1 rfl) ?_
    refine zS_i [.int x1] [.int x6] zc ky_X11_ones kz_X11_ones km_11_429 (c_m_ones l hw) (zPre0 _) rfl rfl hl.1 (Nat.le_of_ble_eq_true rfl) ⟨rfl, rfl⟩ ⟨Nat.le_of_ble_eq_true rfl, Nat.le_of_ble_eq_true rfl⟩ ⟨(Nat.zero_le _), (Nat.zero_le _)⟩ dX11_askOf_97 (fun r_1 hw => ?_)
    refine lv_iload hx hb dX11_askOf_100 (lv_at hl 6 rfl) ?_
    refine lv_isub hx hb dX11_askOf_102 ?_
    refine zS_i [.int x6, .int (r_1 - x6)] [] zc ky_X11_greater kz_X11_greater km_11_171 (c_m_greater l hw) (zPre0 _) rfl rfl hl.1 (Nat.le_of_ble_eq_true rfl) ⟨rfl, rfl⟩ ⟨Nat.le_of_ble_eq_true rfl, Nat.le_of_ble_eq_true rfl⟩ ⟨(Nat.zero_le _), (Nat.zero_le _)⟩ dX11_askOf_103 (fun r_2 hw => ?_)
    refine lv_istore (lv' := [(7, .int r_2), (0, .ref q), (1, .int x1), (2, .int x2), (3, .int x3), (4, .int x4), (5, .int x5), (6, .int x6)]) hx hb dX11_askOf_106 hl (by decide) rfl (fun ls hl => ?_)
    refine lv_iload hx hb dX11_askOf_108 (lv_at hl 0 rfl) ?_
    refine lv_iload_n hx hb dX11_askOf_110 rfl (lv_at hl 4 rfl) ?_
    refine lv_icmp_ge (tgt := 119) hx hb dX11_askOf_111 (by decide) (fun hc => ?_) (fun hc => ?_)
    · have hw := hw.1 hc
      refine lv_iload_n hx hb dX11_askOf_119 rfl (lv_at hl 3 rfl) ?_
      exact t_m_askOf_120 zc hK hM hP9 (lv_sub hl [1, 2, 4, 5, 0] rfl) hw
    · have hw := hw.2 hc
      refine lv_iload hx hb dX11_askOf_114 (lv_at hl 5 rfl) ?_
      refine lv_goto (tgt := 120) hx hb dX11_askOf_116 (by decide) ?_
      exact t_m_askOf_120 zc hK hM hP9 (lv_sub hl [1, 2, 4, 5, 0] rfl) hw
  · have hw := hw.2 hc
    refine lv_iload hx hb dX11_askOf_48 (lv_at hl 6 rfl) ?_
    refine lv_iload_n hx hb dX11_askOf_50 rfl (lv_at hl 1 rfl) ?_
    refine lv_iload hx hb dX11_askOf_51 (lv_at hl 7 rfl) ?_
    refine zS_i [.int x1, .int x7] [.int x6] zc ky_X11_has kz_X11_has km_11_101 (c_m_has l hw) (zPre0 _) rfl rfl hl.1 (Nat.le_of_ble_eq_true rfl) ⟨rfl, rfl⟩ ⟨Nat.le_of_ble_eq_true rfl, Nat.le_of_ble_eq_true rfl⟩ ⟨(Nat.zero_le _), (Nat.zero_le _)⟩ dX11_askOf_53 (fun r_3 hw => ?_)
    refine lv_if_eq (tgt := 84) hx hb dX11_askOf_56 (by decide) (fun hc => ?_) (fun hc => ?_)
    · have hw := hw.1 hc
      exact t_m_askOf_84 zc hK hM hP9 (fun _ _ ls h hl => h ls hl) (lv_sub hl [0, 1, 2, 3, 4, 5, 7] rfl) hw
    · have hw := hw.2 hc
      refine lv_aload_n hx hb dX11_askOf_59 rfl (lv_at hl 0 rfl) ?_
      refine mg_11_81_0 zc hK hM dX11_askOf_60 ?_
      refine lv_bipush (v := (9 : Int32)) hx hb dX11_askOf_63 (by decide) ?_
      refine lv_iload hx hb dX11_askOf_65 (lv_at hl 7 rfl) ?_
      refine lv_imul hx hb dX11_askOf_67 ?_
      refine lv_iload hx hb dX11_askOf_68 (lv_at hl 5 rfl) ?_
      refine lv_iadd hx hb dX11_askOf_70 ?_
      refine mld_24 zc hK hM hw.1 dX11_askOf_71 ?_
      have hw := hw.2
      refine lv_iload hx hb dX11_askOf_72 (lv_at hl 4 rfl) ?_
      refine lv_bipush (v := (10 : Int32)) hx hb dX11_askOf_74 (by decide) ?_
      refine lv_idiv hx hb dX11_askOf_76 (by decide) ?_
      refine lv_icmp_gt (tgt := 84) hx hb dX11_askOf_77 (by decide) (fun hc => ?_) (fun hc => ?_)
      · have hw := hw.1 hc
        exact t_m_askOf_84 zc hK hM hP9 (fun _ _ ls h hl => h ls hl) (lv_sub hl [0, 1, 2, 3, 4, 5, 7] rfl) hw
      · have hw := hw.2 hc
        refine lv_iconst (v := (1 : Int32)) hx hb dX11_askOf_80 (by decide) ?_
        refine lv_goto (tgt := 85) hx hb dX11_askOf_81 (by decide) ?_
        exact t_m_askOf_85 zc hK hM hP9 (fun _ _ ls h hl => h ls hl) (lv_sub hl [0, 1, 2, 3, 4, 5, 7] rfl) hw
set_option maxRecDepth 20000 in
theorem t_m_askOf_9 {p : Program} {l : Launch} {e : Env} {s : State} {m : MethodId} {args : Array Value} {below : List Frame} {meth : Method} {c : Code} {E : zE} {q : Nat} {f_code : Int32} {a_tape : Nat → Int32} {a_size : Nat → Int32} {a_fault : Nat → Int32} {a_faultPlace : Nat → Int32} {a_many : Nat → Int32} {a_lands : Nat → Int32} {a_evenings : Nat → Int32} {a_sights : Nat → Int32} {a_choirs : Nat → Int32} {f_reached : Int32} {f_length : Int32} {f_begins : Int32} {f_sort : Int32} {f_value : Int32} {f_word : Int64} {f_wrongAt : Int32} {f_laterFault : Int32} {f_laterPlace : Int32} {a_told : Nat → Int32} {a_read : Nat → Int32} {f_farHut : Int32} {f_farSinger : Int32} {f_good : Int32} {f_land : Int32} {f_huts : Int32} {f_singers : Int32} {f_evening : Int32} {a_at : Nat → Int32} {a_knows : Nat → Int32} {a_climbed : Nat → Int32} {a_snow : Nat → Int32} {a_level : Nat → Int32} {f_begun : Int32} {f_minute : Int32} {f_avalanches : Int32} {a_run : Nat → Int32} {a_covers : Nat → Int32} {a_routes : Nat → Int32} {a_longest : Nat → Int32} {a_steep : Nat → Int32} {a_laid : Nat → Int32} {a_far : Nat → Int32} {f_sight : Int32} {a_runs : Nat → Int32} {f_choir : Int32} {f_voices : Int32} {a_rest : Nat → Int64} {a_wins : Nat → Int32} {f_seed : Int32} {a_other : Nat → Int32} {a_kept : Nat → Int32} {post : Int32 → Prop} {x1 : Int32} {x2 : Int32} {x3 : Int32} {x4 : Int32} {ls : Array Slot}
    (zc : zC p s m args meth c cX11_askOf 8 RX11 (some .int))
    (hK : zK E s)
    (hM : mW E q f_code a_tape a_size a_fault a_faultPlace a_many a_lands a_evenings a_sights a_choirs f_reached f_length f_begins f_sort f_value f_word f_wrongAt f_laterFault f_laterPlace a_told a_read f_farHut f_farSinger f_good f_land f_huts f_singers f_evening a_at a_knows a_climbed a_snow a_level f_begun f_minute f_avalanches a_run a_covers a_routes a_longest a_steep a_laid a_far f_sight a_runs f_choir f_voices a_rest a_wins f_seed a_other a_kept s.heap)
    (hl : lv_has ls 8 [(0, .ref q), (1, .int x1), (2, .int x2), (3, .int x3), (4, .int x4)])
    (hw : q_m_askOf_9 f_huts a_runs x1 x2 x3 x4 post) :
    W p l e rm_m_askOf s m args below meth c s.heap [] 0 0 (MQ below (vp_Si post) args s 0 0 (fun _ => False)) (F0 m 9 ls []) := by
  have hx := zc.1
  have hb := zc.2.1
  refine hw (fun x2 x3 x4 => ∀ (ls : Array Slot), lv_has ls 8 [(0, .ref q), (1, .int x1), (2, .int x2), (3, .int x3), (4, .int x4)] → W p l e rm_m_askOf s m args below meth c s.heap [] 0 0 (MQ below (vp_Si post) args s 0 0 (fun _ => False)) (F0 m 9 ls [])) ?_ _ hl
  intro x2 x3 x4 hw ls hl
  refine lv_iload hx hb dX11_askOf_9 (lv_at hl 4 rfl) ?_
  refine lv_sipush (v := (608 : Int32)) hx hb dX11_askOf_11 (by decide) ?_
  refine lv_icmp_gt (tgt := 134) hx hb dX11_askOf_14 (by decide) (fun hc => ?_) (fun hc => ?_)
  · have hw := hw.1 hc
    refine lv_iload_n hx hb dX11_askOf_134 rfl (lv_at hl 2 rfl) ?_
    exact zret_i zc hw dX11_askOf_135
  · have hw := hw.2 hc
    refine lv_iload hx hb dX11_askOf_17 (lv_at hl 4 rfl) ?_
    refine lv_bipush (v := (10 : Int32)) hx hb dX11_askOf_19 (by decide) ?_
    refine lv_irem hx hb dX11_askOf_21 (by decide) ?_
    refine lv_topi (fun v_1 ev_1 => ?_)
    have hw := hw v_1 ev_1
    refine lv_istore (lv' := [(5, .int v_1), (0, .ref q), (1, .int x1), (2, .int x2), (3, .int x3), (4, .int x4)]) hx hb dX11_askOf_22 hl (by decide) rfl (fun ls hl => ?_)
    refine lv_aload_n hx hb dX11_askOf_24 rfl (lv_at hl 1 rfl) ?_
    refine lv_iload hx hb dX11_askOf_25 (lv_at hl 0 rfl) ?_
    refine zV_i [.int v_1] [] zc ky_X11_isHut kz_X11_isHut km_11_316 (c_m_isHut l hw) (mPreV0 hK hM) rfl rfl hl.1 (Nat.le_of_ble_eq_true rfl) ⟨rfl, rfl⟩ ⟨Nat.le_of_ble_eq_true rfl, Nat.le_of_ble_eq_true rfl⟩ ⟨(Nat.zero_le _), (Nat.zero_le _)⟩ dX11_askOf_27 (fun r_1 hw => ?_)
    refine lv_if_eq (tgt := 128) hx hb dX11_askOf_30 (by decide) (fun hc => ?_) (fun hc => ?_)
    · have hw := hw.1 hc
      exact t_m_askOf_128 zc hK hM (fun _ _ _ ls h hl => h ls hl) (lv_sub hl [1, 2, 3, 4, 5] rfl) hw
    · have hw := hw.2 hc
      refine lv_iconst (v := (0 : Int32)) hx hb dX11_askOf_33 (by decide) ?_
      refine lv_istore (lv' := [(6, .int (0 : Int32)), (5, .int v_1), (0, .ref q), (1, .int x1), (2, .int x2), (3, .int x3), (4, .int x4)]) hx hb dX11_askOf_34 hl (by decide) rfl (fun ls hl => ?_)
      refine lv_iconst (v := (0 : Int32)) hx hb dX11_askOf_36 (by decide) ?_
      refine lv_istore (lv' := [(7, .int (0 : Int32)), (6, .int (0 : Int32)), (5, .int v_1), (0, .ref q), (1, .int x1), (2, .int x2), (3, .int x3), (4, .int x4)]) hx hb dX11_askOf_37 hl (by decide) rfl (fun ls hl => ?_)
      exact t_m_askOf_39 zc hK hM (fun _ _ _ ls h hl => h ls hl) (lv_sub hl [3, 4, 5, 6, 7, 2, 1, 0] rfl) hw
set_option maxRecDepth 20000 in
theorem t_m_askOf_0 {p : Program} {l : Launch} {e : Env} {s : State} {m : MethodId} {args : Array Value} {below : List Frame} {meth : Method} {c : Code} {E : zE} {q : Nat} {f_code : Int32} {a_tape : Nat → Int32} {a_size : Nat → Int32} {a_fault : Nat → Int32} {a_faultPlace : Nat → Int32} {a_many : Nat → Int32} {a_lands : Nat → Int32} {a_evenings : Nat → Int32} {a_sights : Nat → Int32} {a_choirs : Nat → Int32} {f_reached : Int32} {f_length : Int32} {f_begins : Int32} {f_sort : Int32} {f_value : Int32} {f_word : Int64} {f_wrongAt : Int32} {f_laterFault : Int32} {f_laterPlace : Int32} {a_told : Nat → Int32} {a_read : Nat → Int32} {f_farHut : Int32} {f_farSinger : Int32} {f_good : Int32} {f_land : Int32} {f_huts : Int32} {f_singers : Int32} {f_evening : Int32} {a_at : Nat → Int32} {a_knows : Nat → Int32} {a_climbed : Nat → Int32} {a_snow : Nat → Int32} {a_level : Nat → Int32} {f_begun : Int32} {f_minute : Int32} {f_avalanches : Int32} {a_run : Nat → Int32} {a_covers : Nat → Int32} {a_routes : Nat → Int32} {a_longest : Nat → Int32} {a_steep : Nat → Int32} {a_laid : Nat → Int32} {a_far : Nat → Int32} {f_sight : Int32} {a_runs : Nat → Int32} {f_choir : Int32} {f_voices : Int32} {a_rest : Nat → Int64} {a_wins : Nat → Int32} {f_seed : Int32} {a_other : Nat → Int32} {a_kept : Nat → Int32} {post : Int32 → Prop} {x1 : Int32} {ls : Array Slot}
    (zc : zC p s m args meth c cX11_askOf 8 RX11 (some .int))
    (hK : zK E s)
    (hM : mW E q f_code a_tape a_size a_fault a_faultPlace a_many a_lands a_evenings a_sights a_choirs f_reached f_length f_begins f_sort f_value f_word f_wrongAt f_laterFault f_laterPlace a_told a_read f_farHut f_farSinger f_good f_land f_huts f_singers f_evening a_at a_knows a_climbed a_snow a_level f_begun f_minute f_avalanches a_run a_covers a_routes a_longest a_steep a_laid a_far f_sight a_runs f_choir f_voices a_rest a_wins f_seed a_other a_kept s.heap)
    (hl : lv_has ls 8 [(0, .ref q), (1, .int x1)])
    (hw : q_m_askOf_0 f_huts a_runs x1 post) :
    W p l e rm_m_askOf s m args below meth c s.heap [] 0 0 (MQ below (vp_Si post) args s 0 0 (fun _ => False)) (F0 m 0 ls []) := by
  have hx := zc.1
  have hb := zc.2.1
  refine lv_iconst (v := (-1 : Int32)) hx hb dX11_askOf_0 (by decide) ?_
  refine lv_istore_n (lv' := [(2, .int (-1 : Int32)), (0, .ref q), (1, .int x1)]) hx hb dX11_askOf_1 rfl hl (by decide) rfl (fun ls hl => ?_)
  refine lv_ldcw (v := (1000000 : Int32)) hx hb zc.2.2.2.1 (zc.2.2.2.2.1 _ kc_11_410) dX11_askOf_2 ?_
  refine lv_istore_n (lv' := [(3, .int (1000000 : Int32)), (2, .int (-1 : Int32)), (0, .ref q), (1, .int x1)]) hx hb dX11_askOf_5 rfl hl (by decide) rfl (fun ls hl => ?_)
  refine lv_iconst (v := (0 : Int32)) hx hb dX11_askOf_6 (by decide) ?_
  refine lv_istore (lv' := [(4, .int (0 : Int32)), (3, .int (1000000 : Int32)), (2, .int (-1 : Int32)), (0, .ref q), (1, .int x1)]) hx hb dX11_askOf_7 hl (by decide) rfl (fun ls hl => ?_)
  exact t_m_askOf_9 zc hK hM  (lv_sub hl [3, 4, 2, 1, 0] rfl) hw
set_option maxRecDepth 20000 in
theorem c_m_askOf (l : Launch) {E : zE} {q : Nat} {f_code : Int32} {a_tape : Nat → Int32} {a_size : Nat → Int32} {a_fault : Nat → Int32} {a_faultPlace : Nat → Int32} {a_many : Nat → Int32} {a_lands : Nat → Int32} {a_evenings : Nat → Int32} {a_sights : Nat → Int32} {a_choirs : Nat → Int32} {f_reached : Int32} {f_length : Int32} {f_begins : Int32} {f_sort : Int32} {f_value : Int32} {f_word : Int64} {f_wrongAt : Int32} {f_laterFault : Int32} {f_laterPlace : Int32} {a_told : Nat → Int32} {a_read : Nat → Int32} {f_farHut : Int32} {f_farSinger : Int32} {f_good : Int32} {f_land : Int32} {f_huts : Int32} {f_singers : Int32} {f_evening : Int32} {a_at : Nat → Int32} {a_knows : Nat → Int32} {a_climbed : Nat → Int32} {a_snow : Nat → Int32} {a_level : Nat → Int32} {f_begun : Int32} {f_minute : Int32} {f_avalanches : Int32} {a_run : Nat → Int32} {a_covers : Nat → Int32} {a_routes : Nat → Int32} {a_longest : Nat → Int32} {a_steep : Nat → Int32} {a_laid : Nat → Int32} {a_far : Nat → Int32} {f_sight : Int32} {a_runs : Nat → Int32} {f_choir : Int32} {f_voices : Int32} {a_rest : Nat → Int64} {a_wins : Nat → Int32} {f_seed : Int32} {a_other : Nat → Int32} {a_kept : Nat → Int32} {x1 : Int32} {post : Int32 → Prop} (hw : q_m_askOf_0 f_huts a_runs x1 post) : Met l yX11_askOf (Cond.code yX11_askOf cX11_askOf 8 (some .int) :: zb) rm_m_askOf (va_Pc [.ref q, .int x1] (fun U => mW E q f_code a_tape a_size a_fault a_faultPlace a_many a_lands a_evenings a_sights a_choirs f_reached f_length f_begins f_sort f_value f_word f_wrongAt f_laterFault f_laterPlace a_told a_read f_farHut f_farSinger f_good f_land f_huts f_singers f_evening a_at a_knows a_climbed a_snow a_level f_begun f_minute f_avalanches a_run a_covers a_routes a_longest a_steep a_laid a_far f_sight a_runs f_choir f_voices a_rest a_wins f_seed a_other a_kept U.heap ∧ zK E U)) (vp_Si post) 0 0 (fun _ => False) := by
  refine Met.ofW (cc := cX11_askOf) (maxL := 8) (ret := (some .int)) (by decide) rfl ?_
  intro p e s m args below meth c s₁ B hml hv
  obtain ⟨rfl, hM, hK⟩ := hv
  have zc := zc_of B hml
  have hl := lv_entry ([.ref q, .int x1]) (n := 8) (Nat.le_of_ble_eq_true rfl)
  rw [lg_entry_eq]
  generalize (lg_sl ([.ref q, .int x1]) ++ List.replicate (8 - (lg_sl ([.ref q, .int x1])).length) Slot.unset).toArray = ls at hl ⊢
  have hl : lv_has ls 8 [(0, .ref q), (1, .int x1)] := hl
  exact t_m_askOf_0 zc hK hM (lv_sub hl [0, 1] rfl) hw
-- m_fits
abbrev rm_m_fits : Room := { frames := 4, cells := 0, slots := 0, locals := 92 }
def q_m_fits_93 (P65 : Int32 → Int32 → (Nat → Int32) → (Nat → Int32) → Prop) (f_code : Int32) (a_many : Nat → Int32) (a_lands : Nat → Int32) (a_sights : Nat → Int32) (f_land : Int32) (f_huts : Int32) (f_singers : Int32) (a_run : Nat → Int32) (f_sight : Int32) (a_runs : Nat → Int32) (x3 : Int32) (x5 : Int32) (y0 : Int32) (y1 : Int32) (post : Int32 → (Int32) → (Int32) → (Int32) → (Int32) → (Nat → Int32) → (Int32) → (Nat → Int32) → Prop) : Prop :=
  ∀ v_1 : Int32, v_1 = (y0 ||| y1) → (∀ v_2 : Int32, v_2 = x5 + (1 : Int32) → (P65 v_1 v_2 a_run a_runs))
def q_m_fits_65 (f_code : Int32) (a_many : Nat → Int32) (a_lands : Nat → Int32) (a_sights : Nat → Int32) (f_land : Int32) (f_huts : Int32) (f_singers : Int32) (a_run : Nat → Int32) (f_sight : Int32) (a_runs : Nat → Int32) (x3 : Int32) (x4 : Int32) (x5 : Int32) (post : Int32 → (Int32) → (Int32) → (Int32) → (Int32) → (Nat → Int32) → (Int32) → (Nat → Int32) → Prop) : Prop :=
  ∀ P65 : Int32 → Int32 → (Nat → Int32) → (Nat → Int32) → Prop, (∀ (x4 : Int32) (x5 : Int32) (a_run : Nat → Int32) (a_runs : Nat → Int32), ((f_huts ≤ x5 → ((¬ x3 = 0 → ((¬ x4 = 0 → (q_m_askOf_0 f_huts a_runs x4 (fun r_1 => post r_1 f_code f_land f_huts f_singers a_run f_sight a_runs))) ∧ (x4 = 0 → (post (-1 : Int32) f_code f_land f_huts f_singers a_run f_sight a_runs)))) ∧ (x3 = 0 → (post x4 f_code f_land f_huts f_singers a_run f_sight a_runs)))) ∧ (¬ f_huts ≤ x5 → (q_m_isFit_0 a_lands a_sights f_land f_huts a_run f_sight a_runs x5 (fun r_2 a_run_1 a_runs_1 => (r_2 = 0 → (q_m_fits_93 P65 f_code a_many a_lands a_sights f_land f_huts f_singers a_run_1 f_sight a_runs_1 x3 x5 x4 (0 : Int32) post)) ∧ (¬ r_2 = 0 → (q_m_fits_93 P65 f_code a_many a_lands a_sights f_land f_huts f_singers a_run_1 f_sight a_runs_1 x3 x5 x4 ((1 : Int32) <<< (x5 &&& 31)) post)))))) → P65 x4 x5 a_run a_runs) → P65 x4 x5 a_run a_runs
def q_m_fits_27 (f_code : Int32) (a_many : Nat → Int32) (a_lands : Nat → Int32) (a_sights : Nat → Int32) (f_land : Int32) (f_huts : Int32) (f_singers : Int32) (a_run : Nat → Int32) (f_sight : Int32) (a_runs : Nat → Int32) (x3 : Int32) (x4 : Int32) (post : Int32 → (Int32) → (Int32) → (Int32) → (Int32) → (Nat → Int32) → (Int32) → (Nat → Int32) → Prop) : Prop :=
  ∀ P27 : Int32 → Prop, (∀ (x4 : Int32), (q_m_facts_0 a_sights f_sight (fun r_1 => (r_1 ≤ x4 → (q_m_fits_65 f_code a_many a_lands a_sights f_land f_huts f_singers a_run f_sight a_runs x3 (0 : Int32) (0 : Int32) post)) ∧ (¬ r_1 ≤ x4 → (q_m_factOf_0 a_sights f_sight x4 (1 : Int32) (fun r_2 => q_m_isHut_0 f_huts r_2 (fun r_3 => (¬ r_3 = 0 → (∀ v_1 : Int32, v_1 = x4 + (1 : Int32) → (P27 v_1))) ∧ (r_3 = 0 → (post (-2 : Int32) f_code f_land f_huts f_singers a_run f_sight a_runs)))))))) → P27 x4) → P27 x4
def q_m_fits_0 (f_code : Int32) (a_many : Nat → Int32) (a_lands : Nat → Int32) (a_sights : Nat → Int32) (f_land : Int32) (f_huts : Int32) (f_singers : Int32) (a_run : Nat → Int32) (f_sight : Int32) (a_runs : Nat → Int32) (x1 : Int32) (x2 : Int32) (x3 : Int32) (post : Int32 → (Int32) → (Int32) → (Int32) → (Int32) → (Nat → Int32) → (Int32) → (Nat → Int32) → Prop) : Prop :=
  q_m_hasSight_0 a_many f_sight x2 (fun r_1 f_sight_1 => (r_1 = 0 → (post (-2 : Int32) (0 : Int32) f_land f_huts f_singers a_run f_sight_1 a_runs)) ∧ (¬ r_1 = 0 → (q_m_hand_0 a_many a_lands f_land f_huts f_singers x1 (fun r_2 f_land_1 f_huts_1 f_singers_1 => (¬ r_2 = 0 → (q_m_fits_27 (0 : Int32) a_many a_lands a_sights f_land_1 f_huts_1 f_singers_1 a_run f_sight_1 a_runs x3 (0 : Int32) post)) ∧ (r_2 = 0 → (post (-2 : Int32) (0 : Int32) f_land_1 f_huts_1 f_singers_1 a_run f_sight_1 a_runs))))))
set_option maxRecDepth 20000 in
theorem t_m_fits_93 {p : Program} {l : Launch} {e : Env} {s : State} {m : MethodId} {args : Array Value} {below : List Frame} {meth : Method} {c : Code} {E : zE} {q : Nat} {f_code : Int32} {a_tape : Nat → Int32} {a_size : Nat → Int32} {a_fault : Nat → Int32} {a_faultPlace : Nat → Int32} {a_many : Nat → Int32} {a_lands : Nat → Int32} {a_evenings : Nat → Int32} {a_sights : Nat → Int32} {a_choirs : Nat → Int32} {f_reached : Int32} {f_length : Int32} {f_begins : Int32} {f_sort : Int32} {f_value : Int32} {f_word : Int64} {f_wrongAt : Int32} {f_laterFault : Int32} {f_laterPlace : Int32} {a_told : Nat → Int32} {a_read : Nat → Int32} {f_farHut : Int32} {f_farSinger : Int32} {f_good : Int32} {f_land : Int32} {f_huts : Int32} {f_singers : Int32} {f_evening : Int32} {a_at : Nat → Int32} {a_knows : Nat → Int32} {a_climbed : Nat → Int32} {a_snow : Nat → Int32} {a_level : Nat → Int32} {f_begun : Int32} {f_minute : Int32} {f_avalanches : Int32} {a_run : Nat → Int32} {a_covers : Nat → Int32} {a_routes : Nat → Int32} {a_longest : Nat → Int32} {a_steep : Nat → Int32} {a_laid : Nat → Int32} {a_far : Nat → Int32} {f_sight : Int32} {a_runs : Nat → Int32} {f_choir : Int32} {f_voices : Int32} {a_rest : Nat → Int64} {a_wins : Nat → Int32} {f_seed : Int32} {a_other : Nat → Int32} {a_kept : Nat → Int32} {P65 : Int32 → Int32 → (Nat → Int32) → (Nat → Int32) → Prop} {post : Int32 → (Int32) → (Int32) → (Int32) → (Int32) → (Nat → Int32) → (Int32) → (Nat → Int32) → Prop} {x3 : Int32} {x5 : Int32} {y0 : Int32} {y1 : Int32} {ls : Array Slot} {H : Heap} {locs : List Loc}
    (zc : zC p s m args meth c cX11_fits 6 RX11 (some .int))
    (hK : zK E s)
    (hM : mW E q f_code a_tape a_size a_fault a_faultPlace a_many a_lands a_evenings a_sights a_choirs f_reached f_length f_begins f_sort f_value f_word f_wrongAt f_laterFault f_laterPlace a_told a_read f_farHut f_farSinger f_good f_land f_huts f_singers f_evening a_at a_knows a_climbed a_snow a_level f_begun f_minute f_avalanches a_run a_covers a_routes a_longest a_steep a_laid a_far f_sight a_runs f_choir f_voices a_rest a_wins f_seed a_other a_kept H)
    (hS : va_S (mA q) s.heap H locs)
    (hP65 : ∀ (x4 : Int32) (x5 : Int32) (a_run : Nat → Int32) (a_runs : Nat → Int32) (H : Heap) (locs : List Loc) (ls : Array Slot), P65 x4 x5 a_run a_runs → lv_has ls 6 [(0, .ref q), (3, .int x3), (4, .int x4), (5, .int x5)] → mW E q f_code a_tape a_size a_fault a_faultPlace a_many a_lands a_evenings a_sights a_choirs f_reached f_length f_begins f_sort f_value f_word f_wrongAt f_laterFault f_laterPlace a_told a_read f_farHut f_farSinger f_good f_land f_huts f_singers f_evening a_at a_knows a_climbed a_snow a_level f_begun f_minute f_avalanches a_run a_covers a_routes a_longest a_steep a_laid a_far f_sight a_runs f_choir f_voices a_rest a_wins f_seed a_other a_kept H → va_S (mA q) s.heap H locs → W p l e rm_m_fits s m args below meth c H locs 0 0 (MQ below (zQi (S := (Int32) × (Int32) × (Int32) × (Int32) × (Nat → Int32) × (Int32) × (Nat → Int32)) (fun r u => post r u.1 u.2.1 u.2.2.1 u.2.2.2.1 u.2.2.2.2.1 u.2.2.2.2.2.1 u.2.2.2.2.2.2) (fun u H => mW E q u.1 a_tape a_size a_fault a_faultPlace a_many a_lands a_evenings a_sights a_choirs f_reached f_length f_begins f_sort f_value f_word f_wrongAt f_laterFault f_laterPlace a_told a_read f_farHut f_farSinger f_good u.2.1 u.2.2.1 u.2.2.2.1 f_evening a_at a_knows a_climbed a_snow a_level f_begun f_minute f_avalanches u.2.2.2.2.1 a_covers a_routes a_longest a_steep a_laid a_far u.2.2.2.2.2.1 u.2.2.2.2.2.2 f_choir f_voices a_rest a_wins f_seed a_other a_kept H) (mA q)) args s 0 0 (mA q)) (F0 m 65 ls []))
    (hl : lv_has ls 6 [(0, .ref q), (3, .int x3), (5, .int x5)])
    (hw : q_m_fits_93 P65 f_code a_many a_lands a_sights f_land f_huts f_singers a_run f_sight a_runs x3 x5 y0 y1 post) :
    W p l e rm_m_fits s m args below meth c H locs 0 0 (MQ below (zQi (S := (Int32) × (Int32) × (Int32) × (Int32) × (Nat → Int32) × (Int32) × (Nat → Int32)) (fun r u => post r u.1 u.2.1 u.2.2.1 u.2.2.2.1 u.2.2.2.2.1 u.2.2.2.2.2.1 u.2.2.2.2.2.2) (fun u H => mW E q u.1 a_tape a_size a_fault a_faultPlace a_many a_lands a_evenings a_sights a_choirs f_reached f_length f_begins f_sort f_value f_word f_wrongAt f_laterFault f_laterPlace a_told a_read f_farHut f_farSinger f_good u.2.1 u.2.2.1 u.2.2.2.1 f_evening a_at a_knows a_climbed a_snow a_level f_begun f_minute f_avalanches u.2.2.2.2.1 a_covers a_routes a_longest a_steep a_laid a_far u.2.2.2.2.2.1 u.2.2.2.2.2.2 f_choir f_voices a_rest a_wins f_seed a_other a_kept H) (mA q)) args s 0 0 (mA q)) (F0 m 93 ls [.int y1, .int y0]) := by
  have hx := zc.1
  have hb := zc.2.1
  refine lv_ior hx hb dX11_fits_93 ?_
  refine lv_topi (fun v_1 ev_1 => ?_)
  have hw := hw v_1 ev_1
  refine lv_istore (lv' := [(4, .int v_1), (0, .ref q), (3, .int x3), (5, .int x5)]) hx hb dX11_fits_94 hl (by decide) rfl (fun ls hl => ?_)
  obtain ⟨v_2, ev_2⟩ : ∃ y : Int32, y = x5 + (1 : Int32) := ⟨_, rfl⟩
  have hw := hw v_2 ev_2
  refine lv_iinc (v := v_2) (k := 3) (lv' := [(5, .int v_2), (4, .int v_1), (0, .ref q), (3, .int x3)]) hx hb dX11_fits_96 hl rfl (by rw [ev_2]; rfl) (by decide) rfl (fun ls hl => ?_)
  refine lv_goto (tgt := 65) hx hb dX11_fits_99 (by decide) ?_
  exact hP65 _ _ _ _ _ _ _ hw (lv_sub hl [2, 3, 1, 0] rfl) hM hS
set_option maxRecDepth 20000 in
theorem t_m_fits_65 {p : Program} {l : Launch} {e : Env} {s : State} {m : MethodId} {args : Array Value} {below : List Frame} {meth : Method} {c : Code} {E : zE} {q : Nat} {f_code : Int32} {a_tape : Nat → Int32} {a_size : Nat → Int32} {a_fault : Nat → Int32} {a_faultPlace : Nat → Int32} {a_many : Nat → Int32} {a_lands : Nat → Int32} {a_evenings : Nat → Int32} {a_sights : Nat → Int32} {a_choirs : Nat → Int32} {f_reached : Int32} {f_length : Int32} {f_begins : Int32} {f_sort : Int32} {f_value : Int32} {f_word : Int64} {f_wrongAt : Int32} {f_laterFault : Int32} {f_laterPlace : Int32} {a_told : Nat → Int32} {a_read : Nat → Int32} {f_farHut : Int32} {f_farSinger : Int32} {f_good : Int32} {f_land : Int32} {f_huts : Int32} {f_singers : Int32} {f_evening : Int32} {a_at : Nat → Int32} {a_knows : Nat → Int32} {a_climbed : Nat → Int32} {a_snow : Nat → Int32} {a_level : Nat → Int32} {f_begun : Int32} {f_minute : Int32} {f_avalanches : Int32} {a_run : Nat → Int32} {a_covers : Nat → Int32} {a_routes : Nat → Int32} {a_longest : Nat → Int32} {a_steep : Nat → Int32} {a_laid : Nat → Int32} {a_far : Nat → Int32} {f_sight : Int32} {a_runs : Nat → Int32} {f_choir : Int32} {f_voices : Int32} {a_rest : Nat → Int64} {a_wins : Nat → Int32} {f_seed : Int32} {a_other : Nat → Int32} {a_kept : Nat → Int32} {post : Int32 → (Int32) → (Int32) → (Int32) → (Int32) → (Nat → Int32) → (Int32) → (Nat → Int32) → Prop} {x3 : Int32} {x4 : Int32} {x5 : Int32} {ls : Array Slot} {H : Heap} {locs : List Loc}
    (zc : zC p s m args meth c cX11_fits 6 RX11 (some .int))
    (hK : zK E s)
    (hM : mW E q f_code a_tape a_size a_fault a_faultPlace a_many a_lands a_evenings a_sights a_choirs f_reached f_length f_begins f_sort f_value f_word f_wrongAt f_laterFault f_laterPlace a_told a_read f_farHut f_farSinger f_good f_land f_huts f_singers f_evening a_at a_knows a_climbed a_snow a_level f_begun f_minute f_avalanches a_run a_covers a_routes a_longest a_steep a_laid a_far f_sight a_runs f_choir f_voices a_rest a_wins f_seed a_other a_kept H)
    (hS : va_S (mA q) s.heap H locs)
    (hl : lv_has ls 6 [(0, .ref q), (3, .int x3), (4, .int x4), (5, .int x5)])
    (hw : q_m_fits_65 f_code a_many a_lands a_sights f_land f_huts f_singers a_run f_sight a_runs x3 x4 x5 post) :
    W p l e rm_m_fits s m args below meth c H locs 0 0 (MQ below (zQi (S := (Int32) × (Int32) × (Int32) × (Int32) × (Nat → Int32) × (Int32) × (Nat → Int32)) (fun r u => post r u.1 u.2.1 u.2.2.1 u.2.2.2.1 u.2.2.2.2.1 u.2.2.2.2.2.1 u.2.2.2.2.2.2) (fun u H => mW E q u.1 a_tape a_size a_fault a_faultPlace a_many a_lands a_evenings a_sights a_choirs f_reached f_length f_begins f_sort f_value f_word f_wrongAt f_laterFault f_laterPlace a_told a_read f_farHut f_farSinger f_good u.2.1 u.2.2.1 u.2.2.2.1 f_evening a_at a_knows a_climbed a_snow a_level f_begun f_minute f_avalanches u.2.2.2.2.1 a_covers a_routes a_longest a_steep a_laid a_far u.2.2.2.2.2.1 u.2.2.2.2.2.2 f_choir f_voices a_rest a_wins f_seed a_other a_kept H) (mA q)) args s 0 0 (mA q)) (F0 m 65 ls []) := by
  have hx := zc.1
  have hb := zc.2.1
  refine hw (fun x4 x5 a_run a_runs => ∀ (H : Heap) (locs : List Loc) (ls : Array Slot), lv_has ls 6 [(0, .ref q), (3, .int x3), (4, .int x4), (5, .int x5)] → mW E q f_code a_tape a_size a_fault a_faultPlace a_many a_lands a_evenings a_sights a_choirs f_reached f_length f_begins f_sort f_value f_word f_wrongAt f_laterFault f_laterPlace a_told a_read f_farHut f_farSinger f_good f_land f_huts f_singers f_evening a_at a_knows a_climbed a_snow a_level f_begun f_minute f_avalanches a_run a_covers a_routes a_longest a_steep a_laid a_far f_sight a_runs f_choir f_voices a_rest a_wins f_seed a_other a_kept H → va_S (mA q) s.heap H locs → W p l e rm_m_fits s m args below meth c H locs 0 0 (MQ below (zQi (S := (Int32) × (Int32) × (Int32) × (Int32) × (Nat → Int32) × (Int32) × (Nat → Int32)) (fun r u => post r u.1 u.2.1 u.2.2.1 u.2.2.2.1 u.2.2.2.2.1 u.2.2.2.2.2.1 u.2.2.2.2.2.2) (fun u H => mW E q u.1 a_tape a_size a_fault a_faultPlace a_many a_lands a_evenings a_sights a_choirs f_reached f_length f_begins f_sort f_value f_word f_wrongAt f_laterFault f_laterPlace a_told a_read f_farHut f_farSinger f_good u.2.1 u.2.2.1 u.2.2.2.1 f_evening a_at a_knows a_climbed a_snow a_level f_begun f_minute f_avalanches u.2.2.2.2.1 a_covers a_routes a_longest a_steep a_laid a_far u.2.2.2.2.2.1 u.2.2.2.2.2.2 f_choir f_voices a_rest a_wins f_seed a_other a_kept H) (mA q)) args s 0 0 (mA q)) (F0 m 65 ls [])) ?_ _ _ _ hl hM hS
  intro x4 x5 a_run a_runs hw H locs ls hl hM hS
  refine lv_iload hx hb dX11_fits_65 (lv_at hl 3 rfl) ?_
  refine lv_aload_n hx hb dX11_fits_67 rfl (lv_at hl 0 rfl) ?_
  refine mg_11_307_0 zc hK hM dX11_fits_68 ?_
  refine lv_icmp_ge (tgt := 102) hx hb dX11_fits_71 (by decide) (fun hc => ?_) (fun hc => ?_)
  · have hw := hw.1 hc
    refine lv_iload_n hx hb dX11_fits_102 rfl (lv_at hl 1 rfl) ?_
    refine lv_if_ne (tgt := 111) hx hb dX11_fits_103 (by decide) (fun hc => ?_) (fun hc => ?_)
    · have hw := hw.1 hc
      refine lv_iload hx hb dX11_fits_111 (lv_at hl 2 rfl) ?_
      refine lv_if_ne (tgt := 120) hx hb dX11_fits_113 (by decide) (fun hc => ?_) (fun hc => ?_)
      · have hw := hw.1 hc
        refine lv_aload_n hx hb dX11_fits_120 rfl (lv_at hl 0 rfl) ?_
        refine lv_iload hx hb dX11_fits_121 (lv_at hl 2 rfl) ?_
        refine zV_i [.int x4] [] zc ky_X11_askOf kz_X11_askOf km_11_472 (c_m_askOf l hw) (mPreV0 hK hM) rfl rfl hl.1 (Nat.le_of_ble_eq_true rfl) ⟨rfl, rfl⟩ ⟨Nat.le_of_ble_eq_true rfl, Nat.le_of_ble_eq_true rfl⟩ ⟨(Nat.zero_le _), (Nat.zero_le _)⟩ dX11_fits_123 (fun r_1 hw => ?_)
        exact zret_iw ⟨f_code, f_land, f_huts, f_singers, a_run, f_sight, a_runs⟩ zc hS hw hM dX11_fits_126
      · have hw := hw.2 hc
        refine lv_iconst (v := (-1 : Int32)) hx hb dX11_fits_116 (by decide) ?_
        refine lv_goto (tgt := 126) hx hb dX11_fits_117 (by decide) ?_
        exact zret_iw ⟨f_code, f_land, f_huts, f_singers, a_run, f_sight, a_runs⟩ zc hS hw hM dX11_fits_126
    · have hw := hw.2 hc
      refine lv_iload hx hb dX11_fits_106 (lv_at hl 2 rfl) ?_
      refine lv_goto (tgt := 126) hx hb dX11_fits_108 (by decide) ?_
      exact zret_iw ⟨f_code, f_land, f_huts, f_singers, a_run, f_sight, a_runs⟩ zc hS hw hM dX11_fits_126
  · have hw := hw.2 hc
    refine lv_iload hx hb dX11_fits_74 (lv_at hl 2 rfl) ?_
    refine lv_aload_n hx hb dX11_fits_76 rfl (lv_at hl 0 rfl) ?_
    refine lv_iload hx hb dX11_fits_77 (lv_at hl 3 rfl) ?_
    refine zVw_i [.int x5] [.int x4] zc ky_X11_isFit kz_X11_isFit km_11_469 (c_m_isFit l hw) (mPreV0 hK hM) hS rfl rfl hl.1 (Nat.le_of_ble_eq_true rfl) ⟨rfl, rfl⟩ ⟨Nat.le_of_ble_eq_true rfl, Nat.le_of_ble_eq_true rfl⟩ ⟨(Nat.zero_le _), (Nat.zero_le _)⟩ dX11_fits_79 (fun r_2 u H locs hw hM hS => ?_)
    obtain ⟨a_run_1, a_runs_1⟩ := u
    refine lv_if_eq (tgt := 92) hx hb dX11_fits_82 (by decide) (fun hc => ?_) (fun hc => ?_)
    · have hw := hw.1 hc
      refine lv_iconst (v := (0 : Int32)) hx hb dX11_fits_92 (by decide) ?_
      exact t_m_fits_93 zc hK hM hS (fun _ _ _ _ H locs ls h hl hM hS => h H locs ls hl hM hS) (lv_sub hl [0, 1, 3] rfl) hw
    · have hw := hw.2 hc
      refine lv_iconst (v := (1 : Int32)) hx hb dX11_fits_85 (by decide) ?_
      refine lv_iload hx hb dX11_fits_86 (lv_at hl 3 rfl) ?_
      refine lv_ishl hx hb dX11_fits_88 ?_
      refine lv_goto (tgt := 93) hx hb dX11_fits_89 (by decide) ?_
      exact t_m_fits_93 zc hK hM hS (fun _ _ _ _ H locs ls h hl hM hS => h H locs ls hl hM hS) (lv_sub hl [0, 1, 3] rfl) hw
set_option maxRecDepth 20000 in
theorem t_m_fits_27 {p : Program} {l : Launch} {e : Env} {s : State} {m : MethodId} {args : Array Value} {below : List Frame} {meth : Method} {c : Code} {E : zE} {q : Nat} {f_code : Int32} {a_tape : Nat → Int32} {a_size : Nat → Int32} {a_fault : Nat → Int32} {a_faultPlace : Nat → Int32} {a_many : Nat → Int32} {a_lands : Nat → Int32} {a_evenings : Nat → Int32} {a_sights : Nat → Int32} {a_choirs : Nat → Int32} {f_reached : Int32} {f_length : Int32} {f_begins : Int32} {f_sort : Int32} {f_value : Int32} {f_word : Int64} {f_wrongAt : Int32} {f_laterFault : Int32} {f_laterPlace : Int32} {a_told : Nat → Int32} {a_read : Nat → Int32} {f_farHut : Int32} {f_farSinger : Int32} {f_good : Int32} {f_land : Int32} {f_huts : Int32} {f_singers : Int32} {f_evening : Int32} {a_at : Nat → Int32} {a_knows : Nat → Int32} {a_climbed : Nat → Int32} {a_snow : Nat → Int32} {a_level : Nat → Int32} {f_begun : Int32} {f_minute : Int32} {f_avalanches : Int32} {a_run : Nat → Int32} {a_covers : Nat → Int32} {a_routes : Nat → Int32} {a_longest : Nat → Int32} {a_steep : Nat → Int32} {a_laid : Nat → Int32} {a_far : Nat → Int32} {f_sight : Int32} {a_runs : Nat → Int32} {f_choir : Int32} {f_voices : Int32} {a_rest : Nat → Int64} {a_wins : Nat → Int32} {f_seed : Int32} {a_other : Nat → Int32} {a_kept : Nat → Int32} {post : Int32 → (Int32) → (Int32) → (Int32) → (Int32) → (Nat → Int32) → (Int32) → (Nat → Int32) → Prop} {x3 : Int32} {x4 : Int32} {ls : Array Slot} {H : Heap} {locs : List Loc}
    (zc : zC p s m args meth c cX11_fits 6 RX11 (some .int))
    (hK : zK E s)
    (hM : mW E q f_code a_tape a_size a_fault a_faultPlace a_many a_lands a_evenings a_sights a_choirs f_reached f_length f_begins f_sort f_value f_word f_wrongAt f_laterFault f_laterPlace a_told a_read f_farHut f_farSinger f_good f_land f_huts f_singers f_evening a_at a_knows a_climbed a_snow a_level f_begun f_minute f_avalanches a_run a_covers a_routes a_longest a_steep a_laid a_far f_sight a_runs f_choir f_voices a_rest a_wins f_seed a_other a_kept H)
    (hS : va_S (mA q) s.heap H locs)
    (hl : lv_has ls 6 [(0, .ref q), (3, .int x3), (4, .int x4)])
    (hw : q_m_fits_27 f_code a_many a_lands a_sights f_land f_huts f_singers a_run f_sight a_runs x3 x4 post) :
    W p l e rm_m_fits s m args below meth c H locs 0 0 (MQ below (zQi (S := (Int32) × (Int32) × (Int32) × (Int32) × (Nat → Int32) × (Int32) × (Nat → Int32)) (fun r u => post r u.1 u.2.1 u.2.2.1 u.2.2.2.1 u.2.2.2.2.1 u.2.2.2.2.2.1 u.2.2.2.2.2.2) (fun u H => mW E q u.1 a_tape a_size a_fault a_faultPlace a_many a_lands a_evenings a_sights a_choirs f_reached f_length f_begins f_sort f_value f_word f_wrongAt f_laterFault f_laterPlace a_told a_read f_farHut f_farSinger f_good u.2.1 u.2.2.1 u.2.2.2.1 f_evening a_at a_knows a_climbed a_snow a_level f_begun f_minute f_avalanches u.2.2.2.2.1 a_covers a_routes a_longest a_steep a_laid a_far u.2.2.2.2.2.1 u.2.2.2.2.2.2 f_choir f_voices a_rest a_wins f_seed a_other a_kept H) (mA q)) args s 0 0 (mA q)) (F0 m 27 ls []) := by
  have hx := zc.1
  have hb := zc.2.1
  refine hw (fun x4 => ∀ (H : Heap) (locs : List Loc) (ls : Array Slot), lv_has ls 6 [(0, .ref q), (3, .int x3), (4, .int x4)] → mW E q f_code a_tape a_size a_fault a_faultPlace a_many a_lands a_evenings a_sights a_choirs f_reached f_length f_begins f_sort f_value f_word f_wrongAt f_laterFault f_laterPlace a_told a_read f_farHut f_farSinger f_good f_land f_huts f_singers f_evening a_at a_knows a_climbed a_snow a_level f_begun f_minute f_avalanches a_run a_covers a_routes a_longest a_steep a_laid a_far f_sight a_runs f_choir f_voices a_rest a_wins f_seed a_other a_kept H → va_S (mA q) s.heap H locs → W p l e rm_m_fits s m args below meth c H locs 0 0 (MQ below (zQi (S := (Int32) × (Int32) × (Int32) × (Int32) × (Nat → Int32) × (Int32) × (Nat → Int32)) (fun r u => post r u.1 u.2.1 u.2.2.1 u.2.2.2.1 u.2.2.2.2.1 u.2.2.2.2.2.1 u.2.2.2.2.2.2) (fun u H => mW E q u.1 a_tape a_size a_fault a_faultPlace a_many a_lands a_evenings a_sights a_choirs f_reached f_length f_begins f_sort f_value f_word f_wrongAt f_laterFault f_laterPlace a_told a_read f_farHut f_farSinger f_good u.2.1 u.2.2.1 u.2.2.2.1 f_evening a_at a_knows a_climbed a_snow a_level f_begun f_minute f_avalanches u.2.2.2.2.1 a_covers a_routes a_longest a_steep a_laid a_far u.2.2.2.2.2.1 u.2.2.2.2.2.2 f_choir f_voices a_rest a_wins f_seed a_other a_kept H) (mA q)) args s 0 0 (mA q)) (F0 m 27 ls [])) ?_ _ _ _ hl hM hS
  intro x4 hw H locs ls hl hM hS
  refine lv_iload hx hb dX11_fits_27 (lv_at hl 2 rfl) ?_
  refine lv_aload_n hx hb dX11_fits_29 rfl (lv_at hl 0 rfl) ?_
  refine zV_i [] [.int x4] zc ky_X11_facts kz_X11_facts km_11_463 (c_m_facts l hw) (mPreV0 hK hM) rfl rfl hl.1 (Nat.le_of_ble_eq_true rfl) ⟨rfl, rfl⟩ ⟨Nat.le_of_ble_eq_true rfl, Nat.le_of_ble_eq_true rfl⟩ ⟨(Nat.zero_le _), (Nat.zero_le _)⟩ dX11_fits_30 (fun r_1 hw => ?_)
  refine lv_icmp_ge (tgt := 59) hx hb dX11_fits_33 (by decide) (fun hc => ?_) (fun hc => ?_)
  · have hw := hw.1 hc
    refine lv_iconst (v := (0 : Int32)) hx hb dX11_fits_59 (by decide) ?_
    refine lv_istore (lv' := [(4, .int (0 : Int32)), (0, .ref q), (3, .int x3)]) hx hb dX11_fits_60 hl (by decide) rfl (fun ls hl => ?_)
    refine lv_iconst (v := (0 : Int32)) hx hb dX11_fits_62 (by decide) ?_
    refine lv_istore (lv' := [(5, .int (0 : Int32)), (4, .int (0 : Int32)), (0, .ref q), (3, .int x3)]) hx hb dX11_fits_63 hl (by decide) rfl (fun ls hl => ?_)
    exact t_m_fits_65 zc hK hM hS  (lv_sub hl [2, 3, 1, 0] rfl) hw
  · have hw := hw.2 hc
    refine lv_aload_n hx hb dX11_fits_36 rfl (lv_at hl 0 rfl) ?_
    refine lv_aload_n hx hb dX11_fits_37 rfl (lv_at hl 0 rfl) ?_
    refine lv_iload hx hb dX11_fits_38 (lv_at hl 2 rfl) ?_
    refine lv_iconst (v := (1 : Int32)) hx hb dX11_fits_40 (by decide) ?_
    refine zV_i [.int x4, .int (1 : Int32)] [.ref q] zc ky_X11_factOf kz_X11_factOf km_11_466 (c_m_factOf l hw) (mPreV0 hK hM) rfl rfl hl.1 (Nat.le_of_ble_eq_true rfl) ⟨rfl, rfl⟩ ⟨Nat.le_of_ble_eq_true rfl, Nat.le_of_ble_eq_true rfl⟩ ⟨(Nat.zero_le _), (Nat.zero_le _)⟩ dX11_fits_41 (fun r_2 hw => ?_)
    refine zV_i [.int r_2] [] zc ky_X11_isHut kz_X11_isHut km_11_316 (c_m_isHut l hw) (mPreV0 hK hM) rfl rfl hl.1 (Nat.le_of_ble_eq_true rfl) ⟨rfl, rfl⟩ ⟨Nat.le_of_ble_eq_true rfl, Nat.le_of_ble_eq_true rfl⟩ ⟨(Nat.zero_le _), (Nat.zero_le _)⟩ dX11_fits_44 (fun r_3 hw => ?_)
    refine lv_if_ne (tgt := 53) hx hb dX11_fits_47 (by decide) (fun hc => ?_) (fun hc => ?_)
    · have hw := hw.1 hc
      obtain ⟨v_1, ev_1⟩ : ∃ y : Int32, y = x4 + (1 : Int32) := ⟨_, rfl⟩
      have hw := hw v_1 ev_1
      refine lv_iinc (v := v_1) (k := 2) (lv' := [(4, .int v_1), (0, .ref q), (3, .int x3)]) hx hb dX11_fits_53 hl rfl (by rw [ev_1]; rfl) (by decide) rfl (fun ls hl => ?_)
      refine lv_goto (tgt := 27) hx hb dX11_fits_56 (by decide) ?_
      exact hw _ _ _ (lv_sub hl [1, 2, 0] rfl) hM hS
    · have hw := hw.2 hc
      refine lv_bipush (v := (-2 : Int32)) hx hb dX11_fits_50 (by decide) ?_
      exact zret_iw ⟨f_code, f_land, f_huts, f_singers, a_run, f_sight, a_runs⟩ zc hS hw hM dX11_fits_52
set_option maxRecDepth 20000 in
theorem t_m_fits_0 {p : Program} {l : Launch} {e : Env} {s : State} {m : MethodId} {args : Array Value} {below : List Frame} {meth : Method} {c : Code} {E : zE} {q : Nat} {f_code : Int32} {a_tape : Nat → Int32} {a_size : Nat → Int32} {a_fault : Nat → Int32} {a_faultPlace : Nat → Int32} {a_many : Nat → Int32} {a_lands : Nat → Int32} {a_evenings : Nat → Int32} {a_sights : Nat → Int32} {a_choirs : Nat → Int32} {f_reached : Int32} {f_length : Int32} {f_begins : Int32} {f_sort : Int32} {f_value : Int32} {f_word : Int64} {f_wrongAt : Int32} {f_laterFault : Int32} {f_laterPlace : Int32} {a_told : Nat → Int32} {a_read : Nat → Int32} {f_farHut : Int32} {f_farSinger : Int32} {f_good : Int32} {f_land : Int32} {f_huts : Int32} {f_singers : Int32} {f_evening : Int32} {a_at : Nat → Int32} {a_knows : Nat → Int32} {a_climbed : Nat → Int32} {a_snow : Nat → Int32} {a_level : Nat → Int32} {f_begun : Int32} {f_minute : Int32} {f_avalanches : Int32} {a_run : Nat → Int32} {a_covers : Nat → Int32} {a_routes : Nat → Int32} {a_longest : Nat → Int32} {a_steep : Nat → Int32} {a_laid : Nat → Int32} {a_far : Nat → Int32} {f_sight : Int32} {a_runs : Nat → Int32} {f_choir : Int32} {f_voices : Int32} {a_rest : Nat → Int64} {a_wins : Nat → Int32} {f_seed : Int32} {a_other : Nat → Int32} {a_kept : Nat → Int32} {post : Int32 → (Int32) → (Int32) → (Int32) → (Int32) → (Nat → Int32) → (Int32) → (Nat → Int32) → Prop} {x1 : Int32} {x2 : Int32} {x3 : Int32} {ls : Array Slot} {H : Heap} {locs : List Loc}
    (zc : zC p s m args meth c cX11_fits 6 RX11 (some .int))
    (hK : zK E s)
    (hM : mW E q f_code a_tape a_size a_fault a_faultPlace a_many a_lands a_evenings a_sights a_choirs f_reached f_length f_begins f_sort f_value f_word f_wrongAt f_laterFault f_laterPlace a_told a_read f_farHut f_farSinger f_good f_land f_huts f_singers f_evening a_at a_knows a_climbed a_snow a_level f_begun f_minute f_avalanches a_run a_covers a_routes a_longest a_steep a_laid a_far f_sight a_runs f_choir f_voices a_rest a_wins f_seed a_other a_kept H)
    (hS : va_S (mA q) s.heap H locs)
    (hl : lv_has ls 6 [(0, .ref q), (1, .int x1), (2, .int x2), (3, .int x3)])
    (hw : q_m_fits_0 f_code a_many a_lands a_sights f_land f_huts f_singers a_run f_sight a_runs x1 x2 x3 post) :
    W p l e rm_m_fits s m args below meth c H locs 0 0 (MQ below (zQi (S := (Int32) × (Int32) × (Int32) × (Int32) × (Nat → Int32) × (Int32) × (Nat → Int32)) (fun r u => post r u.1 u.2.1 u.2.2.1 u.2.2.2.1 u.2.2.2.2.1 u.2.2.2.2.2.1 u.2.2.2.2.2.2) (fun u H => mW E q u.1 a_tape a_size a_fault a_faultPlace a_many a_lands a_evenings a_sights a_choirs f_reached f_length f_begins f_sort f_value f_word f_wrongAt f_laterFault f_laterPlace a_told a_read f_farHut f_farSinger f_good u.2.1 u.2.2.1 u.2.2.2.1 f_evening a_at a_knows a_climbed a_snow a_level f_begun f_minute f_avalanches u.2.2.2.2.1 a_covers a_routes a_longest a_steep a_laid a_far u.2.2.2.2.2.1 u.2.2.2.2.2.2 f_choir f_voices a_rest a_wins f_seed a_other a_kept H) (mA q)) args s 0 0 (mA q)) (F0 m 0 ls []) := by
  have hx := zc.1
  have hb := zc.2.1
  refine lv_aload_n hx hb dX11_fits_0 rfl (lv_at hl 0 rfl) ?_
  refine lv_iconst (v := (0 : Int32)) hx hb dX11_fits_1 (by decide) ?_
  refine mp_11_97_0 zc hK hM hS dX11_fits_2 (fun H locs hM hS => ?_)
  refine lv_aload_n hx hb dX11_fits_5 rfl (lv_at hl 0 rfl) ?_
  refine lv_iload_n hx hb dX11_fits_6 rfl (lv_at hl 2 rfl) ?_
  refine zVw_i [.int x2] [] zc ky_X11_hasSight kz_X11_hasSight km_11_460 (c_m_hasSight l hw) (mPreV0 hK hM) hS rfl rfl hl.1 (Nat.le_of_ble_eq_true rfl) ⟨rfl, rfl⟩ ⟨Nat.le_of_ble_eq_true rfl, Nat.le_of_ble_eq_true rfl⟩ ⟨(Nat.zero_le _), (Nat.zero_le _)⟩ dX11_fits_7 (fun r_1 f_sight_1 H locs hw hM hS => ?_)
  refine lv_if_eq (tgt := 21) hx hb dX11_fits_10 (by decide) (fun hc => ?_) (fun hc => ?_)
  · have hw := hw.1 hc
    refine lv_bipush (v := (-2 : Int32)) hx hb dX11_fits_21 (by decide) ?_
    exact zret_iw ⟨(0 : Int32), f_land, f_huts, f_singers, a_run, f_sight_1, a_runs⟩ zc hS hw hM dX11_fits_23
  · have hw := hw.2 hc
    refine lv_aload_n hx hb dX11_fits_13 rfl (lv_at hl 0 rfl) ?_
    refine lv_iload_n hx hb dX11_fits_14 rfl (lv_at hl 1 rfl) ?_
    refine zVw_i [.int x1] [] zc ky_X11_hand kz_X11_hand km_11_313 (c_m_hand l hw) (mPreV0 hK hM) hS rfl rfl hl.1 (Nat.le_of_ble_eq_true rfl) ⟨rfl, rfl⟩ ⟨Nat.le_of_ble_eq_true rfl, Nat.le_of_ble_eq_true rfl⟩ ⟨(Nat.zero_le _), (Nat.zero_le _)⟩ dX11_fits_15 (fun r_2 u H locs hw hM hS => ?_)
    obtain ⟨f_land_1, f_huts_1, f_singers_1⟩ := u
    refine lv_if_ne (tgt := 24) hx hb dX11_fits_18 (by decide) (fun hc => ?_) (fun hc => ?_)
    · have hw := hw.1 hc
      refine lv_iconst (v := (0 : Int32)) hx hb dX11_fits_24 (by decide) ?_
      refine lv_istore (lv' := [(4, .int (0 : Int32)), (0, .ref q), (1, .int x1), (2, .int x2), (3, .int x3)]) hx hb dX11_fits_25 hl (by decide) rfl (fun ls hl => ?_)
      exact t_m_fits_27 zc hK hM hS  (lv_sub hl [1, 4, 0] rfl) hw
    · have hw := hw.2 hc
      refine lv_bipush (v := (-2 : Int32)) hx hb dX11_fits_21 (by decide) ?_
      exact zret_iw ⟨(0 : Int32), f_land_1, f_huts_1, f_singers_1, a_run, f_sight_1, a_runs⟩ zc hS hw hM dX11_fits_23
set_option maxRecDepth 20000 in
theorem c_m_fits (l : Launch) {E : zE} {q : Nat} {f_code : Int32} {a_tape : Nat → Int32} {a_size : Nat → Int32} {a_fault : Nat → Int32} {a_faultPlace : Nat → Int32} {a_many : Nat → Int32} {a_lands : Nat → Int32} {a_evenings : Nat → Int32} {a_sights : Nat → Int32} {a_choirs : Nat → Int32} {f_reached : Int32} {f_length : Int32} {f_begins : Int32} {f_sort : Int32} {f_value : Int32} {f_word : Int64} {f_wrongAt : Int32} {f_laterFault : Int32} {f_laterPlace : Int32} {a_told : Nat → Int32} {a_read : Nat → Int32} {f_farHut : Int32} {f_farSinger : Int32} {f_good : Int32} {f_land : Int32} {f_huts : Int32} {f_singers : Int32} {f_evening : Int32} {a_at : Nat → Int32} {a_knows : Nat → Int32} {a_climbed : Nat → Int32} {a_snow : Nat → Int32} {a_level : Nat → Int32} {f_begun : Int32} {f_minute : Int32} {f_avalanches : Int32} {a_run : Nat → Int32} {a_covers : Nat → Int32} {a_routes : Nat → Int32} {a_longest : Nat → Int32} {a_steep : Nat → Int32} {a_laid : Nat → Int32} {a_far : Nat → Int32} {f_sight : Int32} {a_runs : Nat → Int32} {f_choir : Int32} {f_voices : Int32} {a_rest : Nat → Int64} {a_wins : Nat → Int32} {f_seed : Int32} {a_other : Nat → Int32} {a_kept : Nat → Int32} {x1 : Int32} {x2 : Int32} {x3 : Int32} {post : Int32 → (Int32) → (Int32) → (Int32) → (Int32) → (Nat → Int32) → (Int32) → (Nat → Int32) → Prop} (hw : q_m_fits_0 f_code a_many a_lands a_sights f_land f_huts f_singers a_run f_sight a_runs x1 x2 x3 post) : Met l yX11_fits (Cond.code yX11_fits cX11_fits 6 (some .int) :: zb) rm_m_fits (va_Pc [.ref q, .int x1, .int x2, .int x3] (fun U => mW E q f_code a_tape a_size a_fault a_faultPlace a_many a_lands a_evenings a_sights a_choirs f_reached f_length f_begins f_sort f_value f_word f_wrongAt f_laterFault f_laterPlace a_told a_read f_farHut f_farSinger f_good f_land f_huts f_singers f_evening a_at a_knows a_climbed a_snow a_level f_begun f_minute f_avalanches a_run a_covers a_routes a_longest a_steep a_laid a_far f_sight a_runs f_choir f_voices a_rest a_wins f_seed a_other a_kept U.heap ∧ zK E U)) (zQi (S := (Int32) × (Int32) × (Int32) × (Int32) × (Nat → Int32) × (Int32) × (Nat → Int32)) (fun r u => post r u.1 u.2.1 u.2.2.1 u.2.2.2.1 u.2.2.2.2.1 u.2.2.2.2.2.1 u.2.2.2.2.2.2) (fun u H => mW E q u.1 a_tape a_size a_fault a_faultPlace a_many a_lands a_evenings a_sights a_choirs f_reached f_length f_begins f_sort f_value f_word f_wrongAt f_laterFault f_laterPlace a_told a_read f_farHut f_farSinger f_good u.2.1 u.2.2.1 u.2.2.2.1 f_evening a_at a_knows a_climbed a_snow a_level f_begun f_minute f_avalanches u.2.2.2.2.1 a_covers a_routes a_longest a_steep a_laid a_far u.2.2.2.2.2.1 u.2.2.2.2.2.2 f_choir f_voices a_rest a_wins f_seed a_other a_kept H) (mA q)) 0 0 (mA q) := by
  refine Met.ofW (cc := cX11_fits) (maxL := 6) (ret := (some .int)) (by decide) rfl ?_
  intro p e s m args below meth c s₁ B hml hv
  obtain ⟨rfl, hM, hK⟩ := hv
  have zc := zc_of B hml
  have hl := lv_entry ([.ref q, .int x1, .int x2, .int x3]) (n := 6) (Nat.le_of_ble_eq_true rfl)
  rw [lg_entry_eq]
  generalize (lg_sl ([.ref q, .int x1, .int x2, .int x3]) ++ List.replicate (6 - (lg_sl ([.ref q, .int x1, .int x2, .int x3])).length) Slot.unset).toArray = ls at hl ⊢
  have hl : lv_has ls 6 [(0, .ref q), (1, .int x1), (2, .int x2), (3, .int x3)] := hl
  exact t_m_fits_0 zc hK hM va_S.rf (lv_sub hl [0, 1, 2, 3] rfl) hw
-- m_hasChoir
abbrev rm_m_hasChoir : Room := { frames := 2, cells := 0, slots := 0, locals := 44 }
def q_m_hasChoir_0 (a_many : Nat → Int32) (a_choirs : Nat → Int32) (f_choir : Int32) (f_voices : Int32) (x1 : Int32) (post : Int32 → (Int32) → (Int32) → Prop) : Prop :=
  q_m_is_0 a_many (3 : Int32) x1 (fun r_1 => (¬ r_1 = 0 → (vp_in ((20 : Int32) * x1) 160 ∧ (∀ v_1 : Int32, v_1 = (a_choirs (Int32.toNatClampNeg ((20 : Int32) * x1))) → (post (1 : Int32) x1 v_1)))) ∧ (r_1 = 0 → (post (0 : Int32) x1 f_voices)))
set_option maxRecDepth 20000 in
theorem t_m_hasChoir_0 {p : Program} {l : Launch} {e : Env} {s : State} {m : MethodId} {args : Array Value} {below : List Frame} {meth : Method} {c : Code} {E : zE} {q : Nat} {f_code : Int32} {a_tape : Nat → Int32} {a_size : Nat → Int32} {a_fault : Nat → Int32} {a_faultPlace : Nat → Int32} {a_many : Nat → Int32} {a_lands : Nat → Int32} {a_evenings : Nat → Int32} {a_sights : Nat → Int32} {a_choirs : Nat → Int32} {f_reached : Int32} {f_length : Int32} {f_begins : Int32} {f_sort : Int32} {f_value : Int32} {f_word : Int64} {f_wrongAt : Int32} {f_laterFault : Int32} {f_laterPlace : Int32} {a_told : Nat → Int32} {a_read : Nat → Int32} {f_farHut : Int32} {f_farSinger : Int32} {f_good : Int32} {f_land : Int32} {f_huts : Int32} {f_singers : Int32} {f_evening : Int32} {a_at : Nat → Int32} {a_knows : Nat → Int32} {a_climbed : Nat → Int32} {a_snow : Nat → Int32} {a_level : Nat → Int32} {f_begun : Int32} {f_minute : Int32} {f_avalanches : Int32} {a_run : Nat → Int32} {a_covers : Nat → Int32} {a_routes : Nat → Int32} {a_longest : Nat → Int32} {a_steep : Nat → Int32} {a_laid : Nat → Int32} {a_far : Nat → Int32} {f_sight : Int32} {a_runs : Nat → Int32} {f_choir : Int32} {f_voices : Int32} {a_rest : Nat → Int64} {a_wins : Nat → Int32} {f_seed : Int32} {a_other : Nat → Int32} {a_kept : Nat → Int32} {post : Int32 → (Int32) → (Int32) → Prop} {x1 : Int32} {ls : Array Slot} {H : Heap} {locs : List Loc}
    (zc : zC p s m args meth c cX11_hasChoir 2 RX11 (some .boolean))
    (hK : zK E s)
    (hM : mW E q f_code a_tape a_size a_fault a_faultPlace a_many a_lands a_evenings a_sights a_choirs f_reached f_length f_begins f_sort f_value f_word f_wrongAt f_laterFault f_laterPlace a_told a_read f_farHut f_farSinger f_good f_land f_huts f_singers f_evening a_at a_knows a_climbed a_snow a_level f_begun f_minute f_avalanches a_run a_covers a_routes a_longest a_steep a_laid a_far f_sight a_runs f_choir f_voices a_rest a_wins f_seed a_other a_kept H)
    (hS : va_S (mA q) s.heap H locs)
    (hl : lv_has ls 2 [(0, .ref q), (1, .int x1)])
    (hw : q_m_hasChoir_0 a_many a_choirs f_choir f_voices x1 post) :
    W p l e rm_m_hasChoir s m args below meth c H locs 0 0 (MQ below (zQi (S := (Int32) × (Int32)) (fun r u => post r u.1 u.2) (fun u H => mW E q f_code a_tape a_size a_fault a_faultPlace a_many a_lands a_evenings a_sights a_choirs f_reached f_length f_begins f_sort f_value f_word f_wrongAt f_laterFault f_laterPlace a_told a_read f_farHut f_farSinger f_good f_land f_huts f_singers f_evening a_at a_knows a_climbed a_snow a_level f_begun f_minute f_avalanches a_run a_covers a_routes a_longest a_steep a_laid a_far f_sight a_runs u.1 u.2 a_rest a_wins f_seed a_other a_kept H) (mA q)) args s 0 0 (mA q)) (F0 m 0 ls []) := by
  have hx := zc.1
  have hb := zc.2.1
  refine lv_aload_n hx hb dX11_hasChoir_0 rfl (lv_at hl 0 rfl) ?_
  refine lv_iload_n hx hb dX11_hasChoir_1 rfl (lv_at hl 1 rfl) ?_
  refine mp_11_475_0 zc hK hM hS dX11_hasChoir_2 (fun H locs hM hS => ?_)
  refine lv_aload_n hx hb dX11_hasChoir_5 rfl (lv_at hl 0 rfl) ?_
  refine lv_iconst (v := (3 : Int32)) hx hb dX11_hasChoir_6 (by decide) ?_
  refine lv_iload_n hx hb dX11_hasChoir_7 rfl (lv_at hl 1 rfl) ?_
  refine zV_i [.int (3 : Int32), .int x1] [] zc ky_X11_is kz_X11_is km_11_291 (c_m_is l hw) (mPreV0 hK hM) rfl rfl hl.1 (Nat.le_of_ble_eq_true rfl) ⟨rfl, rfl⟩ ⟨Nat.le_of_ble_eq_true rfl, Nat.le_of_ble_eq_true rfl⟩ ⟨(Nat.zero_le _), (Nat.zero_le _)⟩ dX11_hasChoir_8 (fun r_1 hw => ?_)
  refine lv_if_ne (tgt := 16) hx hb dX11_hasChoir_11 (by decide) (fun hc => ?_) (fun hc => ?_)
  · have hw := hw.1 hc
    refine lv_aload_n hx hb dX11_hasChoir_16 rfl (lv_at hl 0 rfl) ?_
    refine lv_aload_n hx hb dX11_hasChoir_17 rfl (lv_at hl 0 rfl) ?_
    refine mg_11_35_0 zc hK hM dX11_hasChoir_18 ?_
    refine lv_bipush (v := (20 : Int32)) hx hb dX11_hasChoir_21 (by decide) ?_
    refine lv_iload_n hx hb dX11_hasChoir_23 rfl (lv_at hl 1 rfl) ?_
    refine lv_imul hx hb dX11_hasChoir_24 ?_
    refine mld_9 zc hK hM hw.1 dX11_hasChoir_25 ?_
    have hw := hw.2
    refine lv_topi (fun v_1 ev_1 => ?_)
    have hw := hw v_1 ev_1
    refine mp_11_478_0 zc hK hM hS dX11_hasChoir_26 (fun H locs hM hS => ?_)
    refine lv_iconst (v := (1 : Int32)) hx hb dX11_hasChoir_29 (by decide) ?_
    exact zret_zw ⟨x1, v_1⟩ zc hS rfl hw hM dX11_hasChoir_30
  · have hw := hw.2 hc
    refine lv_iconst (v := (0 : Int32)) hx hb dX11_hasChoir_14 (by decide) ?_
    exact zret_zw ⟨x1, f_voices⟩ zc hS rfl hw hM dX11_hasChoir_15
set_option maxRecDepth 20000 in
theorem c_m_hasChoir (l : Launch) {E : zE} {q : Nat} {f_code : Int32} {a_tape : Nat → Int32} {a_size : Nat → Int32} {a_fault : Nat → Int32} {a_faultPlace : Nat → Int32} {a_many : Nat → Int32} {a_lands : Nat → Int32} {a_evenings : Nat → Int32} {a_sights : Nat → Int32} {a_choirs : Nat → Int32} {f_reached : Int32} {f_length : Int32} {f_begins : Int32} {f_sort : Int32} {f_value : Int32} {f_word : Int64} {f_wrongAt : Int32} {f_laterFault : Int32} {f_laterPlace : Int32} {a_told : Nat → Int32} {a_read : Nat → Int32} {f_farHut : Int32} {f_farSinger : Int32} {f_good : Int32} {f_land : Int32} {f_huts : Int32} {f_singers : Int32} {f_evening : Int32} {a_at : Nat → Int32} {a_knows : Nat → Int32} {a_climbed : Nat → Int32} {a_snow : Nat → Int32} {a_level : Nat → Int32} {f_begun : Int32} {f_minute : Int32} {f_avalanches : Int32} {a_run : Nat → Int32} {a_covers : Nat → Int32} {a_routes : Nat → Int32} {a_longest : Nat → Int32} {a_steep : Nat → Int32} {a_laid : Nat → Int32} {a_far : Nat → Int32} {f_sight : Int32} {a_runs : Nat → Int32} {f_choir : Int32} {f_voices : Int32} {a_rest : Nat → Int64} {a_wins : Nat → Int32} {f_seed : Int32} {a_other : Nat → Int32} {a_kept : Nat → Int32} {x1 : Int32} {post : Int32 → (Int32) → (Int32) → Prop} (hw : q_m_hasChoir_0 a_many a_choirs f_choir f_voices x1 post) : Met l yX11_hasChoir (Cond.code yX11_hasChoir cX11_hasChoir 2 (some .boolean) :: zb) rm_m_hasChoir (va_Pc [.ref q, .int x1] (fun U => mW E q f_code a_tape a_size a_fault a_faultPlace a_many a_lands a_evenings a_sights a_choirs f_reached f_length f_begins f_sort f_value f_word f_wrongAt f_laterFault f_laterPlace a_told a_read f_farHut f_farSinger f_good f_land f_huts f_singers f_evening a_at a_knows a_climbed a_snow a_level f_begun f_minute f_avalanches a_run a_covers a_routes a_longest a_steep a_laid a_far f_sight a_runs f_choir f_voices a_rest a_wins f_seed a_other a_kept U.heap ∧ zK E U)) (zQi (S := (Int32) × (Int32)) (fun r u => post r u.1 u.2) (fun u H => mW E q f_code a_tape a_size a_fault a_faultPlace a_many a_lands a_evenings a_sights a_choirs f_reached f_length f_begins f_sort f_value f_word f_wrongAt f_laterFault f_laterPlace a_told a_read f_farHut f_farSinger f_good f_land f_huts f_singers f_evening a_at a_knows a_climbed a_snow a_level f_begun f_minute f_avalanches a_run a_covers a_routes a_longest a_steep a_laid a_far f_sight a_runs u.1 u.2 a_rest a_wins f_seed a_other a_kept H) (mA q)) 0 0 (mA q) := by
  refine Met.ofW (cc := cX11_hasChoir) (maxL := 2) (ret := (some .boolean)) (by decide) rfl ?_
  intro p e s m args below meth c s₁ B hml hv
  obtain ⟨rfl, hM, hK⟩ := hv
  have zc := zc_of B hml
  have hl := lv_entry ([.ref q, .int x1]) (n := 2) (Nat.le_of_ble_eq_true rfl)
  rw [lg_entry_eq]
  generalize (lg_sl ([.ref q, .int x1]) ++ List.replicate (2 - (lg_sl ([.ref q, .int x1])).length) Slot.unset).toArray = ls at hl ⊢
  have hl : lv_has ls 2 [(0, .ref q), (1, .int x1)] := hl
  exact t_m_hasChoir_0 zc hK hM va_S.rf (lv_sub hl [0, 1] rfl) hw
-- m_voice
abbrev rm_m_voice : Room := { frames := 0, cells := 0, slots := 0, locals := 0 }
def q_m_voice_0 (a_choirs : Nat → Int32) (f_choir : Int32) (x1 : Int32) (x2 : Int32) (post : Int32 → Prop) : Prop :=
  vp_in (((((20 : Int32) * f_choir) + (1 : Int32)) + ((2 : Int32) * x1)) + x2) 160 ∧ (post (a_choirs (Int32.toNatClampNeg (((((20 : Int32) * f_choir) + (1 : Int32)) + ((2 : Int32) * x1)) + x2))))
set_option maxRecDepth 20000 in
theorem t_m_voice_0 {p : Program} {l : Launch} {e : Env} {s : State} {m : MethodId} {args : Array Value} {below : List Frame} {meth : Method} {c : Code} {E : zE} {q : Nat} {f_code : Int32} {a_tape : Nat → Int32} {a_size : Nat → Int32} {a_fault : Nat → Int32} {a_faultPlace : Nat → Int32} {a_many : Nat → Int32} {a_lands : Nat → Int32} {a_evenings : Nat → Int32} {a_sights : Nat → Int32} {a_choirs : Nat → Int32} {f_reached : Int32} {f_length : Int32} {f_begins : Int32} {f_sort : Int32} {f_value : Int32} {f_word : Int64} {f_wrongAt : Int32} {f_laterFault : Int32} {f_laterPlace : Int32} {a_told : Nat → Int32} {a_read : Nat → Int32} {f_farHut : Int32} {f_farSinger : Int32} {f_good : Int32} {f_land : Int32} {f_huts : Int32} {f_singers : Int32} {f_evening : Int32} {a_at : Nat → Int32} {a_knows : Nat → Int32} {a_climbed : Nat → Int32} {a_snow : Nat → Int32} {a_level : Nat → Int32} {f_begun : Int32} {f_minute : Int32} {f_avalanches : Int32} {a_run : Nat → Int32} {a_covers : Nat → Int32} {a_routes : Nat → Int32} {a_longest : Nat → Int32} {a_steep : Nat → Int32} {a_laid : Nat → Int32} {a_far : Nat → Int32} {f_sight : Int32} {a_runs : Nat → Int32} {f_choir : Int32} {f_voices : Int32} {a_rest : Nat → Int64} {a_wins : Nat → Int32} {f_seed : Int32} {a_other : Nat → Int32} {a_kept : Nat → Int32} {post : Int32 → Prop} {x1 : Int32} {x2 : Int32} {ls : Array Slot}
    (zc : zC p s m args meth c cX11_voice 3 RX11 (some .int))
    (hK : zK E s)
    (hM : mW E q f_code a_tape a_size a_fault a_faultPlace a_many a_lands a_evenings a_sights a_choirs f_reached f_length f_begins f_sort f_value f_word f_wrongAt f_laterFault f_laterPlace a_told a_read f_farHut f_farSinger f_good f_land f_huts f_singers f_evening a_at a_knows a_climbed a_snow a_level f_begun f_minute f_avalanches a_run a_covers a_routes a_longest a_steep a_laid a_far f_sight a_runs f_choir f_voices a_rest a_wins f_seed a_other a_kept s.heap)
    (hl : lv_has ls 3 [(0, .ref q), (1, .int x1), (2, .int x2)])
    (hw : q_m_voice_0 a_choirs f_choir x1 x2 post) :
    W p l e rm_m_voice s m args below meth c s.heap [] 0 0 (MQ below (vp_Si post) args s 0 0 (fun _ => False)) (F0 m 0 ls []) := by
  have hx := zc.1
  have hb := zc.2.1
  refine lv_aload_n hx hb dX11_voice_0 rfl (lv_at hl 0 rfl) ?_
  refine mg_11_35_0 zc hK hM dX11_voice_1 ?_
  refine lv_bipush (v := (20 : Int32)) hx hb dX11_voice_4 (by decide) ?_
  refine lv_aload_n hx hb dX11_voice_6 rfl (lv_at hl 0 rfl) ?_
  refine mg_11_475_0 zc hK hM dX11_voice_7 ?_
  refine lv_imul hx hb dX11_voice_10 ?_
  refine lv_iconst (v := (1 : Int32)) hx hb dX11_voice_11 (by decide) ?_
  refine lv_iadd hx hb dX11_voice_12 ?_
  refine lv_iconst (v := (2 : Int32)) hx hb dX11_voice_13 (by decide) ?_
  refine lv_iload_n hx hb dX11_voice_14 rfl (lv_at hl 1 rfl) ?_
  refine lv_imul hx hb dX11_voice_15 ?_
  refine lv_iadd hx hb dX11_voice_16 ?_
  refine lv_iload_n hx hb dX11_voice_17 rfl (lv_at hl 2 rfl) ?_
  refine lv_iadd hx hb dX11_voice_18 ?_
  refine mld_9 zc hK hM hw.1 dX11_voice_19 ?_
  have hw := hw.2
  exact zret_i zc hw dX11_voice_20
set_option maxRecDepth 20000 in
theorem c_m_voice (l : Launch) {E : zE} {q : Nat} {f_code : Int32} {a_tape : Nat → Int32} {a_size : Nat → Int32} {a_fault : Nat → Int32} {a_faultPlace : Nat → Int32} {a_many : Nat → Int32} {a_lands : Nat → Int32} {a_evenings : Nat → Int32} {a_sights : Nat → Int32} {a_choirs : Nat → Int32} {f_reached : Int32} {f_length : Int32} {f_begins : Int32} {f_sort : Int32} {f_value : Int32} {f_word : Int64} {f_wrongAt : Int32} {f_laterFault : Int32} {f_laterPlace : Int32} {a_told : Nat → Int32} {a_read : Nat → Int32} {f_farHut : Int32} {f_farSinger : Int32} {f_good : Int32} {f_land : Int32} {f_huts : Int32} {f_singers : Int32} {f_evening : Int32} {a_at : Nat → Int32} {a_knows : Nat → Int32} {a_climbed : Nat → Int32} {a_snow : Nat → Int32} {a_level : Nat → Int32} {f_begun : Int32} {f_minute : Int32} {f_avalanches : Int32} {a_run : Nat → Int32} {a_covers : Nat → Int32} {a_routes : Nat → Int32} {a_longest : Nat → Int32} {a_steep : Nat → Int32} {a_laid : Nat → Int32} {a_far : Nat → Int32} {f_sight : Int32} {a_runs : Nat → Int32} {f_choir : Int32} {f_voices : Int32} {a_rest : Nat → Int64} {a_wins : Nat → Int32} {f_seed : Int32} {a_other : Nat → Int32} {a_kept : Nat → Int32} {x1 : Int32} {x2 : Int32} {post : Int32 → Prop} (hw : q_m_voice_0 a_choirs f_choir x1 x2 post) : Met l yX11_voice (Cond.code yX11_voice cX11_voice 3 (some .int) :: zb) rm_m_voice (va_Pc [.ref q, .int x1, .int x2] (fun U => mW E q f_code a_tape a_size a_fault a_faultPlace a_many a_lands a_evenings a_sights a_choirs f_reached f_length f_begins f_sort f_value f_word f_wrongAt f_laterFault f_laterPlace a_told a_read f_farHut f_farSinger f_good f_land f_huts f_singers f_evening a_at a_knows a_climbed a_snow a_level f_begun f_minute f_avalanches a_run a_covers a_routes a_longest a_steep a_laid a_far f_sight a_runs f_choir f_voices a_rest a_wins f_seed a_other a_kept U.heap ∧ zK E U)) (vp_Si post) 0 0 (fun _ => False) := by
  refine Met.ofW (cc := cX11_voice) (maxL := 3) (ret := (some .int)) (by decide) rfl ?_
  intro p e s m args below meth c s₁ B hml hv
  obtain ⟨rfl, hM, hK⟩ := hv
  have zc := zc_of B hml
  have hl := lv_entry ([.ref q, .int x1, .int x2]) (n := 3) (Nat.le_of_ble_eq_true rfl)
  rw [lg_entry_eq]
  generalize (lg_sl ([.ref q, .int x1, .int x2]) ++ List.replicate (3 - (lg_sl ([.ref q, .int x1, .int x2])).length) Slot.unset).toArray = ls at hl ⊢
  have hl : lv_has ls 3 [(0, .ref q), (1, .int x1), (2, .int x2)] := hl
  exact t_m_voice_0 zc hK hM (lv_sub hl [0, 1, 2] rfl) hw
-- m_follows
abbrev rm_m_follows : Room := { frames := 1, cells := 0, slots := 0, locals := 22 }
def q_m_follows_0 (a_choirs : Nat → Int32) (f_choir : Int32) (x1 : Int32) (x2 : Int32) (x3 : Int32) (post : Int32 → Prop) : Prop :=
  q_m_voice_0 a_choirs f_choir x1 (0 : Int32) (fun r_1 => q_m_voice_0 a_choirs f_choir x2 (0 : Int32) (fun r_2 => (r_1 = r_2 → (post (0 : Int32))) ∧ (¬ r_1 = r_2 → (q_m_voice_0 a_choirs f_choir x2 (1 : Int32) (fun r_3 => q_m_voice_0 a_choirs f_choir x1 (1 : Int32) (fun r_4 => ((r_4 + x3) < r_3 → (post (0 : Int32))) ∧ (¬ (r_4 + x3) < r_3 → (post (1 : Int32)))))))))
set_option maxRecDepth 20000 in
theorem t_m_follows_0 {p : Program} {l : Launch} {e : Env} {s : State} {m : MethodId} {args : Array Value} {below : List Frame} {meth : Method} {c : Code} {E : zE} {q : Nat} {f_code : Int32} {a_tape : Nat → Int32} {a_size : Nat → Int32} {a_fault : Nat → Int32} {a_faultPlace : Nat → Int32} {a_many : Nat → Int32} {a_lands : Nat → Int32} {a_evenings : Nat → Int32} {a_sights : Nat → Int32} {a_choirs : Nat → Int32} {f_reached : Int32} {f_length : Int32} {f_begins : Int32} {f_sort : Int32} {f_value : Int32} {f_word : Int64} {f_wrongAt : Int32} {f_laterFault : Int32} {f_laterPlace : Int32} {a_told : Nat → Int32} {a_read : Nat → Int32} {f_farHut : Int32} {f_farSinger : Int32} {f_good : Int32} {f_land : Int32} {f_huts : Int32} {f_singers : Int32} {f_evening : Int32} {a_at : Nat → Int32} {a_knows : Nat → Int32} {a_climbed : Nat → Int32} {a_snow : Nat → Int32} {a_level : Nat → Int32} {f_begun : Int32} {f_minute : Int32} {f_avalanches : Int32} {a_run : Nat → Int32} {a_covers : Nat → Int32} {a_routes : Nat → Int32} {a_longest : Nat → Int32} {a_steep : Nat → Int32} {a_laid : Nat → Int32} {a_far : Nat → Int32} {f_sight : Int32} {a_runs : Nat → Int32} {f_choir : Int32} {f_voices : Int32} {a_rest : Nat → Int64} {a_wins : Nat → Int32} {f_seed : Int32} {a_other : Nat → Int32} {a_kept : Nat → Int32} {post : Int32 → Prop} {x1 : Int32} {x2 : Int32} {x3 : Int32} {ls : Array Slot}
    (zc : zC p s m args meth c cX11_follows 4 RX11 (some .boolean))
    (hK : zK E s)
    (hM : mW E q f_code a_tape a_size a_fault a_faultPlace a_many a_lands a_evenings a_sights a_choirs f_reached f_length f_begins f_sort f_value f_word f_wrongAt f_laterFault f_laterPlace a_told a_read f_farHut f_farSinger f_good f_land f_huts f_singers f_evening a_at a_knows a_climbed a_snow a_level f_begun f_minute f_avalanches a_run a_covers a_routes a_longest a_steep a_laid a_far f_sight a_runs f_choir f_voices a_rest a_wins f_seed a_other a_kept s.heap)
    (hl : lv_has ls 4 [(0, .ref q), (1, .int x1), (2, .int x2), (3, .int x3)])
    (hw : q_m_follows_0 a_choirs f_choir x1 x2 x3 post) :
    W p l e rm_m_follows s m args below meth c s.heap [] 0 0 (MQ below (vp_Si post) args s 0 0 (fun _ => False)) (F0 m 0 ls []) := by
  have hx := zc.1
  have hb := zc.2.1
  refine lv_aload_n hx hb dX11_follows_0 rfl (lv_at hl 0 rfl) ?_
  refine lv_iload_n hx hb dX11_follows_1 rfl (lv_at hl 1 rfl) ?_
  refine lv_iconst (v := (0 : Int32)) hx hb dX11_follows_2 (by decide) ?_
  refine zV_i [.int x1, .int (0 : Int32)] [] zc ky_X11_voice kz_X11_voice km_11_481 (c_m_voice l hw) (mPreV0 hK hM) rfl rfl hl.1 (Nat.le_of_ble_eq_true rfl) ⟨rfl, rfl⟩ ⟨Nat.le_of_ble_eq_true rfl, Nat.le_of_ble_eq_true rfl⟩ ⟨(Nat.zero_le _), (Nat.zero_le _)⟩ dX11_follows_3 (fun r_1 hw => ?_)
  refine lv_aload_n hx hb dX11_follows_6 rfl (lv_at hl 0 rfl) ?_
  refine lv_iload_n hx hb dX11_follows_7 rfl (lv_at hl 2 rfl) ?_
  refine lv_iconst (v := (0 : Int32)) hx hb dX11_follows_8 (by decide) ?_
  refine zV_i [.int x2, .int (0 : Int32)] [.int r_1] zc ky_X11_voice kz_X11_voice km_11_481 (c_m_voice l hw) (mPreV0 hK hM) rfl rfl hl.1 (Nat.le_of_ble_eq_true rfl) ⟨rfl, rfl⟩ ⟨Nat.le_of_ble_eq_true rfl, Nat.le_of_ble_eq_true rfl⟩ ⟨(Nat.zero_le _), (Nat.zero_le _)⟩ dX11_follows_9 (fun r_2 hw => ?_)
  refine lv_icmp_eq (tgt := 36) hx hb dX11_follows_12 (by decide) (fun hc => ?_) (fun hc => ?_)
  · have hw := hw.1 hc
    refine lv_iconst (v := (0 : Int32)) hx hb dX11_follows_36 (by decide) ?_
    exact zret_z zc rfl hw dX11_follows_37
  · have hw := hw.2 hc
    refine lv_aload_n hx hb dX11_follows_15 rfl (lv_at hl 0 rfl) ?_
    refine lv_iload_n hx hb dX11_follows_16 rfl (lv_at hl 2 rfl) ?_
    refine lv_iconst (v := (1 : Int32)) hx hb dX11_follows_17 (by decide) ?_
    refine zV_i [.int x2, .int (1 : Int32)] [] zc ky_X11_voice kz_X11_voice km_11_481 (c_m_voice l hw) (mPreV0 hK hM) rfl rfl hl.1 (Nat.le_of_ble_eq_true rfl) ⟨rfl, rfl⟩ ⟨Nat.le_of_ble_eq_true rfl, Nat.le_of_ble_eq_true rfl⟩ ⟨(Nat.zero_le _), (Nat.zero_le _)⟩ dX11_follows_18 (fun r_3 hw => ?_)
    refine lv_aload_n hx hb dX11_follows_21 rfl (lv_at hl 0 rfl) ?_
    refine lv_iload_n hx hb dX11_follows_22 rfl (lv_at hl 1 rfl) ?_
    refine lv_iconst (v := (1 : Int32)) hx hb dX11_follows_23 (by decide) ?_
    refine zV_i [.int x1, .int (1 : Int32)] [.int r_3] zc ky_X11_voice kz_X11_voice km_11_481 (c_m_voice l hw) (mPreV0 hK hM) rfl rfl hl.1 (Nat.le_of_ble_eq_true rfl) ⟨rfl, rfl⟩ ⟨Nat.le_of_ble_eq_true rfl, Nat.le_of_ble_eq_true rfl⟩ ⟨(Nat.zero_le _), (Nat.zero_le _)⟩ dX11_follows_24 (fun r_4 hw => ?_)
    refine lv_iload_n hx hb dX11_follows_27 rfl (lv_at hl 3 rfl) ?_
    refine lv_iadd hx hb dX11_follows_28 ?_
    refine lv_icmp_gt (tgt := 36) hx hb dX11_follows_29 (by decide) (fun hc => ?_) (fun hc => ?_)
    · have hw := hw.1 hc
      refine lv_iconst (v := (0 : Int32)) hx hb dX11_follows_36 (by decide) ?_
      exact zret_z zc rfl hw dX11_follows_37
    · have hw := hw.2 hc
      refine lv_iconst (v := (1 : Int32)) hx hb dX11_follows_32 (by decide) ?_
      refine lv_goto (tgt := 37) hx hb dX11_follows_33 (by decide) ?_
      exact zret_z zc rfl hw dX11_follows_37
set_option maxRecDepth 20000 in
theorem c_m_follows (l : Launch) {E : zE} {q : Nat} {f_code : Int32} {a_tape : Nat → Int32} {a_size : Nat → Int32} {a_fault : Nat → Int32} {a_faultPlace : Nat → Int32} {a_many : Nat → Int32} {a_lands : Nat → Int32} {a_evenings : Nat → Int32} {a_sights : Nat → Int32} {a_choirs : Nat → Int32} {f_reached : Int32} {f_length : Int32} {f_begins : Int32} {f_sort : Int32} {f_value : Int32} {f_word : Int64} {f_wrongAt : Int32} {f_laterFault : Int32} {f_laterPlace : Int32} {a_told : Nat → Int32} {a_read : Nat → Int32} {f_farHut : Int32} {f_farSinger : Int32} {f_good : Int32} {f_land : Int32} {f_huts : Int32} {f_singers : Int32} {f_evening : Int32} {a_at : Nat → Int32} {a_knows : Nat → Int32} {a_climbed : Nat → Int32} {a_snow : Nat → Int32} {a_level : Nat → Int32} {f_begun : Int32} {f_minute : Int32} {f_avalanches : Int32} {a_run : Nat → Int32} {a_covers : Nat → Int32} {a_routes : Nat → Int32} {a_longest : Nat → Int32} {a_steep : Nat → Int32} {a_laid : Nat → Int32} {a_far : Nat → Int32} {f_sight : Int32} {a_runs : Nat → Int32} {f_choir : Int32} {f_voices : Int32} {a_rest : Nat → Int64} {a_wins : Nat → Int32} {f_seed : Int32} {a_other : Nat → Int32} {a_kept : Nat → Int32} {x1 : Int32} {x2 : Int32} {x3 : Int32} {post : Int32 → Prop} (hw : q_m_follows_0 a_choirs f_choir x1 x2 x3 post) : Met l yX11_follows (Cond.code yX11_follows cX11_follows 4 (some .boolean) :: zb) rm_m_follows (va_Pc [.ref q, .int x1, .int x2, .int x3] (fun U => mW E q f_code a_tape a_size a_fault a_faultPlace a_many a_lands a_evenings a_sights a_choirs f_reached f_length f_begins f_sort f_value f_word f_wrongAt f_laterFault f_laterPlace a_told a_read f_farHut f_farSinger f_good f_land f_huts f_singers f_evening a_at a_knows a_climbed a_snow a_level f_begun f_minute f_avalanches a_run a_covers a_routes a_longest a_steep a_laid a_far f_sight a_runs f_choir f_voices a_rest a_wins f_seed a_other a_kept U.heap ∧ zK E U)) (vp_Si post) 0 0 (fun _ => False) := by
  refine Met.ofW (cc := cX11_follows) (maxL := 4) (ret := (some .boolean)) (by decide) rfl ?_
  intro p e s m args below meth c s₁ B hml hv
  obtain ⟨rfl, hM, hK⟩ := hv
  have zc := zc_of B hml
  have hl := lv_entry ([.ref q, .int x1, .int x2, .int x3]) (n := 4) (Nat.le_of_ble_eq_true rfl)
  rw [lg_entry_eq]
  generalize (lg_sl ([.ref q, .int x1, .int x2, .int x3]) ++ List.replicate (4 - (lg_sl ([.ref q, .int x1, .int x2, .int x3])).length) Slot.unset).toArray = ls at hl ⊢
  have hl : lv_has ls 4 [(0, .ref q), (1, .int x1), (2, .int x2), (3, .int x3)] := hl
  exact t_m_follows_0 zc hK hM (lv_sub hl [0, 1, 2, 3] rfl) hw
-- m_findRest
abbrev rm_m_findRest : Room := { frames := 2, cells := 0, slots := 0, locals := 45 }
def q_m_findRest_159 (a_choirs : Nat → Int32) (f_choir : Int32) (f_voices : Int32) (a_rest : Nat → Int64) (x3 : Int64) (x5 : Int32) (post : Int64 → (Nat → Int64) → Prop) : Prop :=
  ∀ P159 : Int64 → Int32 → Prop, (∀ (x3 : Int64) (x5 : Int32), ((f_voices ≤ x5 → (post x3 a_rest)) ∧ (¬ f_voices ≤ x5 → (vp_in (((9 : Int32) * ((1 : Int32) <<< (x5 &&& 31))) + x5) 4608 ∧ (∀ v_1 : Int64, v_1 = (x3 + (a_rest (Int32.toNatClampNeg (((9 : Int32) * ((1 : Int32) <<< (x5 &&& 31))) + x5)))) → (∀ v_2 : Int32, v_2 = x5 + (1 : Int32) → (P159 v_1 v_2)))))) → P159 x3 x5) → P159 x3 x5
def q_m_findRest_155 (a_choirs : Nat → Int32) (f_choir : Int32) (f_voices : Int32) (a_rest : Nat → Int64) (y0 : Int64) (post : Int64 → (Nat → Int64) → Prop) : Prop :=
  q_m_findRest_159 a_choirs f_choir f_voices a_rest y0 (0 : Int32) post
def q_m_findRest_130 (P11 : Int32 → (Nat → Int64) → Prop) (P18 : Int32 → (Nat → Int64) → Prop) (a_choirs : Nat → Int32) (f_choir : Int32) (f_voices : Int32) (a_rest : Nat → Int64) (x1 : Int32) (x2 : Int32) (x3 : Int32) (x4 : Int32) (y0 : Int32) (y1 : Int64) (post : Int64 → (Nat → Int64) → Prop) : Prop :=
  vp_in y0 4608 ∧ (∀ a_rest_1 : Nat → Int64, a_rest_1 = vp_updL a_rest (Int32.toNatClampNeg y0) y1 → (∀ v_1 : Int32, v_1 = x4 + (1 : Int32) → (P18 v_1 a_rest_1)))
def q_m_findRest_95 (P11 : Int32 → (Nat → Int64) → Prop) (P18 : Int32 → (Nat → Int64) → Prop) (P42 : Int64 → Int32 → Prop) (a_choirs : Nat → Int32) (f_choir : Int32) (f_voices : Int32) (a_rest : Nat → Int64) (x1 : Int32) (x2 : Int32) (x3 : Int32) (x4 : Int32) (x7 : Int32) (y0 : Int64) (y1 : Int64) (post : Int64 → (Nat → Int64) → Prop) : Prop :=
  ∀ v_1 : Int64, v_1 = (y0 + y1) → (∀ v_2 : Int32, v_2 = x7 + (1 : Int32) → (P42 v_1 v_2))
def q_m_findRest_94 (P11 : Int32 → (Nat → Int64) → Prop) (P18 : Int32 → (Nat → Int64) → Prop) (P42 : Int64 → Int32 → Prop) (a_choirs : Nat → Int32) (f_choir : Int32) (f_voices : Int32) (a_rest : Nat → Int64) (x1 : Int32) (x2 : Int32) (x3 : Int32) (x4 : Int32) (x7 : Int32) (y0 : Int64) (post : Int64 → (Nat → Int64) → Prop) : Prop :=
  q_m_findRest_95 P11 P18 P42 a_choirs f_choir f_voices a_rest x1 x2 x3 x4 x7 y0 (0 : Int64) post
def q_m_findRest_42 (P11 : Int32 → (Nat → Int64) → Prop) (P18 : Int32 → (Nat → Int64) → Prop) (a_choirs : Nat → Int32) (f_choir : Int32) (f_voices : Int32) (a_rest : Nat → Int64) (x1 : Int32) (x2 : Int32) (x3 : Int32) (x4 : Int32) (x5 : Int64) (x7 : Int32) (post : Int64 → (Nat → Int64) → Prop) : Prop :=
  ∀ P42 : Int64 → Int32 → Prop, (∀ (x5 : Int64) (x7 : Int32), ((f_voices ≤ x7 → (q_m_has_0 x3 x4 (fun r_1 => (r_1 = 0 → (q_m_findRest_130 P11 P18 a_choirs f_choir f_voices a_rest x1 x2 x3 x4 (((9 : Int32) * x3) + x4) (0 : Int64) post)) ∧ (¬ r_1 = 0 → (q_m_findRest_130 P11 P18 a_choirs f_choir f_voices a_rest x1 x2 x3 x4 (((9 : Int32) * x3) + x4) x5 post))))) ∧ (¬ f_voices ≤ x7 → (q_m_has_0 x3 x7 (fun r_2 => (¬ r_2 = 0 → (q_m_findRest_94 P11 P18 P42 a_choirs f_choir f_voices a_rest x1 x2 x3 x4 x7 x5 post)) ∧ (r_2 = 0 → (q_m_follows_0 a_choirs f_choir x4 x7 x1 (fun r_3 => (r_3 = 0 → (q_m_findRest_94 P11 P18 P42 a_choirs f_choir f_voices a_rest x1 x2 x3 x4 x7 x5 post)) ∧ (¬ r_3 = 0 → (vp_in (((9 : Int32) * (x3 ||| ((1 : Int32) <<< (x7 &&& 31)))) + x7) 4608 ∧ (q_m_findRest_95 P11 P18 P42 a_choirs f_choir f_voices a_rest x1 x2 x3 x4 x7 x5 (a_rest (Int32.toNatClampNeg (((9 : Int32) * (x3 ||| ((1 : Int32) <<< (x7 &&& 31)))) + x7))) post)))))))))) → P42 x5 x7) → P42 x5 x7
def q_m_findRest_37 (P11 : Int32 → (Nat → Int64) → Prop) (P18 : Int32 → (Nat → Int64) → Prop) (a_choirs : Nat → Int32) (f_choir : Int32) (f_voices : Int32) (a_rest : Nat → Int64) (x1 : Int32) (x2 : Int32) (x3 : Int32) (x4 : Int32) (y0 : Int64) (post : Int64 → (Nat → Int64) → Prop) : Prop :=
  q_m_findRest_42 P11 P18 a_choirs f_choir f_voices a_rest x1 x2 x3 x4 y0 (0 : Int32) post
def q_m_findRest_18 (P11 : Int32 → (Nat → Int64) → Prop) (a_choirs : Nat → Int32) (f_choir : Int32) (f_voices : Int32) (a_rest : Nat → Int64) (x1 : Int32) (x2 : Int32) (x3 : Int32) (x4 : Int32) (post : Int64 → (Nat → Int64) → Prop) : Prop :=
  ∀ P18 : Int32 → (Nat → Int64) → Prop, (∀ (x4 : Int32) (a_rest : Nat → Int64), ((f_voices ≤ x4 → (∀ v_1 : Int32, v_1 = x3 + (-1 : Int32) → (P11 v_1 a_rest))) ∧ (¬ f_voices ≤ x4 → ((¬ x3 = x2 → (q_m_findRest_37 P11 P18 a_choirs f_choir f_voices a_rest x1 x2 x3 x4 (0 : Int64) post)) ∧ (x3 = x2 → (q_m_findRest_37 P11 P18 a_choirs f_choir f_voices a_rest x1 x2 x3 x4 (1 : Int64) post))))) → P18 x4 a_rest) → P18 x4 a_rest
def q_m_findRest_11 (a_choirs : Nat → Int32) (f_choir : Int32) (f_voices : Int32) (a_rest : Nat → Int64) (x1 : Int32) (x2 : Int32) (x3 : Int32) (post : Int64 → (Nat → Int64) → Prop) : Prop :=
  ∀ P11 : Int32 → (Nat → Int64) → Prop, (∀ (x3 : Int32) (a_rest : Nat → Int64), ((x3 ≤ 0 → ((¬ f_voices = 0 → (q_m_findRest_155 a_choirs f_choir f_voices a_rest (0 : Int64) post)) ∧ (f_voices = 0 → (q_m_findRest_155 a_choirs f_choir f_voices a_rest (1 : Int64) post)))) ∧ (¬ x3 ≤ 0 → (q_m_findRest_18 P11 a_choirs f_choir f_voices a_rest x1 x2 x3 (0 : Int32) post))) → P11 x3 a_rest) → P11 x3 a_rest
def q_m_findRest_0 (a_choirs : Nat → Int32) (f_choir : Int32) (f_voices : Int32) (a_rest : Nat → Int64) (x1 : Int32) (post : Int64 → (Nat → Int64) → Prop) : Prop :=
  ∀ v_1 : Int32, v_1 = (((1 : Int32) <<< (f_voices &&& 31)) - (1 : Int32)) → (q_m_findRest_11 a_choirs f_choir f_voices a_rest x1 v_1 v_1 post)
set_option maxRecDepth 20000 in
theorem t_m_findRest_159 {p : Program} {l : Launch} {e : Env} {s : State} {m : MethodId} {args : Array Value} {below : List Frame} {meth : Method} {c : Code} {E : zE} {q : Nat} {f_code : Int32} {a_tape : Nat → Int32} {a_size : Nat → Int32} {a_fault : Nat → Int32} {a_faultPlace : Nat → Int32} {a_many : Nat → Int32} {a_lands : Nat → Int32} {a_evenings : Nat → Int32} {a_sights : Nat → Int32} {a_choirs : Nat → Int32} {f_reached : Int32} {f_length : Int32} {f_begins : Int32} {f_sort : Int32} {f_value : Int32} {f_word : Int64} {f_wrongAt : Int32} {f_laterFault : Int32} {f_laterPlace : Int32} {a_told : Nat → Int32} {a_read : Nat → Int32} {f_farHut : Int32} {f_farSinger : Int32} {f_good : Int32} {f_land : Int32} {f_huts : Int32} {f_singers : Int32} {f_evening : Int32} {a_at : Nat → Int32} {a_knows : Nat → Int32} {a_climbed : Nat → Int32} {a_snow : Nat → Int32} {a_level : Nat → Int32} {f_begun : Int32} {f_minute : Int32} {f_avalanches : Int32} {a_run : Nat → Int32} {a_covers : Nat → Int32} {a_routes : Nat → Int32} {a_longest : Nat → Int32} {a_steep : Nat → Int32} {a_laid : Nat → Int32} {a_far : Nat → Int32} {f_sight : Int32} {a_runs : Nat → Int32} {f_choir : Int32} {f_voices : Int32} {a_rest : Nat → Int64} {a_wins : Nat → Int32} {f_seed : Int32} {a_other : Nat → Int32} {a_kept : Nat → Int32} {post : Int64 → (Nat → Int64) → Prop} {x3 : Int64} {x5 : Int32} {ls : Array Slot} {H : Heap} {locs : List Loc}
    (zc : zC p s m args meth c cX11_findRest 8 RX11 (some .long))
    (hK : zK E s)
    (hM : mW E q f_code a_tape a_size a_fault a_faultPlace a_many a_lands a_evenings a_sights a_choirs f_reached f_length f_begins f_sort f_value f_word f_wrongAt f_laterFault f_laterPlace a_told a_read f_farHut f_farSinger f_good f_land f_huts f_singers f_evening a_at a_knows a_climbed a_snow a_level f_begun f_minute f_avalanches a_run a_covers a_routes a_longest a_steep a_laid a_far f_sight a_runs f_choir f_voices a_rest a_wins f_seed a_other a_kept H)
    (hS : va_S (mA q) s.heap H locs)
    (hl : lv_has ls 8 [(0, .ref q), (3, .long x3), (5, .int x5)])
    (hw : q_m_findRest_159 a_choirs f_choir f_voices a_rest x3 x5 post) :
    W p l e rm_m_findRest s m args below meth c H locs 0 0 (MQ below (zQl (S := (Nat → Int64)) (fun r u => post r u) (fun u H => mW E q f_code a_tape a_size a_fault a_faultPlace a_many a_lands a_evenings a_sights a_choirs f_reached f_length f_begins f_sort f_value f_word f_wrongAt f_laterFault f_laterPlace a_told a_read f_farHut f_farSinger f_good f_land f_huts f_singers f_evening a_at a_knows a_climbed a_snow a_level f_begun f_minute f_avalanches a_run a_covers a_routes a_longest a_steep a_laid a_far f_sight a_runs f_choir f_voices u a_wins f_seed a_other a_kept H) (mA q)) args s 0 0 (mA q)) (F0 m 159 ls []) := by
  have hx := zc.1
  have hb := zc.2.1
  refine hw (fun x3 x5 => ∀ (H : Heap) (locs : List Loc) (ls : Array Slot), lv_has ls 8 [(0, .ref q), (3, .long x3), (5, .int x5)] → mW E q f_code a_tape a_size a_fault a_faultPlace a_many a_lands a_evenings a_sights a_choirs f_reached f_length f_begins f_sort f_value f_word f_wrongAt f_laterFault f_laterPlace a_told a_read f_farHut f_farSinger f_good f_land f_huts f_singers f_evening a_at a_knows a_climbed a_snow a_level f_begun f_minute f_avalanches a_run a_covers a_routes a_longest a_steep a_laid a_far f_sight a_runs f_choir f_voices a_rest a_wins f_seed a_other a_kept H → va_S (mA q) s.heap H locs → W p l e rm_m_findRest s m args below meth c H locs 0 0 (MQ below (zQl (S := (Nat → Int64)) (fun r u => post r u) (fun u H => mW E q f_code a_tape a_size a_fault a_faultPlace a_many a_lands a_evenings a_sights a_choirs f_reached f_length f_begins f_sort f_value f_word f_wrongAt f_laterFault f_laterPlace a_told a_read f_farHut f_farSinger f_good f_land f_huts f_singers f_evening a_at a_knows a_climbed a_snow a_level f_begun f_minute f_avalanches a_run a_covers a_routes a_longest a_steep a_laid a_far f_sight a_runs f_choir f_voices u a_wins f_seed a_other a_kept H) (mA q)) args s 0 0 (mA q)) (F0 m 159 ls [])) ?_ _ _ _ hl hM hS
  intro x3 x5 hw H locs ls hl hM hS
  refine lv_iload hx hb dX11_findRest_159 (lv_at hl 2 rfl) ?_
  refine lv_aload_n hx hb dX11_findRest_161 rfl (lv_at hl 0 rfl) ?_
  refine mg_11_478_0 zc hK hM dX11_findRest_162 ?_
  refine lv_icmp_ge (tgt := 192) hx hb dX11_findRest_165 (by decide) (fun hc => ?_) (fun hc => ?_)
  · have hw := hw.1 hc
    refine lv_lload_n hx hb dX11_findRest_192 rfl (lv_at hl 1 rfl) ?_
    exact zret_lw a_rest zc hS hw hM dX11_findRest_193
  · have hw := hw.2 hc
    refine lv_lload_n hx hb dX11_findRest_168 rfl (lv_at hl 1 rfl) ?_
    refine lv_aload_n hx hb dX11_findRest_169 rfl (lv_at hl 0 rfl) ?_
    refine mg_11_84_0 zc hK hM dX11_findRest_170 ?_
    refine lv_bipush (v := (9 : Int32)) hx hb dX11_findRest_173 (by decide) ?_
    refine lv_iconst (v := (1 : Int32)) hx hb dX11_findRest_175 (by decide) ?_
    refine lv_iload hx hb dX11_findRest_176 (lv_at hl 2 rfl) ?_
    refine lv_ishl hx hb dX11_findRest_178 ?_
    refine lv_imul hx hb dX11_findRest_179 ?_
    refine lv_iload hx hb dX11_findRest_180 (lv_at hl 2 rfl) ?_
    refine lv_iadd hx hb dX11_findRest_182 ?_
    refine mld_25 zc hK hM hw.1 dX11_findRest_183 ?_
    have hw := hw.2
    refine lv_ladd hx hb dX11_findRest_184 ?_
    refine lv_topl (fun v_1 ev_1 => ?_)
    have hw := hw v_1 ev_1
    refine lv_lstore_n (lv' := [(3, .long v_1), (0, .ref q), (5, .int x5)]) hx hb dX11_findRest_185 rfl hl (by decide) rfl (fun ls hl => ?_)
    obtain ⟨v_2, ev_2⟩ : ∃ y : Int32, y = x5 + (1 : Int32) := ⟨_, rfl⟩
    have hw := hw v_2 ev_2
    refine lv_iinc (v := v_2) (k := 2) (lv' := [(5, .int v_2), (3, .long v_1), (0, .ref q)]) hx hb dX11_findRest_186 hl rfl (by rw [ev_2]; rfl) (by decide) rfl (fun ls hl => ?_)
    refine lv_goto (tgt := 159) hx hb dX11_findRest_189 (by decide) ?_
    exact hw _ _ _ (lv_sub hl [2, 1, 0] rfl) hM hS
set_option maxRecDepth 20000 in
theorem t_m_findRest_155 {p : Program} {l : Launch} {e : Env} {s : State} {m : MethodId} {args : Array Value} {below : List Frame} {meth : Method} {c : Code} {E : zE} {q : Nat} {f_code : Int32} {a_tape : Nat → Int32} {a_size : Nat → Int32} {a_fault : Nat → Int32} {a_faultPlace : Nat → Int32} {a_many : Nat → Int32} {a_lands : Nat → Int32} {a_evenings : Nat → Int32} {a_sights : Nat → Int32} {a_choirs : Nat → Int32} {f_reached : Int32} {f_length : Int32} {f_begins : Int32} {f_sort : Int32} {f_value : Int32} {f_word : Int64} {f_wrongAt : Int32} {f_laterFault : Int32} {f_laterPlace : Int32} {a_told : Nat → Int32} {a_read : Nat → Int32} {f_farHut : Int32} {f_farSinger : Int32} {f_good : Int32} {f_land : Int32} {f_huts : Int32} {f_singers : Int32} {f_evening : Int32} {a_at : Nat → Int32} {a_knows : Nat → Int32} {a_climbed : Nat → Int32} {a_snow : Nat → Int32} {a_level : Nat → Int32} {f_begun : Int32} {f_minute : Int32} {f_avalanches : Int32} {a_run : Nat → Int32} {a_covers : Nat → Int32} {a_routes : Nat → Int32} {a_longest : Nat → Int32} {a_steep : Nat → Int32} {a_laid : Nat → Int32} {a_far : Nat → Int32} {f_sight : Int32} {a_runs : Nat → Int32} {f_choir : Int32} {f_voices : Int32} {a_rest : Nat → Int64} {a_wins : Nat → Int32} {f_seed : Int32} {a_other : Nat → Int32} {a_kept : Nat → Int32} {post : Int64 → (Nat → Int64) → Prop} {y0 : Int64} {ls : Array Slot} {H : Heap} {locs : List Loc}
    (zc : zC p s m args meth c cX11_findRest 8 RX11 (some .long))
    (hK : zK E s)
    (hM : mW E q f_code a_tape a_size a_fault a_faultPlace a_many a_lands a_evenings a_sights a_choirs f_reached f_length f_begins f_sort f_value f_word f_wrongAt f_laterFault f_laterPlace a_told a_read f_farHut f_farSinger f_good f_land f_huts f_singers f_evening a_at a_knows a_climbed a_snow a_level f_begun f_minute f_avalanches a_run a_covers a_routes a_longest a_steep a_laid a_far f_sight a_runs f_choir f_voices a_rest a_wins f_seed a_other a_kept H)
    (hS : va_S (mA q) s.heap H locs)
    (hl : lv_has ls 8 [(0, .ref q)])
    (hw : q_m_findRest_155 a_choirs f_choir f_voices a_rest y0 post) :
    W p l e rm_m_findRest s m args below meth c H locs 0 0 (MQ below (zQl (S := (Nat → Int64)) (fun r u => post r u) (fun u H => mW E q f_code a_tape a_size a_fault a_faultPlace a_many a_lands a_evenings a_sights a_choirs f_reached f_length f_begins f_sort f_value f_word f_wrongAt f_laterFault f_laterPlace a_told a_read f_farHut f_farSinger f_good f_land f_huts f_singers f_evening a_at a_knows a_climbed a_snow a_level f_begun f_minute f_avalanches a_run a_covers a_routes a_longest a_steep a_laid a_far f_sight a_runs f_choir f_voices u a_wins f_seed a_other a_kept H) (mA q)) args s 0 0 (mA q)) (F0 m 155 ls [.long y0]) := by
  have hx := zc.1
  have hb := zc.2.1
  refine lv_lstore_n (lv' := [(3, .long y0), (0, .ref q)]) hx hb dX11_findRest_155 rfl hl (by decide) rfl (fun ls hl => ?_)
  refine lv_iconst (v := (0 : Int32)) hx hb dX11_findRest_156 (by decide) ?_
  refine lv_istore (lv' := [(5, .int (0 : Int32)), (3, .long y0), (0, .ref q)]) hx hb dX11_findRest_157 hl (by decide) rfl (fun ls hl => ?_)
  exact t_m_findRest_159 zc hK hM hS  (lv_sub hl [2, 1, 0] rfl) hw
set_option maxRecDepth 20000 in
theorem t_m_findRest_130 {p : Program} {l : Launch} {e : Env} {s : State} {m : MethodId} {args : Array Value} {below : List Frame} {meth : Method} {c : Code} {E : zE} {q : Nat} {f_code : Int32} {a_tape : Nat → Int32} {a_size : Nat → Int32} {a_fault : Nat → Int32} {a_faultPlace : Nat → Int32} {a_many : Nat → Int32} {a_lands : Nat → Int32} {a_evenings : Nat → Int32} {a_sights : Nat → Int32} {a_choirs : Nat → Int32} {f_reached : Int32} {f_length : Int32} {f_begins : Int32} {f_sort : Int32} {f_value : Int32} {f_word : Int64} {f_wrongAt : Int32} {f_laterFault : Int32} {f_laterPlace : Int32} {a_told : Nat → Int32} {a_read : Nat → Int32} {f_farHut : Int32} {f_farSinger : Int32} {f_good : Int32} {f_land : Int32} {f_huts : Int32} {f_singers : Int32} {f_evening : Int32} {a_at : Nat → Int32} {a_knows : Nat → Int32} {a_climbed : Nat → Int32} {a_snow : Nat → Int32} {a_level : Nat → Int32} {f_begun : Int32} {f_minute : Int32} {f_avalanches : Int32} {a_run : Nat → Int32} {a_covers : Nat → Int32} {a_routes : Nat → Int32} {a_longest : Nat → Int32} {a_steep : Nat → Int32} {a_laid : Nat → Int32} {a_far : Nat → Int32} {f_sight : Int32} {a_runs : Nat → Int32} {f_choir : Int32} {f_voices : Int32} {a_rest : Nat → Int64} {a_wins : Nat → Int32} {f_seed : Int32} {a_other : Nat → Int32} {a_kept : Nat → Int32} {P11 : Int32 → (Nat → Int64) → Prop} {P18 : Int32 → (Nat → Int64) → Prop} {post : Int64 → (Nat → Int64) → Prop} {x1 : Int32} {x2 : Int32} {x3 : Int32} {x4 : Int32} {y0 : Int32} {y1 : Int64} {ls : Array Slot} {H : Heap} {locs : List Loc}
    (zc : zC p s m args meth c cX11_findRest 8 RX11 (some .long))
    (hK : zK E s)
    (hM : mW E q f_code a_tape a_size a_fault a_faultPlace a_many a_lands a_evenings a_sights a_choirs f_reached f_length f_begins f_sort f_value f_word f_wrongAt f_laterFault f_laterPlace a_told a_read f_farHut f_farSinger f_good f_land f_huts f_singers f_evening a_at a_knows a_climbed a_snow a_level f_begun f_minute f_avalanches a_run a_covers a_routes a_longest a_steep a_laid a_far f_sight a_runs f_choir f_voices a_rest a_wins f_seed a_other a_kept H)
    (hS : va_S (mA q) s.heap H locs)
    (hP11 : ∀ (x3 : Int32) (a_rest : Nat → Int64) (H : Heap) (locs : List Loc) (ls : Array Slot), P11 x3 a_rest → lv_has ls 8 [(0, .ref q), (1, .int x1), (2, .int x2), (3, .int x3)] → mW E q f_code a_tape a_size a_fault a_faultPlace a_many a_lands a_evenings a_sights a_choirs f_reached f_length f_begins f_sort f_value f_word f_wrongAt f_laterFault f_laterPlace a_told a_read f_farHut f_farSinger f_good f_land f_huts f_singers f_evening a_at a_knows a_climbed a_snow a_level f_begun f_minute f_avalanches a_run a_covers a_routes a_longest a_steep a_laid a_far f_sight a_runs f_choir f_voices a_rest a_wins f_seed a_other a_kept H → va_S (mA q) s.heap H locs → W p l e rm_m_findRest s m args below meth c H locs 0 0 (MQ below (zQl (S := (Nat → Int64)) (fun r u => post r u) (fun u H => mW E q f_code a_tape a_size a_fault a_faultPlace a_many a_lands a_evenings a_sights a_choirs f_reached f_length f_begins f_sort f_value f_word f_wrongAt f_laterFault f_laterPlace a_told a_read f_farHut f_farSinger f_good f_land f_huts f_singers f_evening a_at a_knows a_climbed a_snow a_level f_begun f_minute f_avalanches a_run a_covers a_routes a_longest a_steep a_laid a_far f_sight a_runs f_choir f_voices u a_wins f_seed a_other a_kept H) (mA q)) args s 0 0 (mA q)) (F0 m 11 ls []))
    (hP18 : ∀ (x4 : Int32) (a_rest : Nat → Int64) (H : Heap) (locs : List Loc) (ls : Array Slot), P18 x4 a_rest → lv_has ls 8 [(0, .ref q), (1, .int x1), (2, .int x2), (3, .int x3), (4, .int x4)] → mW E q f_code a_tape a_size a_fault a_faultPlace a_many a_lands a_evenings a_sights a_choirs f_reached f_length f_begins f_sort f_value f_word f_wrongAt f_laterFault f_laterPlace a_told a_read f_farHut f_farSinger f_good f_land f_huts f_singers f_evening a_at a_knows a_climbed a_snow a_level f_begun f_minute f_avalanches a_run a_covers a_routes a_longest a_steep a_laid a_far f_sight a_runs f_choir f_voices a_rest a_wins f_seed a_other a_kept H → va_S (mA q) s.heap H locs → W p l e rm_m_findRest s m args below meth c H locs 0 0 (MQ below (zQl (S := (Nat → Int64)) (fun r u => post r u) (fun u H => mW E q f_code a_tape a_size a_fault a_faultPlace a_many a_lands a_evenings a_sights a_choirs f_reached f_length f_begins f_sort f_value f_word f_wrongAt f_laterFault f_laterPlace a_told a_read f_farHut f_farSinger f_good f_land f_huts f_singers f_evening a_at a_knows a_climbed a_snow a_level f_begun f_minute f_avalanches a_run a_covers a_routes a_longest a_steep a_laid a_far f_sight a_runs f_choir f_voices u a_wins f_seed a_other a_kept H) (mA q)) args s 0 0 (mA q)) (F0 m 18 ls []))
    (hl : lv_has ls 8 [(0, .ref q), (1, .int x1), (2, .int x2), (3, .int x3), (4, .int x4)])
    (hw : q_m_findRest_130 P11 P18 a_choirs f_choir f_voices a_rest x1 x2 x3 x4 y0 y1 post) :
    W p l e rm_m_findRest s m args below meth c H locs 0 0 (MQ below (zQl (S := (Nat → Int64)) (fun r u => post r u) (fun u H => mW E q f_code a_tape a_size a_fault a_faultPlace a_many a_lands a_evenings a_sights a_choirs f_reached f_length f_begins f_sort f_value f_word f_wrongAt f_laterFault f_laterPlace a_told a_read f_farHut f_farSinger f_good f_land f_huts f_singers f_evening a_at a_knows a_climbed a_snow a_level f_begun f_minute f_avalanches a_run a_covers a_routes a_longest a_steep a_laid a_far f_sight a_runs f_choir f_voices u a_wins f_seed a_other a_kept H) (mA q)) args s 0 0 (mA q)) (F0 m 130 ls [.long y1, .int y0, .ref (q + 25)]) := by
  have hx := zc.1
  have hb := zc.2.1
  refine mst_25 zc hK hM hS hw.1 dX11_findRest_130 (fun a_rest_1 H locs ea_rest_1 hM hS => ?_)
  have hw := hw.2 a_rest_1 ea_rest_1
  obtain ⟨v_1, ev_1⟩ : ∃ y : Int32, y = x4 + (1 : Int32) := ⟨_, rfl⟩
  have hw := hw v_1 ev_1
  refine lv_iinc (v := v_1) (k := 4) (lv' := [(4, .int v_1), (0, .ref q), (1, .int x1), (2, .int x2), (3, .int x3)]) hx hb dX11_findRest_131 hl rfl (by rw [ev_1]; rfl) (by decide) rfl (fun ls hl => ?_)
  refine lv_goto (tgt := 18) hx hb dX11_findRest_134 (by decide) ?_
  exact hP18 _ _ _ _ _ hw (lv_sub hl [1, 2, 3, 4, 0] rfl) hM hS
set_option maxRecDepth 20000 in
theorem t_m_findRest_95 {p : Program} {l : Launch} {e : Env} {s : State} {m : MethodId} {args : Array Value} {below : List Frame} {meth : Method} {c : Code} {E : zE} {q : Nat} {f_code : Int32} {a_tape : Nat → Int32} {a_size : Nat → Int32} {a_fault : Nat → Int32} {a_faultPlace : Nat → Int32} {a_many : Nat → Int32} {a_lands : Nat → Int32} {a_evenings : Nat → Int32} {a_sights : Nat → Int32} {a_choirs : Nat → Int32} {f_reached : Int32} {f_length : Int32} {f_begins : Int32} {f_sort : Int32} {f_value : Int32} {f_word : Int64} {f_wrongAt : Int32} {f_laterFault : Int32} {f_laterPlace : Int32} {a_told : Nat → Int32} {a_read : Nat → Int32} {f_farHut : Int32} {f_farSinger : Int32} {f_good : Int32} {f_land : Int32} {f_huts : Int32} {f_singers : Int32} {f_evening : Int32} {a_at : Nat → Int32} {a_knows : Nat → Int32} {a_climbed : Nat → Int32} {a_snow : Nat → Int32} {a_level : Nat → Int32} {f_begun : Int32} {f_minute : Int32} {f_avalanches : Int32} {a_run : Nat → Int32} {a_covers : Nat → Int32} {a_routes : Nat → Int32} {a_longest : Nat → Int32} {a_steep : Nat → Int32} {a_laid : Nat → Int32} {a_far : Nat → Int32} {f_sight : Int32} {a_runs : Nat → Int32} {f_choir : Int32} {f_voices : Int32} {a_rest : Nat → Int64} {a_wins : Nat → Int32} {f_seed : Int32} {a_other : Nat → Int32} {a_kept : Nat → Int32} {P11 : Int32 → (Nat → Int64) → Prop} {P18 : Int32 → (Nat → Int64) → Prop} {P42 : Int64 → Int32 → Prop} {post : Int64 → (Nat → Int64) → Prop} {x1 : Int32} {x2 : Int32} {x3 : Int32} {x4 : Int32} {x7 : Int32} {y0 : Int64} {y1 : Int64} {ls : Array Slot} {H : Heap} {locs : List Loc}
    (zc : zC p s m args meth c cX11_findRest 8 RX11 (some .long))
    (hK : zK E s)
    (hM : mW E q f_code a_tape a_size a_fault a_faultPlace a_many a_lands a_evenings a_sights a_choirs f_reached f_length f_begins f_sort f_value f_word f_wrongAt f_laterFault f_laterPlace a_told a_read f_farHut f_farSinger f_good f_land f_huts f_singers f_evening a_at a_knows a_climbed a_snow a_level f_begun f_minute f_avalanches a_run a_covers a_routes a_longest a_steep a_laid a_far f_sight a_runs f_choir f_voices a_rest a_wins f_seed a_other a_kept H)
    (hS : va_S (mA q) s.heap H locs)
    (hP11 : ∀ (x3 : Int32) (a_rest : Nat → Int64) (H : Heap) (locs : List Loc) (ls : Array Slot), P11 x3 a_rest → lv_has ls 8 [(0, .ref q), (1, .int x1), (2, .int x2), (3, .int x3)] → mW E q f_code a_tape a_size a_fault a_faultPlace a_many a_lands a_evenings a_sights a_choirs f_reached f_length f_begins f_sort f_value f_word f_wrongAt f_laterFault f_laterPlace a_told a_read f_farHut f_farSinger f_good f_land f_huts f_singers f_evening a_at a_knows a_climbed a_snow a_level f_begun f_minute f_avalanches a_run a_covers a_routes a_longest a_steep a_laid a_far f_sight a_runs f_choir f_voices a_rest a_wins f_seed a_other a_kept H → va_S (mA q) s.heap H locs → W p l e rm_m_findRest s m args below meth c H locs 0 0 (MQ below (zQl (S := (Nat → Int64)) (fun r u => post r u) (fun u H => mW E q f_code a_tape a_size a_fault a_faultPlace a_many a_lands a_evenings a_sights a_choirs f_reached f_length f_begins f_sort f_value f_word f_wrongAt f_laterFault f_laterPlace a_told a_read f_farHut f_farSinger f_good f_land f_huts f_singers f_evening a_at a_knows a_climbed a_snow a_level f_begun f_minute f_avalanches a_run a_covers a_routes a_longest a_steep a_laid a_far f_sight a_runs f_choir f_voices u a_wins f_seed a_other a_kept H) (mA q)) args s 0 0 (mA q)) (F0 m 11 ls []))
    (hP18 : ∀ (x4 : Int32) (a_rest : Nat → Int64) (H : Heap) (locs : List Loc) (ls : Array Slot), P18 x4 a_rest → lv_has ls 8 [(0, .ref q), (1, .int x1), (2, .int x2), (3, .int x3), (4, .int x4)] → mW E q f_code a_tape a_size a_fault a_faultPlace a_many a_lands a_evenings a_sights a_choirs f_reached f_length f_begins f_sort f_value f_word f_wrongAt f_laterFault f_laterPlace a_told a_read f_farHut f_farSinger f_good f_land f_huts f_singers f_evening a_at a_knows a_climbed a_snow a_level f_begun f_minute f_avalanches a_run a_covers a_routes a_longest a_steep a_laid a_far f_sight a_runs f_choir f_voices a_rest a_wins f_seed a_other a_kept H → va_S (mA q) s.heap H locs → W p l e rm_m_findRest s m args below meth c H locs 0 0 (MQ below (zQl (S := (Nat → Int64)) (fun r u => post r u) (fun u H => mW E q f_code a_tape a_size a_fault a_faultPlace a_many a_lands a_evenings a_sights a_choirs f_reached f_length f_begins f_sort f_value f_word f_wrongAt f_laterFault f_laterPlace a_told a_read f_farHut f_farSinger f_good f_land f_huts f_singers f_evening a_at a_knows a_climbed a_snow a_level f_begun f_minute f_avalanches a_run a_covers a_routes a_longest a_steep a_laid a_far f_sight a_runs f_choir f_voices u a_wins f_seed a_other a_kept H) (mA q)) args s 0 0 (mA q)) (F0 m 18 ls []))
    (hP42 : ∀ (x5 : Int64) (x7 : Int32) (H : Heap) (locs : List Loc) (ls : Array Slot), P42 x5 x7 → lv_has ls 8 [(0, .ref q), (1, .int x1), (2, .int x2), (3, .int x3), (4, .int x4), (5, .long x5), (7, .int x7)] → mW E q f_code a_tape a_size a_fault a_faultPlace a_many a_lands a_evenings a_sights a_choirs f_reached f_length f_begins f_sort f_value f_word f_wrongAt f_laterFault f_laterPlace a_told a_read f_farHut f_farSinger f_good f_land f_huts f_singers f_evening a_at a_knows a_climbed a_snow a_level f_begun f_minute f_avalanches a_run a_covers a_routes a_longest a_steep a_laid a_far f_sight a_runs f_choir f_voices a_rest a_wins f_seed a_other a_kept H → va_S (mA q) s.heap H locs → W p l e rm_m_findRest s m args below meth c H locs 0 0 (MQ below (zQl (S := (Nat → Int64)) (fun r u => post r u) (fun u H => mW E q f_code a_tape a_size a_fault a_faultPlace a_many a_lands a_evenings a_sights a_choirs f_reached f_length f_begins f_sort f_value f_word f_wrongAt f_laterFault f_laterPlace a_told a_read f_farHut f_farSinger f_good f_land f_huts f_singers f_evening a_at a_knows a_climbed a_snow a_level f_begun f_minute f_avalanches a_run a_covers a_routes a_longest a_steep a_laid a_far f_sight a_runs f_choir f_voices u a_wins f_seed a_other a_kept H) (mA q)) args s 0 0 (mA q)) (F0 m 42 ls []))
    (hl : lv_has ls 8 [(0, .ref q), (1, .int x1), (2, .int x2), (3, .int x3), (4, .int x4), (7, .int x7)])
    (hw : q_m_findRest_95 P11 P18 P42 a_choirs f_choir f_voices a_rest x1 x2 x3 x4 x7 y0 y1 post) :
    W p l e rm_m_findRest s m args below meth c H locs 0 0 (MQ below (zQl (S := (Nat → Int64)) (fun r u => post r u) (fun u H => mW E q f_code a_tape a_size a_fault a_faultPlace a_many a_lands a_evenings a_sights a_choirs f_reached f_length f_begins f_sort f_value f_word f_wrongAt f_laterFault f_laterPlace a_told a_read f_farHut f_farSinger f_good f_land f_huts f_singers f_evening a_at a_knows a_climbed a_snow a_level f_begun f_minute f_avalanches a_run a_covers a_routes a_longest a_steep a_laid a_far f_sight a_runs f_choir f_voices u a_wins f_seed a_other a_kept H) (mA q)) args s 0 0 (mA q)) (F0 m 95 ls [.long y1, .long y0]) := by
  have hx := zc.1
  have hb := zc.2.1
  refine lv_ladd hx hb dX11_findRest_95 ?_
  refine lv_topl (fun v_1 ev_1 => ?_)
  have hw := hw v_1 ev_1
  refine lv_lstore (lv' := [(5, .long v_1), (0, .ref q), (1, .int x1), (2, .int x2), (3, .int x3), (4, .int x4), (7, .int x7)]) hx hb dX11_findRest_96 hl (by decide) rfl (fun ls hl => ?_)
  obtain ⟨v_2, ev_2⟩ : ∃ y : Int32, y = x7 + (1 : Int32) := ⟨_, rfl⟩
  have hw := hw v_2 ev_2
  refine lv_iinc (v := v_2) (k := 6) (lv' := [(7, .int v_2), (5, .long v_1), (0, .ref q), (1, .int x1), (2, .int x2), (3, .int x3), (4, .int x4)]) hx hb dX11_findRest_98 hl rfl (by rw [ev_2]; rfl) (by decide) rfl (fun ls hl => ?_)
  refine lv_goto (tgt := 42) hx hb dX11_findRest_101 (by decide) ?_
  exact hP42 _ _ _ _ _ hw (lv_sub hl [2, 3, 4, 5, 6, 1, 0] rfl) hM hS
set_option maxRecDepth 20000 in
theorem t_m_findRest_94 {p : Program} {l : Launch} {e : Env} {s : State} {m : MethodId} {args : Array Value} {below : List Frame} {meth : Method} {c : Code} {E : zE} {q : Nat} {f_code : Int32} {a_tape : Nat → Int32} {a_size : Nat → Int32} {a_fault : Nat → Int32} {a_faultPlace : Nat → Int32} {a_many : Nat → Int32} {a_lands : Nat → Int32} {a_evenings : Nat → Int32} {a_sights : Nat → Int32} {a_choirs : Nat → Int32} {f_reached : Int32} {f_length : Int32} {f_begins : Int32} {f_sort : Int32} {f_value : Int32} {f_word : Int64} {f_wrongAt : Int32} {f_laterFault : Int32} {f_laterPlace : Int32} {a_told : Nat → Int32} {a_read : Nat → Int32} {f_farHut : Int32} {f_farSinger : Int32} {f_good : Int32} {f_land : Int32} {f_huts : Int32} {f_singers : Int32} {f_evening : Int32} {a_at : Nat → Int32} {a_knows : Nat → Int32} {a_climbed : Nat → Int32} {a_snow : Nat → Int32} {a_level : Nat → Int32} {f_begun : Int32} {f_minute : Int32} {f_avalanches : Int32} {a_run : Nat → Int32} {a_covers : Nat → Int32} {a_routes : Nat → Int32} {a_longest : Nat → Int32} {a_steep : Nat → Int32} {a_laid : Nat → Int32} {a_far : Nat → Int32} {f_sight : Int32} {a_runs : Nat → Int32} {f_choir : Int32} {f_voices : Int32} {a_rest : Nat → Int64} {a_wins : Nat → Int32} {f_seed : Int32} {a_other : Nat → Int32} {a_kept : Nat → Int32} {P11 : Int32 → (Nat → Int64) → Prop} {P18 : Int32 → (Nat → Int64) → Prop} {P42 : Int64 → Int32 → Prop} {post : Int64 → (Nat → Int64) → Prop} {x1 : Int32} {x2 : Int32} {x3 : Int32} {x4 : Int32} {x7 : Int32} {y0 : Int64} {ls : Array Slot} {H : Heap} {locs : List Loc}
    (zc : zC p s m args meth c cX11_findRest 8 RX11 (some .long))
    (hK : zK E s)
    (hM : mW E q f_code a_tape a_size a_fault a_faultPlace a_many a_lands a_evenings a_sights a_choirs f_reached f_length f_begins f_sort f_value f_word f_wrongAt f_laterFault f_laterPlace a_told a_read f_farHut f_farSinger f_good f_land f_huts f_singers f_evening a_at a_knows a_climbed a_snow a_level f_begun f_minute f_avalanches a_run a_covers a_routes a_longest a_steep a_laid a_far f_sight a_runs f_choir f_voices a_rest a_wins f_seed a_other a_kept H)
    (hS : va_S (mA q) s.heap H locs)
    (hP11 : ∀ (x3 : Int32) (a_rest : Nat → Int64) (H : Heap) (locs : List Loc) (ls : Array Slot), P11 x3 a_rest → lv_has ls 8 [(0, .ref q), (1, .int x1), (2, .int x2), (3, .int x3)] → mW E q f_code a_tape a_size a_fault a_faultPlace a_many a_lands a_evenings a_sights a_choirs f_reached f_length f_begins f_sort f_value f_word f_wrongAt f_laterFault f_laterPlace a_told a_read f_farHut f_farSinger f_good f_land f_huts f_singers f_evening a_at a_knows a_climbed a_snow a_level f_begun f_minute f_avalanches a_run a_covers a_routes a_longest a_steep a_laid a_far f_sight a_runs f_choir f_voices a_rest a_wins f_seed a_other a_kept H → va_S (mA q) s.heap H locs → W p l e rm_m_findRest s m args below meth c H locs 0 0 (MQ below (zQl (S := (Nat → Int64)) (fun r u => post r u) (fun u H => mW E q f_code a_tape a_size a_fault a_faultPlace a_many a_lands a_evenings a_sights a_choirs f_reached f_length f_begins f_sort f_value f_word f_wrongAt f_laterFault f_laterPlace a_told a_read f_farHut f_farSinger f_good f_land f_huts f_singers f_evening a_at a_knows a_climbed a_snow a_level f_begun f_minute f_avalanches a_run a_covers a_routes a_longest a_steep a_laid a_far f_sight a_runs f_choir f_voices u a_wins f_seed a_other a_kept H) (mA q)) args s 0 0 (mA q)) (F0 m 11 ls []))
    (hP18 : ∀ (x4 : Int32) (a_rest : Nat → Int64) (H : Heap) (locs : List Loc) (ls : Array Slot), P18 x4 a_rest → lv_has ls 8 [(0, .ref q), (1, .int x1), (2, .int x2), (3, .int x3), (4, .int x4)] → mW E q f_code a_tape a_size a_fault a_faultPlace a_many a_lands a_evenings a_sights a_choirs f_reached f_length f_begins f_sort f_value f_word f_wrongAt f_laterFault f_laterPlace a_told a_read f_farHut f_farSinger f_good f_land f_huts f_singers f_evening a_at a_knows a_climbed a_snow a_level f_begun f_minute f_avalanches a_run a_covers a_routes a_longest a_steep a_laid a_far f_sight a_runs f_choir f_voices a_rest a_wins f_seed a_other a_kept H → va_S (mA q) s.heap H locs → W p l e rm_m_findRest s m args below meth c H locs 0 0 (MQ below (zQl (S := (Nat → Int64)) (fun r u => post r u) (fun u H => mW E q f_code a_tape a_size a_fault a_faultPlace a_many a_lands a_evenings a_sights a_choirs f_reached f_length f_begins f_sort f_value f_word f_wrongAt f_laterFault f_laterPlace a_told a_read f_farHut f_farSinger f_good f_land f_huts f_singers f_evening a_at a_knows a_climbed a_snow a_level f_begun f_minute f_avalanches a_run a_covers a_routes a_longest a_steep a_laid a_far f_sight a_runs f_choir f_voices u a_wins f_seed a_other a_kept H) (mA q)) args s 0 0 (mA q)) (F0 m 18 ls []))
    (hP42 : ∀ (x5 : Int64) (x7 : Int32) (H : Heap) (locs : List Loc) (ls : Array Slot), P42 x5 x7 → lv_has ls 8 [(0, .ref q), (1, .int x1), (2, .int x2), (3, .int x3), (4, .int x4), (5, .long x5), (7, .int x7)] → mW E q f_code a_tape a_size a_fault a_faultPlace a_many a_lands a_evenings a_sights a_choirs f_reached f_length f_begins f_sort f_value f_word f_wrongAt f_laterFault f_laterPlace a_told a_read f_farHut f_farSinger f_good f_land f_huts f_singers f_evening a_at a_knows a_climbed a_snow a_level f_begun f_minute f_avalanches a_run a_covers a_routes a_longest a_steep a_laid a_far f_sight a_runs f_choir f_voices a_rest a_wins f_seed a_other a_kept H → va_S (mA q) s.heap H locs → W p l e rm_m_findRest s m args below meth c H locs 0 0 (MQ below (zQl (S := (Nat → Int64)) (fun r u => post r u) (fun u H => mW E q f_code a_tape a_size a_fault a_faultPlace a_many a_lands a_evenings a_sights a_choirs f_reached f_length f_begins f_sort f_value f_word f_wrongAt f_laterFault f_laterPlace a_told a_read f_farHut f_farSinger f_good f_land f_huts f_singers f_evening a_at a_knows a_climbed a_snow a_level f_begun f_minute f_avalanches a_run a_covers a_routes a_longest a_steep a_laid a_far f_sight a_runs f_choir f_voices u a_wins f_seed a_other a_kept H) (mA q)) args s 0 0 (mA q)) (F0 m 42 ls []))
    (hl : lv_has ls 8 [(0, .ref q), (1, .int x1), (2, .int x2), (3, .int x3), (4, .int x4), (7, .int x7)])
    (hw : q_m_findRest_94 P11 P18 P42 a_choirs f_choir f_voices a_rest x1 x2 x3 x4 x7 y0 post) :
    W p l e rm_m_findRest s m args below meth c H locs 0 0 (MQ below (zQl (S := (Nat → Int64)) (fun r u => post r u) (fun u H => mW E q f_code a_tape a_size a_fault a_faultPlace a_many a_lands a_evenings a_sights a_choirs f_reached f_length f_begins f_sort f_value f_word f_wrongAt f_laterFault f_laterPlace a_told a_read f_farHut f_farSinger f_good f_land f_huts f_singers f_evening a_at a_knows a_climbed a_snow a_level f_begun f_minute f_avalanches a_run a_covers a_routes a_longest a_steep a_laid a_far f_sight a_runs f_choir f_voices u a_wins f_seed a_other a_kept H) (mA q)) args s 0 0 (mA q)) (F0 m 94 ls [.long y0]) := by
  have hx := zc.1
  have hb := zc.2.1
  refine lv_lconst (v := (0 : Int64)) hx hb dX11_findRest_94 (by decide) ?_
  exact t_m_findRest_95 zc hK hM hS hP11 hP18 hP42 (lv_sub hl [0, 1, 2, 3, 4, 5] rfl) hw
set_option maxRecDepth 20000 in
theorem t_m_findRest_42 {p : Program} {l : Launch} {e : Env} {s : State} {m : MethodId} {args : Array Value} {below : List Frame} {meth : Method} {c : Code} {E : zE} {q : Nat} {f_code : Int32} {a_tape : Nat → Int32} {a_size : Nat → Int32} {a_fault : Nat → Int32} {a_faultPlace : Nat → Int32} {a_many : Nat → Int32} {a_lands : Nat → Int32} {a_evenings : Nat → Int32} {a_sights : Nat → Int32} {a_choirs : Nat → Int32} {f_reached : Int32} {f_length : Int32} {f_begins : Int32} {f_sort : Int32} {f_value : Int32} {f_word : Int64} {f_wrongAt : Int32} {f_laterFault : Int32} {f_laterPlace : Int32} {a_told : Nat → Int32} {a_read : Nat → Int32} {f_farHut : Int32} {f_farSinger : Int32} {f_good : Int32} {f_land : Int32} {f_huts : Int32} {f_singers : Int32} {f_evening : Int32} {a_at : Nat → Int32} {a_knows : Nat → Int32} {a_climbed : Nat → Int32} {a_snow : Nat → Int32} {a_level : Nat → Int32} {f_begun : Int32} {f_minute : Int32} {f_avalanches : Int32} {a_run : Nat → Int32} {a_covers : Nat → Int32} {a_routes : Nat → Int32} {a_longest : Nat → Int32} {a_steep : Nat → Int32} {a_laid : Nat → Int32} {a_far : Nat → Int32} {f_sight : Int32} {a_runs : Nat → Int32} {f_choir : Int32} {f_voices : Int32} {a_rest : Nat → Int64} {a_wins : Nat → Int32} {f_seed : Int32} {a_other : Nat → Int32} {a_kept : Nat → Int32} {P11 : Int32 → (Nat → Int64) → Prop} {P18 : Int32 → (Nat → Int64) → Prop} {post : Int64 → (Nat → Int64) → Prop} {x1 : Int32} {x2 : Int32} {x3 : Int32} {x4 : Int32} {x5 : Int64} {x7 : Int32} {ls : Array Slot} {H : Heap} {locs : List Loc}
    (zc : zC p s m args meth c cX11_findRest 8 RX11 (some .long))
    (hK : zK E s)
    (hM : mW E q f_code a_tape a_size a_fault a_faultPlace a_many a_lands a_evenings a_sights a_choirs f_reached f_length f_begins f_sort f_value f_word f_wrongAt f_laterFault f_laterPlace a_told a_read f_farHut f_farSinger f_good f_land f_huts f_singers f_evening a_at a_knows a_climbed a_snow a_level f_begun f_minute f_avalanches a_run a_covers a_routes a_longest a_steep a_laid a_far f_sight a_runs f_choir f_voices a_rest a_wins f_seed a_other a_kept H)
    (hS : va_S (mA q) s.heap H locs)
    (hP11 : ∀ (x3 : Int32) (a_rest : Nat → Int64) (H : Heap) (locs : List Loc) (ls : Array Slot), P11 x3 a_rest → lv_has ls 8 [(0, .ref q), (1, .int x1), (2, .int x2), (3, .int x3)] → mW E q f_code a_tape a_size a_fault a_faultPlace a_many a_lands a_evenings a_sights a_choirs f_reached f_length f_begins f_sort f_value f_word f_wrongAt f_laterFault f_laterPlace a_told a_read f_farHut f_farSinger f_good f_land f_huts f_singers f_evening a_at a_knows a_climbed a_snow a_level f_begun f_minute f_avalanches a_run a_covers a_routes a_longest a_steep a_laid a_far f_sight a_runs f_choir f_voices a_rest a_wins f_seed a_other a_kept H → va_S (mA q) s.heap H locs → W p l e rm_m_findRest s m args below meth c H locs 0 0 (MQ below (zQl (S := (Nat → Int64)) (fun r u => post r u) (fun u H => mW E q f_code a_tape a_size a_fault a_faultPlace a_many a_lands a_evenings a_sights a_choirs f_reached f_length f_begins f_sort f_value f_word f_wrongAt f_laterFault f_laterPlace a_told a_read f_farHut f_farSinger f_good f_land f_huts f_singers f_evening a_at a_knows a_climbed a_snow a_level f_begun f_minute f_avalanches a_run a_covers a_routes a_longest a_steep a_laid a_far f_sight a_runs f_choir f_voices u a_wins f_seed a_other a_kept H) (mA q)) args s 0 0 (mA q)) (F0 m 11 ls []))
    (hP18 : ∀ (x4 : Int32) (a_rest : Nat → Int64) (H : Heap) (locs : List Loc) (ls : Array Slot), P18 x4 a_rest → lv_has ls 8 [(0, .ref q), (1, .int x1), (2, .int x2), (3, .int x3), (4, .int x4)] → mW E q f_code a_tape a_size a_fault a_faultPlace a_many a_lands a_evenings a_sights a_choirs f_reached f_length f_begins f_sort f_value f_word f_wrongAt f_laterFault f_laterPlace a_told a_read f_farHut f_farSinger f_good f_land f_huts f_singers f_evening a_at a_knows a_climbed a_snow a_level f_begun f_minute f_avalanches a_run a_covers a_routes a_longest a_steep a_laid a_far f_sight a_runs f_choir f_voices a_rest a_wins f_seed a_other a_kept H → va_S (mA q) s.heap H locs → W p l e rm_m_findRest s m args below meth c H locs 0 0 (MQ below (zQl (S := (Nat → Int64)) (fun r u => post r u) (fun u H => mW E q f_code a_tape a_size a_fault a_faultPlace a_many a_lands a_evenings a_sights a_choirs f_reached f_length f_begins f_sort f_value f_word f_wrongAt f_laterFault f_laterPlace a_told a_read f_farHut f_farSinger f_good f_land f_huts f_singers f_evening a_at a_knows a_climbed a_snow a_level f_begun f_minute f_avalanches a_run a_covers a_routes a_longest a_steep a_laid a_far f_sight a_runs f_choir f_voices u a_wins f_seed a_other a_kept H) (mA q)) args s 0 0 (mA q)) (F0 m 18 ls []))
    (hl : lv_has ls 8 [(0, .ref q), (1, .int x1), (2, .int x2), (3, .int x3), (4, .int x4), (5, .long x5), (7, .int x7)])
    (hw : q_m_findRest_42 P11 P18 a_choirs f_choir f_voices a_rest x1 x2 x3 x4 x5 x7 post) :
    W p l e rm_m_findRest s m args below meth c H locs 0 0 (MQ below (zQl (S := (Nat → Int64)) (fun r u => post r u) (fun u H => mW E q f_code a_tape a_size a_fault a_faultPlace a_many a_lands a_evenings a_sights a_choirs f_reached f_length f_begins f_sort f_value f_word f_wrongAt f_laterFault f_laterPlace a_told a_read f_farHut f_farSinger f_good f_land f_huts f_singers f_evening a_at a_knows a_climbed a_snow a_level f_begun f_minute f_avalanches a_run a_covers a_routes a_longest a_steep a_laid a_far f_sight a_runs f_choir f_voices u a_wins f_seed a_other a_kept H) (mA q)) args s 0 0 (mA q)) (F0 m 42 ls []) := by
  have hx := zc.1
  have hb := zc.2.1
  refine hw (fun x5 x7 => ∀ (H : Heap) (locs : List Loc) (ls : Array Slot), lv_has ls 8 [(0, .ref q), (1, .int x1), (2, .int x2), (3, .int x3), (4, .int x4), (5, .long x5), (7, .int x7)] → mW E q f_code a_tape a_size a_fault a_faultPlace a_many a_lands a_evenings a_sights a_choirs f_reached f_length f_begins f_sort f_value f_word f_wrongAt f_laterFault f_laterPlace a_told a_read f_farHut f_farSinger f_good f_land f_huts f_singers f_evening a_at a_knows a_climbed a_snow a_level f_begun f_minute f_avalanches a_run a_covers a_routes a_longest a_steep a_laid a_far f_sight a_runs f_choir f_voices a_rest a_wins f_seed a_other a_kept H → va_S (mA q) s.heap H locs → W p l e rm_m_findRest s m args below meth c H locs 0 0 (MQ below (zQl (S := (Nat → Int64)) (fun r u => post r u) (fun u H => mW E q f_code a_tape a_size a_fault a_faultPlace a_many a_lands a_evenings a_sights a_choirs f_reached f_length f_begins f_sort f_value f_word f_wrongAt f_laterFault f_laterPlace a_told a_read f_farHut f_farSinger f_good f_land f_huts f_singers f_evening a_at a_knows a_climbed a_snow a_level f_begun f_minute f_avalanches a_run a_covers a_routes a_longest a_steep a_laid a_far f_sight a_runs f_choir f_voices u a_wins f_seed a_other a_kept H) (mA q)) args s 0 0 (mA q)) (F0 m 42 ls [])) ?_ _ _ _ hl hM hS
  intro x5 x7 hw H locs ls hl hM hS
  refine lv_iload hx hb dX11_findRest_42 (lv_at hl 6 rfl) ?_
  refine lv_aload_n hx hb dX11_findRest_44 rfl (lv_at hl 0 rfl) ?_
  refine mg_11_478_0 zc hK hM dX11_findRest_45 ?_
  refine lv_icmp_ge (tgt := 104) hx hb dX11_findRest_48 (by decide) (fun hc => ?_) (fun hc => ?_)
  · have hw := hw.1 hc
    refine lv_aload_n hx hb dX11_findRest_104 rfl (lv_at hl 0 rfl) ?_
    refine mg_11_84_0 zc hK hM dX11_findRest_105 ?_
    refine lv_bipush (v := (9 : Int32)) hx hb dX11_findRest_108 (by decide) ?_
    refine lv_iload_n hx hb dX11_findRest_110 rfl (lv_at hl 3 rfl) ?_
    refine lv_imul hx hb dX11_findRest_111 ?_
    refine lv_iload hx hb dX11_findRest_112 (lv_at hl 4 rfl) ?_
    refine lv_iadd hx hb dX11_findRest_114 ?_
    refine lv_iload_n hx hb dX11_findRest_115 rfl (lv_at hl 3 rfl) ?_
    refine lv_iload hx hb dX11_findRest_116 (lv_at hl 4 rfl) ?_
    refine zS_i [.int x3, .int x4] [.int (((9 : Int32) * x3) + x4), .ref (q + 25)] zc ky_X11_has kz_X11_has km_11_101 (c_m_has l hw) (zPre0 _) rfl rfl hl.1 (Nat.le_of_ble_eq_true rfl) ⟨rfl, rfl⟩ ⟨Nat.le_of_ble_eq_true rfl, Nat.le_of_ble_eq_true rfl⟩ ⟨(Nat.zero_le _), (Nat.zero_le _)⟩ dX11_findRest_118 (fun r_1 hw => ?_)
    refine lv_if_eq (tgt := 129) hx hb dX11_findRest_121 (by decide) (fun hc => ?_) (fun hc => ?_)
    · have hw := hw.1 hc
      refine lv_lconst (v := (0 : Int64)) hx hb dX11_findRest_129 (by decide) ?_
      exact t_m_findRest_130 zc hK hM hS hP11 hP18 (lv_sub hl [0, 1, 2, 3, 4] rfl) hw
    · have hw := hw.2 hc
      refine lv_lload hx hb dX11_findRest_124 (lv_at hl 5 rfl) ?_
      refine lv_goto (tgt := 130) hx hb dX11_findRest_126 (by decide) ?_
      exact t_m_findRest_130 zc hK hM hS hP11 hP18 (lv_sub hl [0, 1, 2, 3, 4] rfl) hw
  · have hw := hw.2 hc
    refine lv_lload hx hb dX11_findRest_51 (lv_at hl 5 rfl) ?_
    refine lv_iload_n hx hb dX11_findRest_53 rfl (lv_at hl 3 rfl) ?_
    refine lv_iload hx hb dX11_findRest_54 (lv_at hl 6 rfl) ?_
    refine zS_i [.int x3, .int x7] [.long x5] zc ky_X11_has kz_X11_has km_11_101 (c_m_has l hw) (zPre0 _) rfl rfl hl.1 (Nat.le_of_ble_eq_true rfl) ⟨rfl, rfl⟩ ⟨Nat.le_of_ble_eq_true rfl, Nat.le_of_ble_eq_true rfl⟩ ⟨(Nat.zero_le _), (Nat.zero_le _)⟩ dX11_findRest_56 (fun r_2 hw => ?_)
    refine lv_if_ne (tgt := 94) hx hb dX11_findRest_59 (by decide) (fun hc => ?_) (fun hc => ?_)
    · have hw := hw.1 hc
      exact t_m_findRest_94 zc hK hM hS hP11 hP18 (fun _ _ H locs ls h hl hM hS => h H locs ls hl hM hS) (lv_sub hl [0, 1, 2, 3, 4, 6] rfl) hw
    · have hw := hw.2 hc
      refine lv_aload_n hx hb dX11_findRest_62 rfl (lv_at hl 0 rfl) ?_
      refine lv_iload hx hb dX11_findRest_63 (lv_at hl 4 rfl) ?_
      refine lv_iload hx hb dX11_findRest_65 (lv_at hl 6 rfl) ?_
      refine lv_iload_n hx hb dX11_findRest_67 rfl (lv_at hl 1 rfl) ?_
      refine zV_i [.int x4, .int x7, .int x1] [.long x5] zc ky_X11_follows kz_X11_follows km_11_484 (c_m_follows l hw) (mPreV0 hK hM) rfl rfl hl.1 (Nat.le_of_ble_eq_true rfl) ⟨rfl, rfl⟩ ⟨Nat.le_of_ble_eq_true rfl, Nat.le_of_ble_eq_true rfl⟩ ⟨(Nat.zero_le _), (Nat.zero_le _)⟩ dX11_findRest_68 (fun r_3 hw => ?_)
      refine lv_if_eq (tgt := 94) hx hb dX11_findRest_71 (by decide) (fun hc => ?_) (fun hc => ?_)
      · have hw := hw.1 hc
        exact t_m_findRest_94 zc hK hM hS hP11 hP18 (fun _ _ H locs ls h hl hM hS => h H locs ls hl hM hS) (lv_sub hl [0, 1, 2, 3, 4, 6] rfl) hw
      · have hw := hw.2 hc
        refine lv_aload_n hx hb dX11_findRest_74 rfl (lv_at hl 0 rfl) ?_
        refine mg_11_84_0 zc hK hM dX11_findRest_75 ?_
        refine lv_bipush (v := (9 : Int32)) hx hb dX11_findRest_78 (by decide) ?_
        refine lv_iload_n hx hb dX11_findRest_80 rfl (lv_at hl 3 rfl) ?_
        refine lv_iconst (v := (1 : Int32)) hx hb dX11_findRest_81 (by decide) ?_
        refine lv_iload hx hb dX11_findRest_82 (lv_at hl 6 rfl) ?_
        refine lv_ishl hx hb dX11_findRest_84 ?_
        refine lv_ior hx hb dX11_findRest_85 ?_
        refine lv_imul hx hb dX11_findRest_86 ?_
        refine lv_iload hx hb dX11_findRest_87 (lv_at hl 6 rfl) ?_
        refine lv_iadd hx hb dX11_findRest_89 ?_
        refine mld_25 zc hK hM hw.1 dX11_findRest_90 ?_
        have hw := hw.2
        refine lv_goto (tgt := 95) hx hb dX11_findRest_91 (by decide) ?_
        exact t_m_findRest_95 zc hK hM hS hP11 hP18 (fun _ _ H locs ls h hl hM hS => h H locs ls hl hM hS) (lv_sub hl [0, 1, 2, 3, 4, 6] rfl) hw
set_option maxRecDepth 20000 in
theorem t_m_findRest_37 {p : Program} {l : Launch} {e : Env} {s : State} {m : MethodId} {args : Array Value} {below : List Frame} {meth : Method} {c : Code} {E : zE} {q : Nat} {f_code : Int32} {a_tape : Nat → Int32} {a_size : Nat → Int32} {a_fault : Nat → Int32} {a_faultPlace : Nat → Int32} {a_many : Nat → Int32} {a_lands : Nat → Int32} {a_evenings : Nat → Int32} {a_sights : Nat → Int32} {a_choirs : Nat → Int32} {f_reached : Int32} {f_length : Int32} {f_begins : Int32} {f_sort : Int32} {f_value : Int32} {f_word : Int64} {f_wrongAt : Int32} {f_laterFault : Int32} {f_laterPlace : Int32} {a_told : Nat → Int32} {a_read : Nat → Int32} {f_farHut : Int32} {f_farSinger : Int32} {f_good : Int32} {f_land : Int32} {f_huts : Int32} {f_singers : Int32} {f_evening : Int32} {a_at : Nat → Int32} {a_knows : Nat → Int32} {a_climbed : Nat → Int32} {a_snow : Nat → Int32} {a_level : Nat → Int32} {f_begun : Int32} {f_minute : Int32} {f_avalanches : Int32} {a_run : Nat → Int32} {a_covers : Nat → Int32} {a_routes : Nat → Int32} {a_longest : Nat → Int32} {a_steep : Nat → Int32} {a_laid : Nat → Int32} {a_far : Nat → Int32} {f_sight : Int32} {a_runs : Nat → Int32} {f_choir : Int32} {f_voices : Int32} {a_rest : Nat → Int64} {a_wins : Nat → Int32} {f_seed : Int32} {a_other : Nat → Int32} {a_kept : Nat → Int32} {P11 : Int32 → (Nat → Int64) → Prop} {P18 : Int32 → (Nat → Int64) → Prop} {post : Int64 → (Nat → Int64) → Prop} {x1 : Int32} {x2 : Int32} {x3 : Int32} {x4 : Int32} {y0 : Int64} {ls : Array Slot} {H : Heap} {locs : List Loc}
    (zc : zC p s m args meth c cX11_findRest 8 RX11 (some .long))
    (hK : zK E s)
    (hM : mW E q f_code a_tape a_size a_fault a_faultPlace a_many a_lands a_evenings a_sights a_choirs f_reached f_length f_begins f_sort f_value f_word f_wrongAt f_laterFault f_laterPlace a_told a_read f_farHut f_farSinger f_good f_land f_huts f_singers f_evening a_at a_knows a_climbed a_snow a_level f_begun f_minute f_avalanches a_run a_covers a_routes a_longest a_steep a_laid a_far f_sight a_runs f_choir f_voices a_rest a_wins f_seed a_other a_kept H)
    (hS : va_S (mA q) s.heap H locs)
    (hP11 : ∀ (x3 : Int32) (a_rest : Nat → Int64) (H : Heap) (locs : List Loc) (ls : Array Slot), P11 x3 a_rest → lv_has ls 8 [(0, .ref q), (1, .int x1), (2, .int x2), (3, .int x3)] → mW E q f_code a_tape a_size a_fault a_faultPlace a_many a_lands a_evenings a_sights a_choirs f_reached f_length f_begins f_sort f_value f_word f_wrongAt f_laterFault f_laterPlace a_told a_read f_farHut f_farSinger f_good f_land f_huts f_singers f_evening a_at a_knows a_climbed a_snow a_level f_begun f_minute f_avalanches a_run a_covers a_routes a_longest a_steep a_laid a_far f_sight a_runs f_choir f_voices a_rest a_wins f_seed a_other a_kept H → va_S (mA q) s.heap H locs → W p l e rm_m_findRest s m args below meth c H locs 0 0 (MQ below (zQl (S := (Nat → Int64)) (fun r u => post r u) (fun u H => mW E q f_code a_tape a_size a_fault a_faultPlace a_many a_lands a_evenings a_sights a_choirs f_reached f_length f_begins f_sort f_value f_word f_wrongAt f_laterFault f_laterPlace a_told a_read f_farHut f_farSinger f_good f_land f_huts f_singers f_evening a_at a_knows a_climbed a_snow a_level f_begun f_minute f_avalanches a_run a_covers a_routes a_longest a_steep a_laid a_far f_sight a_runs f_choir f_voices u a_wins f_seed a_other a_kept H) (mA q)) args s 0 0 (mA q)) (F0 m 11 ls []))
    (hP18 : ∀ (x4 : Int32) (a_rest : Nat → Int64) (H : Heap) (locs : List Loc) (ls : Array Slot), P18 x4 a_rest → lv_has ls 8 [(0, .ref q), (1, .int x1), (2, .int x2), (3, .int x3), (4, .int x4)] → mW E q f_code a_tape a_size a_fault a_faultPlace a_many a_lands a_evenings a_sights a_choirs f_reached f_length f_begins f_sort f_value f_word f_wrongAt f_laterFault f_laterPlace a_told a_read f_farHut f_farSinger f_good f_land f_huts f_singers f_evening a_at a_knows a_climbed a_snow a_level f_begun f_minute f_avalanches a_run a_covers a_routes a_longest a_steep a_laid a_far f_sight a_runs f_choir f_voices a_rest a_wins f_seed a_other a_kept H → va_S (mA q) s.heap H locs → W p l e rm_m_findRest s m args below meth c H locs 0 0 (MQ below (zQl (S := (Nat → Int64)) (fun r u => post r u) (fun u H => mW E q f_code a_tape a_size a_fault a_faultPlace a_many a_lands a_evenings a_sights a_choirs f_reached f_length f_begins f_sort f_value f_word f_wrongAt f_laterFault f_laterPlace a_told a_read f_farHut f_farSinger f_good f_land f_huts f_singers f_evening a_at a_knows a_climbed a_snow a_level f_begun f_minute f_avalanches a_run a_covers a_routes a_longest a_steep a_laid a_far f_sight a_runs f_choir f_voices u a_wins f_seed a_other a_kept H) (mA q)) args s 0 0 (mA q)) (F0 m 18 ls []))
    (hl : lv_has ls 8 [(0, .ref q), (1, .int x1), (2, .int x2), (3, .int x3), (4, .int x4)])
    (hw : q_m_findRest_37 P11 P18 a_choirs f_choir f_voices a_rest x1 x2 x3 x4 y0 post) :
    W p l e rm_m_findRest s m args below meth c H locs 0 0 (MQ below (zQl (S := (Nat → Int64)) (fun r u => post r u) (fun u H => mW E q f_code a_tape a_size a_fault a_faultPlace a_many a_lands a_evenings a_sights a_choirs f_reached f_length f_begins f_sort f_value f_word f_wrongAt f_laterFault f_laterPlace a_told a_read f_farHut f_farSinger f_good f_land f_huts f_singers f_evening a_at a_knows a_climbed a_snow a_level f_begun f_minute f_avalanches a_run a_covers a_routes a_longest a_steep a_laid a_far f_sight a_runs f_choir f_voices u a_wins f_seed a_other a_kept H) (mA q)) args s 0 0 (mA q)) (F0 m 37 ls [.long y0]) := by
  have hx := zc.1
  have hb := zc.2.1
  refine lv_lstore (lv' := [(5, .long y0), (0, .ref q), (1, .int x1), (2, .int x2), (3, .int x3), (4, .int x4)]) hx hb dX11_findRest_37 hl (by decide) rfl (fun ls hl => ?_)
  refine lv_iconst (v := (0 : Int32)) hx hb dX11_findRest_39 (by decide) ?_
  refine lv_istore (lv' := [(7, .int (0 : Int32)), (5, .long y0), (0, .ref q), (1, .int x1), (2, .int x2), (3, .int x3), (4, .int x4)]) hx hb dX11_findRest_40 hl (by decide) rfl (fun ls hl => ?_)
  exact t_m_findRest_42 zc hK hM hS hP11 hP18 (lv_sub hl [2, 3, 4, 5, 6, 1, 0] rfl) hw
set_option maxRecDepth 20000 in
theorem t_m_findRest_18 {p : Program} {l : Launch} {e : Env} {s : State} {m : MethodId} {args : Array Value} {below : List Frame} {meth : Method} {c : Code} {E : zE} {q : Nat} {f_code : Int32} {a_tape : Nat → Int32} {a_size : Nat → Int32} {a_fault : Nat → Int32} {a_faultPlace : Nat → Int32} {a_many : Nat → Int32} {a_lands : Nat → Int32} {a_evenings : Nat → Int32} {a_sights : Nat → Int32} {a_choirs : Nat → Int32} {f_reached : Int32} {f_length : Int32} {f_begins : Int32} {f_sort : Int32} {f_value : Int32} {f_word : Int64} {f_wrongAt : Int32} {f_laterFault : Int32} {f_laterPlace : Int32} {a_told : Nat → Int32} {a_read : Nat → Int32} {f_farHut : Int32} {f_farSinger : Int32} {f_good : Int32} {f_land : Int32} {f_huts : Int32} {f_singers : Int32} {f_evening : Int32} {a_at : Nat → Int32} {a_knows : Nat → Int32} {a_climbed : Nat → Int32} {a_snow : Nat → Int32} {a_level : Nat → Int32} {f_begun : Int32} {f_minute : Int32} {f_avalanches : Int32} {a_run : Nat → Int32} {a_covers : Nat → Int32} {a_routes : Nat → Int32} {a_longest : Nat → Int32} {a_steep : Nat → Int32} {a_laid : Nat → Int32} {a_far : Nat → Int32} {f_sight : Int32} {a_runs : Nat → Int32} {f_choir : Int32} {f_voices : Int32} {a_rest : Nat → Int64} {a_wins : Nat → Int32} {f_seed : Int32} {a_other : Nat → Int32} {a_kept : Nat → Int32} {P11 : Int32 → (Nat → Int64) → Prop} {post : Int64 → (Nat → Int64) → Prop} {x1 : Int32} {x2 : Int32} {x3 : Int32} {x4 : Int32} {ls : Array Slot} {H : Heap} {locs : List Loc}
    (zc : zC p s m args meth c cX11_findRest 8 RX11 (some .long))
    (hK : zK E s)
    (hM : mW E q f_code a_tape a_size a_fault a_faultPlace a_many a_lands a_evenings a_sights a_choirs f_reached f_length f_begins f_sort f_value f_word f_wrongAt f_laterFault f_laterPlace a_told a_read f_farHut f_farSinger f_good f_land f_huts f_singers f_evening a_at a_knows a_climbed a_snow a_level f_begun f_minute f_avalanches a_run a_covers a_routes a_longest a_steep a_laid a_far f_sight a_runs f_choir f_voices a_rest a_wins f_seed a_other a_kept H)
    (hS : va_S (mA q) s.heap H locs)
    (hP11 : ∀ (x3 : Int32) (a_rest : Nat → Int64) (H : Heap) (locs : List Loc) (ls : Array Slot), P11 x3 a_rest → lv_has ls 8 [(0, .ref q), (1, .int x1), (2, .int x2), (3, .int x3)] → mW E q f_code a_tape a_size a_fault a_faultPlace a_many a_lands a_evenings a_sights a_choirs f_reached f_length f_begins f_sort f_value f_word f_wrongAt f_laterFault f_laterPlace a_told a_read f_farHut f_farSinger f_good f_land f_huts f_singers f_evening a_at a_knows a_climbed a_snow a_level f_begun f_minute f_avalanches a_run a_covers a_routes a_longest a_steep a_laid a_far f_sight a_runs f_choir f_voices a_rest a_wins f_seed a_other a_kept H → va_S (mA q) s.heap H locs → W p l e rm_m_findRest s m args below meth c H locs 0 0 (MQ below (zQl (S := (Nat → Int64)) (fun r u => post r u) (fun u H => mW E q f_code a_tape a_size a_fault a_faultPlace a_many a_lands a_evenings a_sights a_choirs f_reached f_length f_begins f_sort f_value f_word f_wrongAt f_laterFault f_laterPlace a_told a_read f_farHut f_farSinger f_good f_land f_huts f_singers f_evening a_at a_knows a_climbed a_snow a_level f_begun f_minute f_avalanches a_run a_covers a_routes a_longest a_steep a_laid a_far f_sight a_runs f_choir f_voices u a_wins f_seed a_other a_kept H) (mA q)) args s 0 0 (mA q)) (F0 m 11 ls []))
    (hl : lv_has ls 8 [(0, .ref q), (1, .int x1), (2, .int x2), (3, .int x3), (4, .int x4)])
    (hw : q_m_findRest_18 P11 a_choirs f_choir f_voices a_rest x1 x2 x3 x4 post) :
    W p l e rm_m_findRest s m args below meth c H locs 0 0 (MQ below (zQl (S := (Nat → Int64)) (fun r u => post r u) (fun u H => mW E q f_code a_tape a_size a_fault a_faultPlace a_many a_lands a_evenings a_sights a_choirs f_reached f_length f_begins f_sort f_value f_word f_wrongAt f_laterFault f_laterPlace a_told a_read f_farHut f_farSinger f_good f_land f_huts f_singers f_evening a_at a_knows a_climbed a_snow a_level f_begun f_minute f_avalanches a_run a_covers a_routes a_longest a_steep a_laid a_far f_sight a_runs f_choir f_voices u a_wins f_seed a_other a_kept H) (mA q)) args s 0 0 (mA q)) (F0 m 18 ls []) := by
  have hx := zc.1
  have hb := zc.2.1
  refine hw (fun x4 a_rest => ∀ (H : Heap) (locs : List Loc) (ls : Array Slot), lv_has ls 8 [(0, .ref q), (1, .int x1), (2, .int x2), (3, .int x3), (4, .int x4)] → mW E q f_code a_tape a_size a_fault a_faultPlace a_many a_lands a_evenings a_sights a_choirs f_reached f_length f_begins f_sort f_value f_word f_wrongAt f_laterFault f_laterPlace a_told a_read f_farHut f_farSinger f_good f_land f_huts f_singers f_evening a_at a_knows a_climbed a_snow a_level f_begun f_minute f_avalanches a_run a_covers a_routes a_longest a_steep a_laid a_far f_sight a_runs f_choir f_voices a_rest a_wins f_seed a_other a_kept H → va_S (mA q) s.heap H locs → W p l e rm_m_findRest s m args below meth c H locs 0 0 (MQ below (zQl (S := (Nat → Int64)) (fun r u => post r u) (fun u H => mW E q f_code a_tape a_size a_fault a_faultPlace a_many a_lands a_evenings a_sights a_choirs f_reached f_length f_begins f_sort f_value f_word f_wrongAt f_laterFault f_laterPlace a_told a_read f_farHut f_farSinger f_good f_land f_huts f_singers f_evening a_at a_knows a_climbed a_snow a_level f_begun f_minute f_avalanches a_run a_covers a_routes a_longest a_steep a_laid a_far f_sight a_runs f_choir f_voices u a_wins f_seed a_other a_kept H) (mA q)) args s 0 0 (mA q)) (F0 m 18 ls [])) ?_ _ _ _ hl hM hS
  intro x4 a_rest hw H locs ls hl hM hS
  refine lv_iload hx hb dX11_findRest_18 (lv_at hl 4 rfl) ?_
  refine lv_aload_n hx hb dX11_findRest_20 rfl (lv_at hl 0 rfl) ?_
  refine mg_11_478_0 zc hK hM dX11_findRest_21 ?_
  refine lv_icmp_ge (tgt := 137) hx hb dX11_findRest_24 (by decide) (fun hc => ?_) (fun hc => ?_)
  · have hw := hw.1 hc
    obtain ⟨v_1, ev_1⟩ : ∃ y : Int32, y = x3 + (-1 : Int32) := ⟨_, rfl⟩
    have hw := hw v_1 ev_1
    refine lv_iinc (v := v_1) (k := 3) (lv' := [(3, .int v_1), (0, .ref q), (1, .int x1), (2, .int x2), (4, .int x4)]) hx hb dX11_findRest_137 hl rfl (by rw [ev_1]; rfl) (by decide) rfl (fun ls hl => ?_)
    refine lv_goto (tgt := 11) hx hb dX11_findRest_140 (by decide) ?_
    exact hP11 _ _ _ _ _ hw (lv_sub hl [1, 2, 3, 0] rfl) hM hS
  · have hw := hw.2 hc
    refine lv_iload_n hx hb dX11_findRest_27 rfl (lv_at hl 3 rfl) ?_
    refine lv_iload_n hx hb dX11_findRest_28 rfl (lv_at hl 2 rfl) ?_
    refine lv_icmp_ne (tgt := 36) hx hb dX11_findRest_29 (by decide) (fun hc => ?_) (fun hc => ?_)
    · have hw := hw.1 hc
      refine lv_lconst (v := (0 : Int64)) hx hb dX11_findRest_36 (by decide) ?_
      exact t_m_findRest_37 zc hK hM hS hP11 (fun _ _ H locs ls h hl hM hS => h H locs ls hl hM hS) (lv_sub hl [0, 1, 2, 3, 4] rfl) hw
    · have hw := hw.2 hc
      refine lv_lconst (v := (1 : Int64)) hx hb dX11_findRest_32 (by decide) ?_
      refine lv_goto (tgt := 37) hx hb dX11_findRest_33 (by decide) ?_
      exact t_m_findRest_37 zc hK hM hS hP11 (fun _ _ H locs ls h hl hM hS => h H locs ls hl hM hS) (lv_sub hl [0, 1, 2, 3, 4] rfl) hw
set_option maxRecDepth 20000 in
theorem t_m_findRest_11 {p : Program} {l : Launch} {e : Env} {s : State} {m : MethodId} {args : Array Value} {below : List Frame} {meth : Method} {c : Code} {E : zE} {q : Nat} {f_code : Int32} {a_tape : Nat → Int32} {a_size : Nat → Int32} {a_fault : Nat → Int32} {a_faultPlace : Nat → Int32} {a_many : Nat → Int32} {a_lands : Nat → Int32} {a_evenings : Nat → Int32} {a_sights : Nat → Int32} {a_choirs : Nat → Int32} {f_reached : Int32} {f_length : Int32} {f_begins : Int32} {f_sort : Int32} {f_value : Int32} {f_word : Int64} {f_wrongAt : Int32} {f_laterFault : Int32} {f_laterPlace : Int32} {a_told : Nat → Int32} {a_read : Nat → Int32} {f_farHut : Int32} {f_farSinger : Int32} {f_good : Int32} {f_land : Int32} {f_huts : Int32} {f_singers : Int32} {f_evening : Int32} {a_at : Nat → Int32} {a_knows : Nat → Int32} {a_climbed : Nat → Int32} {a_snow : Nat → Int32} {a_level : Nat → Int32} {f_begun : Int32} {f_minute : Int32} {f_avalanches : Int32} {a_run : Nat → Int32} {a_covers : Nat → Int32} {a_routes : Nat → Int32} {a_longest : Nat → Int32} {a_steep : Nat → Int32} {a_laid : Nat → Int32} {a_far : Nat → Int32} {f_sight : Int32} {a_runs : Nat → Int32} {f_choir : Int32} {f_voices : Int32} {a_rest : Nat → Int64} {a_wins : Nat → Int32} {f_seed : Int32} {a_other : Nat → Int32} {a_kept : Nat → Int32} {post : Int64 → (Nat → Int64) → Prop} {x1 : Int32} {x2 : Int32} {x3 : Int32} {ls : Array Slot} {H : Heap} {locs : List Loc}
    (zc : zC p s m args meth c cX11_findRest 8 RX11 (some .long))
    (hK : zK E s)
    (hM : mW E q f_code a_tape a_size a_fault a_faultPlace a_many a_lands a_evenings a_sights a_choirs f_reached f_length f_begins f_sort f_value f_word f_wrongAt f_laterFault f_laterPlace a_told a_read f_farHut f_farSinger f_good f_land f_huts f_singers f_evening a_at a_knows a_climbed a_snow a_level f_begun f_minute f_avalanches a_run a_covers a_routes a_longest a_steep a_laid a_far f_sight a_runs f_choir f_voices a_rest a_wins f_seed a_other a_kept H)
    (hS : va_S (mA q) s.heap H locs)
    (hl : lv_has ls 8 [(0, .ref q), (1, .int x1), (2, .int x2), (3, .int x3)])
    (hw : q_m_findRest_11 a_choirs f_choir f_voices a_rest x1 x2 x3 post) :
    W p l e rm_m_findRest s m args below meth c H locs 0 0 (MQ below (zQl (S := (Nat → Int64)) (fun r u => post r u) (fun u H => mW E q f_code a_tape a_size a_fault a_faultPlace a_many a_lands a_evenings a_sights a_choirs f_reached f_length f_begins f_sort f_value f_word f_wrongAt f_laterFault f_laterPlace a_told a_read f_farHut f_farSinger f_good f_land f_huts f_singers f_evening a_at a_knows a_climbed a_snow a_level f_begun f_minute f_avalanches a_run a_covers a_routes a_longest a_steep a_laid a_far f_sight a_runs f_choir f_voices u a_wins f_seed a_other a_kept H) (mA q)) args s 0 0 (mA q)) (F0 m 11 ls []) := by
  have hx := zc.1
  have hb := zc.2.1
  refine hw (fun x3 a_rest => ∀ (H : Heap) (locs : List Loc) (ls : Array Slot), lv_has ls 8 [(0, .ref q), (1, .int x1), (2, .int x2), (3, .int x3)] → mW E q f_code a_tape a_size a_fault a_faultPlace a_many a_lands a_evenings a_sights a_choirs f_reached f_length f_begins f_sort f_value f_word f_wrongAt f_laterFault f_laterPlace a_told a_read f_farHut f_farSinger f_good f_land f_huts f_singers f_evening a_at a_knows a_climbed a_snow a_level f_begun f_minute f_avalanches a_run a_covers a_routes a_longest a_steep a_laid a_far f_sight a_runs f_choir f_voices a_rest a_wins f_seed a_other a_kept H → va_S (mA q) s.heap H locs → W p l e rm_m_findRest s m args below meth c H locs 0 0 (MQ below (zQl (S := (Nat → Int64)) (fun r u => post r u) (fun u H => mW E q f_code a_tape a_size a_fault a_faultPlace a_many a_lands a_evenings a_sights a_choirs f_reached f_length f_begins f_sort f_value f_word f_wrongAt f_laterFault f_laterPlace a_told a_read f_farHut f_farSinger f_good f_land f_huts f_singers f_evening a_at a_knows a_climbed a_snow a_level f_begun f_minute f_avalanches a_run a_covers a_routes a_longest a_steep a_laid a_far f_sight a_runs f_choir f_voices u a_wins f_seed a_other a_kept H) (mA q)) args s 0 0 (mA q)) (F0 m 11 ls [])) ?_ _ _ _ hl hM hS
  intro x3 a_rest hw H locs ls hl hM hS
  refine lv_iload_n hx hb dX11_findRest_11 rfl (lv_at hl 3 rfl) ?_
  refine lv_if_le (tgt := 143) hx hb dX11_findRest_12 (by decide) (fun hc => ?_) (fun hc => ?_)
  · have hw := hw.1 hc
    refine lv_aload_n hx hb dX11_findRest_143 rfl (lv_at hl 0 rfl) ?_
    refine mg_11_478_0 zc hK hM dX11_findRest_144 ?_
    refine lv_if_ne (tgt := 154) hx hb dX11_findRest_147 (by decide) (fun hc => ?_) (fun hc => ?_)
    · have hw := hw.1 hc
      refine lv_lconst (v := (0 : Int64)) hx hb dX11_findRest_154 (by decide) ?_
      exact t_m_findRest_155 zc hK hM hS  (lv_sub hl [0] rfl) hw
    · have hw := hw.2 hc
      refine lv_lconst (v := (1 : Int64)) hx hb dX11_findRest_150 (by decide) ?_
      refine lv_goto (tgt := 155) hx hb dX11_findRest_151 (by decide) ?_
      exact t_m_findRest_155 zc hK hM hS  (lv_sub hl [0] rfl) hw
  · have hw := hw.2 hc
    refine lv_iconst (v := (0 : Int32)) hx hb dX11_findRest_15 (by decide) ?_
    refine lv_istore (lv' := [(4, .int (0 : Int32)), (0, .ref q), (1, .int x1), (2, .int x2), (3, .int x3)]) hx hb dX11_findRest_16 hl (by decide) rfl (fun ls hl => ?_)
    exact t_m_findRest_18 zc hK hM hS (fun _ _ H locs ls h hl hM hS => h H locs ls hl hM hS) (lv_sub hl [1, 2, 3, 4, 0] rfl) hw
set_option maxRecDepth 20000 in
theorem t_m_findRest_0 {p : Program} {l : Launch} {e : Env} {s : State} {m : MethodId} {args : Array Value} {below : List Frame} {meth : Method} {c : Code} {E : zE} {q : Nat} {f_code : Int32} {a_tape : Nat → Int32} {a_size : Nat → Int32} {a_fault : Nat → Int32} {a_faultPlace : Nat → Int32} {a_many : Nat → Int32} {a_lands : Nat → Int32} {a_evenings : Nat → Int32} {a_sights : Nat → Int32} {a_choirs : Nat → Int32} {f_reached : Int32} {f_length : Int32} {f_begins : Int32} {f_sort : Int32} {f_value : Int32} {f_word : Int64} {f_wrongAt : Int32} {f_laterFault : Int32} {f_laterPlace : Int32} {a_told : Nat → Int32} {a_read : Nat → Int32} {f_farHut : Int32} {f_farSinger : Int32} {f_good : Int32} {f_land : Int32} {f_huts : Int32} {f_singers : Int32} {f_evening : Int32} {a_at : Nat → Int32} {a_knows : Nat → Int32} {a_climbed : Nat → Int32} {a_snow : Nat → Int32} {a_level : Nat → Int32} {f_begun : Int32} {f_minute : Int32} {f_avalanches : Int32} {a_run : Nat → Int32} {a_covers : Nat → Int32} {a_routes : Nat → Int32} {a_longest : Nat → Int32} {a_steep : Nat → Int32} {a_laid : Nat → Int32} {a_far : Nat → Int32} {f_sight : Int32} {a_runs : Nat → Int32} {f_choir : Int32} {f_voices : Int32} {a_rest : Nat → Int64} {a_wins : Nat → Int32} {f_seed : Int32} {a_other : Nat → Int32} {a_kept : Nat → Int32} {post : Int64 → (Nat → Int64) → Prop} {x1 : Int32} {ls : Array Slot} {H : Heap} {locs : List Loc}
    (zc : zC p s m args meth c cX11_findRest 8 RX11 (some .long))
    (hK : zK E s)
    (hM : mW E q f_code a_tape a_size a_fault a_faultPlace a_many a_lands a_evenings a_sights a_choirs f_reached f_length f_begins f_sort f_value f_word f_wrongAt f_laterFault f_laterPlace a_told a_read f_farHut f_farSinger f_good f_land f_huts f_singers f_evening a_at a_knows a_climbed a_snow a_level f_begun f_minute f_avalanches a_run a_covers a_routes a_longest a_steep a_laid a_far f_sight a_runs f_choir f_voices a_rest a_wins f_seed a_other a_kept H)
    (hS : va_S (mA q) s.heap H locs)
    (hl : lv_has ls 8 [(0, .ref q), (1, .int x1)])
    (hw : q_m_findRest_0 a_choirs f_choir f_voices a_rest x1 post) :
    W p l e rm_m_findRest s m args below meth c H locs 0 0 (MQ below (zQl (S := (Nat → Int64)) (fun r u => post r u) (fun u H => mW E q f_code a_tape a_size a_fault a_faultPlace a_many a_lands a_evenings a_sights a_choirs f_reached f_length f_begins f_sort f_value f_word f_wrongAt f_laterFault f_laterPlace a_told a_read f_farHut f_farSinger f_good f_land f_huts f_singers f_evening a_at a_knows a_climbed a_snow a_level f_begun f_minute f_avalanches a_run a_covers a_routes a_longest a_steep a_laid a_far f_sight a_runs f_choir f_voices u a_wins f_seed a_other a_kept H) (mA q)) args s 0 0 (mA q)) (F0 m 0 ls []) := by
  have hx := zc.1
  have hb := zc.2.1
  refine lv_iconst (v := (1 : Int32)) hx hb dX11_findRest_0 (by decide) ?_
  refine lv_aload_n hx hb dX11_findRest_1 rfl (lv_at hl 0 rfl) ?_
  refine mg_11_478_0 zc hK hM dX11_findRest_2 ?_
  refine lv_ishl hx hb dX11_findRest_5 ?_
  refine lv_iconst (v := (1 : Int32)) hx hb dX11_findRest_6 (by decide) ?_
  refine lv_isub hx hb dX11_findRest_7 ?_
  refine lv_topi (fun v_1 ev_1 => ?_)
  have hw := hw v_1 ev_1
  refine lv_istore_n (lv' := [(2, .int v_1), (0, .ref q), (1, .int x1)]) hx hb dX11_findRest_8 rfl hl (by decide) rfl (fun ls hl => ?_)
  refine lv_iload_n hx hb dX11_findRest_9 rfl (lv_at hl 0 rfl) ?_
  refine lv_istore_n (lv' := [(3, .int v_1), (2, .int v_1), (0, .ref q), (1, .int x1)]) hx hb dX11_findRest_10 rfl hl (by decide) rfl (fun ls hl => ?_)
  exact t_m_findRest_11 zc hK hM hS  (lv_sub hl [2, 3, 1, 0] rfl) hw
set_option maxRecDepth 20000 in
theorem c_m_findRest (l : Launch) {E : zE} {q : Nat} {f_code : Int32} {a_tape : Nat → Int32} {a_size : Nat → Int32} {a_fault : Nat → Int32} {a_faultPlace : Nat → Int32} {a_many : Nat → Int32} {a_lands : Nat → Int32} {a_evenings : Nat → Int32} {a_sights : Nat → Int32} {a_choirs : Nat → Int32} {f_reached : Int32} {f_length : Int32} {f_begins : Int32} {f_sort : Int32} {f_value : Int32} {f_word : Int64} {f_wrongAt : Int32} {f_laterFault : Int32} {f_laterPlace : Int32} {a_told : Nat → Int32} {a_read : Nat → Int32} {f_farHut : Int32} {f_farSinger : Int32} {f_good : Int32} {f_land : Int32} {f_huts : Int32} {f_singers : Int32} {f_evening : Int32} {a_at : Nat → Int32} {a_knows : Nat → Int32} {a_climbed : Nat → Int32} {a_snow : Nat → Int32} {a_level : Nat → Int32} {f_begun : Int32} {f_minute : Int32} {f_avalanches : Int32} {a_run : Nat → Int32} {a_covers : Nat → Int32} {a_routes : Nat → Int32} {a_longest : Nat → Int32} {a_steep : Nat → Int32} {a_laid : Nat → Int32} {a_far : Nat → Int32} {f_sight : Int32} {a_runs : Nat → Int32} {f_choir : Int32} {f_voices : Int32} {a_rest : Nat → Int64} {a_wins : Nat → Int32} {f_seed : Int32} {a_other : Nat → Int32} {a_kept : Nat → Int32} {x1 : Int32} {post : Int64 → (Nat → Int64) → Prop} (hw : q_m_findRest_0 a_choirs f_choir f_voices a_rest x1 post) : Met l yX11_findRest (Cond.code yX11_findRest cX11_findRest 8 (some .long) :: zb) rm_m_findRest (va_Pc [.ref q, .int x1] (fun U => mW E q f_code a_tape a_size a_fault a_faultPlace a_many a_lands a_evenings a_sights a_choirs f_reached f_length f_begins f_sort f_value f_word f_wrongAt f_laterFault f_laterPlace a_told a_read f_farHut f_farSinger f_good f_land f_huts f_singers f_evening a_at a_knows a_climbed a_snow a_level f_begun f_minute f_avalanches a_run a_covers a_routes a_longest a_steep a_laid a_far f_sight a_runs f_choir f_voices a_rest a_wins f_seed a_other a_kept U.heap ∧ zK E U)) (zQl (S := (Nat → Int64)) (fun r u => post r u) (fun u H => mW E q f_code a_tape a_size a_fault a_faultPlace a_many a_lands a_evenings a_sights a_choirs f_reached f_length f_begins f_sort f_value f_word f_wrongAt f_laterFault f_laterPlace a_told a_read f_farHut f_farSinger f_good f_land f_huts f_singers f_evening a_at a_knows a_climbed a_snow a_level f_begun f_minute f_avalanches a_run a_covers a_routes a_longest a_steep a_laid a_far f_sight a_runs f_choir f_voices u a_wins f_seed a_other a_kept H) (mA q)) 0 0 (mA q) := by
  refine Met.ofW (cc := cX11_findRest) (maxL := 8) (ret := (some .long)) (by decide) rfl ?_
  intro p e s m args below meth c s₁ B hml hv
  obtain ⟨rfl, hM, hK⟩ := hv
  have zc := zc_of B hml
  have hl := lv_entry ([.ref q, .int x1]) (n := 8) (Nat.le_of_ble_eq_true rfl)
  rw [lg_entry_eq]
  generalize (lg_sl ([.ref q, .int x1]) ++ List.replicate (8 - (lg_sl ([.ref q, .int x1])).length) Slot.unset).toArray = ls at hl ⊢
  have hl : lv_has ls 8 [(0, .ref q), (1, .int x1)] := hl
  exact t_m_findRest_0 zc hK hM va_S.rf (lv_sub hl [0, 1] rfl) hw
end
section
-- m_stepOf
abbrev rm_m_stepOf : Room := { frames := 0, cells := 0, slots := 0, locals := 0 }
def q_m_stepOf_0 (a_choirs : Nat → Int32) (f_choir : Int32) (post : Int32 → Prop) : Prop :=
  vp_in (((20 : Int32) * f_choir) + (19 : Int32)) 160 ∧ (post (a_choirs (Int32.toNatClampNeg (((20 : Int32) * f_choir) + (19 : Int32)))))
set_option maxRecDepth 20000 in
theorem t_m_stepOf_0 {p : Program} {l : Launch} {e : Env} {s : State} {m : MethodId} {args : Array Value} {below : List Frame} {meth : Method} {c : Code} {E : zE} {q : Nat} {f_code : Int32} {a_tape : Nat → Int32} {a_size : Nat → Int32} {a_fault : Nat → Int32} {a_faultPlace : Nat → Int32} {a_many : Nat → Int32} {a_lands : Nat → Int32} {a_evenings : Nat → Int32} {a_sights : Nat → Int32} {a_choirs : Nat → Int32} {f_reached : Int32} {f_length : Int32} {f_begins : Int32} {f_sort : Int32} {f_value : Int32} {f_word : Int64} {f_wrongAt : Int32} {f_laterFault : Int32} {f_laterPlace : Int32} {a_told : Nat → Int32} {a_read : Nat → Int32} {f_farHut : Int32} {f_farSinger : Int32} {f_good : Int32} {f_land : Int32} {f_huts : Int32} {f_singers : Int32} {f_evening : Int32} {a_at : Nat → Int32} {a_knows : Nat → Int32} {a_climbed : Nat → Int32} {a_snow : Nat → Int32} {a_level : Nat → Int32} {f_begun : Int32} {f_minute : Int32} {f_avalanches : Int32} {a_run : Nat → Int32} {a_covers : Nat → Int32} {a_routes : Nat → Int32} {a_longest : Nat → Int32} {a_steep : Nat → Int32} {a_laid : Nat → Int32} {a_far : Nat → Int32} {f_sight : Int32} {a_runs : Nat → Int32} {f_choir : Int32} {f_voices : Int32} {a_rest : Nat → Int64} {a_wins : Nat → Int32} {f_seed : Int32} {a_other : Nat → Int32} {a_kept : Nat → Int32} {post : Int32 → Prop} {ls : Array Slot}
    (zc : zC p s m args meth c cX11_stepOf 1 RX11 (some .int))
    (hK : zK E s)
    (hM : mW E q f_code a_tape a_size a_fault a_faultPlace a_many a_lands a_evenings a_sights a_choirs f_reached f_length f_begins f_sort f_value f_word f_wrongAt f_laterFault f_laterPlace a_told a_read f_farHut f_farSinger f_good f_land f_huts f_singers f_evening a_at a_knows a_climbed a_snow a_level f_begun f_minute f_avalanches a_run a_covers a_routes a_longest a_steep a_laid a_far f_sight a_runs f_choir f_voices a_rest a_wins f_seed a_other a_kept s.heap)
    (hl : lv_has ls 1 [(0, .ref q)])
    (hw : q_m_stepOf_0 a_choirs f_choir post) :
    W p l e rm_m_stepOf s m args below meth c s.heap [] 0 0 (MQ below (vp_Si post) args s 0 0 (fun _ => False)) (F0 m 0 ls []) := by
  have hx := zc.1
  have hb := zc.2.1
  refine lv_aload_n hx hb dX11_stepOf_0 rfl (lv_at hl 0 rfl) ?_
  refine mg_11_35_0 zc hK hM dX11_stepOf_1 ?_
  refine lv_bipush (v := (20 : Int32)) hx hb dX11_stepOf_4 (by decide) ?_
  refine lv_aload_n hx hb dX11_stepOf_6 rfl (lv_at hl 0 rfl) ?_
  refine mg_11_475_0 zc hK hM dX11_stepOf_7 ?_
  refine lv_imul hx hb dX11_stepOf_10 ?_
  refine lv_bipush (v := (19 : Int32)) hx hb dX11_stepOf_11 (by decide) ?_
  refine lv_iadd hx hb dX11_stepOf_13 ?_
  refine mld_9 zc hK hM hw.1 dX11_stepOf_14 ?_
  have hw := hw.2
  exact zret_i zc hw dX11_stepOf_15
set_option maxRecDepth 20000 in
theorem c_m_stepOf (l : Launch) {E : zE} {q : Nat} {f_code : Int32} {a_tape : Nat → Int32} {a_size : Nat → Int32} {a_fault : Nat → Int32} {a_faultPlace : Nat → Int32} {a_many : Nat → Int32} {a_lands : Nat → Int32} {a_evenings : Nat → Int32} {a_sights : Nat → Int32} {a_choirs : Nat → Int32} {f_reached : Int32} {f_length : Int32} {f_begins : Int32} {f_sort : Int32} {f_value : Int32} {f_word : Int64} {f_wrongAt : Int32} {f_laterFault : Int32} {f_laterPlace : Int32} {a_told : Nat → Int32} {a_read : Nat → Int32} {f_farHut : Int32} {f_farSinger : Int32} {f_good : Int32} {f_land : Int32} {f_huts : Int32} {f_singers : Int32} {f_evening : Int32} {a_at : Nat → Int32} {a_knows : Nat → Int32} {a_climbed : Nat → Int32} {a_snow : Nat → Int32} {a_level : Nat → Int32} {f_begun : Int32} {f_minute : Int32} {f_avalanches : Int32} {a_run : Nat → Int32} {a_covers : Nat → Int32} {a_routes : Nat → Int32} {a_longest : Nat → Int32} {a_steep : Nat → Int32} {a_laid : Nat → Int32} {a_far : Nat → Int32} {f_sight : Int32} {a_runs : Nat → Int32} {f_choir : Int32} {f_voices : Int32} {a_rest : Nat → Int64} {a_wins : Nat → Int32} {f_seed : Int32} {a_other : Nat → Int32} {a_kept : Nat → Int32} {post : Int32 → Prop} (hw : q_m_stepOf_0 a_choirs f_choir post) : Met l yX11_stepOf (Cond.code yX11_stepOf cX11_stepOf 1 (some .int) :: zb) rm_m_stepOf (va_Pc [.ref q] (fun U => mW E q f_code a_tape a_size a_fault a_faultPlace a_many a_lands a_evenings a_sights a_choirs f_reached f_length f_begins f_sort f_value f_word f_wrongAt f_laterFault f_laterPlace a_told a_read f_farHut f_farSinger f_good f_land f_huts f_singers f_evening a_at a_knows a_climbed a_snow a_level f_begun f_minute f_avalanches a_run a_covers a_routes a_longest a_steep a_laid a_far f_sight a_runs f_choir f_voices a_rest a_wins f_seed a_other a_kept U.heap ∧ zK E U)) (vp_Si post) 0 0 (fun _ => False) := by
  refine Met.ofW (cc := cX11_stepOf) (maxL := 1) (ret := (some .int)) (by decide) rfl ?_
  intro p e s m args below meth c s₁ B hml hv
  obtain ⟨rfl, hM, hK⟩ := hv
  have zc := zc_of B hml
  have hl := lv_entry ([.ref q]) (n := 1) (Nat.le_of_ble_eq_true rfl)
  rw [lg_entry_eq]
  generalize (lg_sl ([.ref q]) ++ List.replicate (1 - (lg_sl ([.ref q])).length) Slot.unset).toArray = ls at hl ⊢
  have hl : lv_has ls 1 [(0, .ref q)] := hl
  exact t_m_stepOf_0 zc hK hM (lv_sub hl [0] rfl) hw
-- m_leastStep
abbrev rm_m_leastStep : Room := { frames := 3, cells := 0, slots := 0, locals := 72 }
def q_m_leastStep_2 (a_choirs : Nat → Int32) (f_choir : Int32) (f_voices : Int32) (a_rest : Nat → Int64) (x1 : Int32) (post : Int32 → (Nat → Int64) → Prop) : Prop :=
  ∀ P2 : Int32 → (Nat → Int64) → Prop, (∀ (x1 : Int32) (a_rest : Nat → Int64), (((9 : Int32) < x1 → (post (-1 : Int32) a_rest)) ∧ (¬ (9 : Int32) < x1 → (q_m_findRest_0 a_choirs f_choir f_voices a_rest x1 (fun r_1 a_rest_1 => ((lg_cmp r_1 (0 : Int64)) ≤ 0 → (∀ v_1 : Int32, v_1 = x1 + (1 : Int32) → (P2 v_1 a_rest_1))) ∧ (¬ (lg_cmp r_1 (0 : Int64)) ≤ 0 → (post x1 a_rest_1)))))) → P2 x1 a_rest) → P2 x1 a_rest
def q_m_leastStep_0 (a_choirs : Nat → Int32) (f_choir : Int32) (f_voices : Int32) (a_rest : Nat → Int64) (post : Int32 → (Nat → Int64) → Prop) : Prop :=
  q_m_leastStep_2 a_choirs f_choir f_voices a_rest (0 : Int32) post
set_option maxRecDepth 20000 in
theorem t_m_leastStep_2 {p : Program} {l : Launch} {e : Env} {s : State} {m : MethodId} {args : Array Value} {below : List Frame} {meth : Method} {c : Code} {E : zE} {q : Nat} {f_code : Int32} {a_tape : Nat → Int32} {a_size : Nat → Int32} {a_fault : Nat → Int32} {a_faultPlace : Nat → Int32} {a_many : Nat → Int32} {a_lands : Nat → Int32} {a_evenings : Nat → Int32} {a_sights : Nat → Int32} {a_choirs : Nat → Int32} {f_reached : Int32} {f_length : Int32} {f_begins : Int32} {f_sort : Int32} {f_value : Int32} {f_word : Int64} {f_wrongAt : Int32} {f_laterFault : Int32} {f_laterPlace : Int32} {a_told : Nat → Int32} {a_read : Nat → Int32} {f_farHut : Int32} {f_farSinger : Int32} {f_good : Int32} {f_land : Int32} {f_huts : Int32} {f_singers : Int32} {f_evening : Int32} {a_at : Nat → Int32} {a_knows : Nat → Int32} {a_climbed : Nat → Int32} {a_snow : Nat → Int32} {a_level : Nat → Int32} {f_begun : Int32} {f_minute : Int32} {f_avalanches : Int32} {a_run : Nat → Int32} {a_covers : Nat → Int32} {a_routes : Nat → Int32} {a_longest : Nat → Int32} {a_steep : Nat → Int32} {a_laid : Nat → Int32} {a_far : Nat → Int32} {f_sight : Int32} {a_runs : Nat → Int32} {f_choir : Int32} {f_voices : Int32} {a_rest : Nat → Int64} {a_wins : Nat → Int32} {f_seed : Int32} {a_other : Nat → Int32} {a_kept : Nat → Int32} {post : Int32 → (Nat → Int64) → Prop} {x1 : Int32} {ls : Array Slot} {H : Heap} {locs : List Loc}
    (zc : zC p s m args meth c cX11_leastStep 2 RX11 (some .int))
    (hK : zK E s)
    (hM : mW E q f_code a_tape a_size a_fault a_faultPlace a_many a_lands a_evenings a_sights a_choirs f_reached f_length f_begins f_sort f_value f_word f_wrongAt f_laterFault f_laterPlace a_told a_read f_farHut f_farSinger f_good f_land f_huts f_singers f_evening a_at a_knows a_climbed a_snow a_level f_begun f_minute f_avalanches a_run a_covers a_routes a_longest a_steep a_laid a_far f_sight a_runs f_choir f_voices a_rest a_wins f_seed a_other a_kept H)
    (hS : va_S (mA q) s.heap H locs)
    (hl : lv_has ls 2 [(0, .ref q), (1, .int x1)])
    (hw : q_m_leastStep_2 a_choirs f_choir f_voices a_rest x1 post) :
    W p l e rm_m_leastStep s m args below meth c H locs 0 0 (MQ below (zQi (S := (Nat → Int64)) (fun r u => post r u) (fun u H => mW E q f_code a_tape a_size a_fault a_faultPlace a_many a_lands a_evenings a_sights a_choirs f_reached f_length f_begins f_sort f_value f_word f_wrongAt f_laterFault f_laterPlace a_told a_read f_farHut f_farSinger f_good f_land f_huts f_singers f_evening a_at a_knows a_climbed a_snow a_level f_begun f_minute f_avalanches a_run a_covers a_routes a_longest a_steep a_laid a_far f_sight a_runs f_choir f_voices u a_wins f_seed a_other a_kept H) (mA q)) args s 0 0 (mA q)) (F0 m 2 ls []) := by
  have hx := zc.1
  have hb := zc.2.1
  refine hw (fun x1 a_rest => ∀ (H : Heap) (locs : List Loc) (ls : Array Slot), lv_has ls 2 [(0, .ref q), (1, .int x1)] → mW E q f_code a_tape a_size a_fault a_faultPlace a_many a_lands a_evenings a_sights a_choirs f_reached f_length f_begins f_sort f_value f_word f_wrongAt f_laterFault f_laterPlace a_told a_read f_farHut f_farSinger f_good f_land f_huts f_singers f_evening a_at a_knows a_climbed a_snow a_level f_begun f_minute f_avalanches a_run a_covers a_routes a_longest a_steep a_laid a_far f_sight a_runs f_choir f_voices a_rest a_wins f_seed a_other a_kept H → va_S (mA q) s.heap H locs → W p l e rm_m_leastStep s m args below meth c H locs 0 0 (MQ below (zQi (S := (Nat → Int64)) (fun r u => post r u) (fun u H => mW E q f_code a_tape a_size a_fault a_faultPlace a_many a_lands a_evenings a_sights a_choirs f_reached f_length f_begins f_sort f_value f_word f_wrongAt f_laterFault f_laterPlace a_told a_read f_farHut f_farSinger f_good f_land f_huts f_singers f_evening a_at a_knows a_climbed a_snow a_level f_begun f_minute f_avalanches a_run a_covers a_routes a_longest a_steep a_laid a_far f_sight a_runs f_choir f_voices u a_wins f_seed a_other a_kept H) (mA q)) args s 0 0 (mA q)) (F0 m 2 ls [])) ?_ _ _ _ hl hM hS
  intro x1 a_rest hw H locs ls hl hM hS
  refine lv_iload_n hx hb dX11_leastStep_2 rfl (lv_at hl 1 rfl) ?_
  refine lv_bipush (v := (9 : Int32)) hx hb dX11_leastStep_3 (by decide) ?_
  refine lv_icmp_gt (tgt := 26) hx hb dX11_leastStep_5 (by decide) (fun hc => ?_) (fun hc => ?_)
  · have hw := hw.1 hc
    refine lv_iconst (v := (-1 : Int32)) hx hb dX11_leastStep_26 (by decide) ?_
    exact zret_iw a_rest zc hS hw hM dX11_leastStep_27
  · have hw := hw.2 hc
    refine lv_aload_n hx hb dX11_leastStep_8 rfl (lv_at hl 0 rfl) ?_
    refine lv_iload_n hx hb dX11_leastStep_9 rfl (lv_at hl 1 rfl) ?_
    refine zVw_l [.int x1] [] zc ky_X11_findRest kz_X11_findRest km_11_487 (c_m_findRest l hw) (mPreV0 hK hM) hS rfl rfl hl.1 (Nat.le_of_ble_eq_true rfl) ⟨rfl, rfl⟩ ⟨Nat.le_of_ble_eq_true rfl, Nat.le_of_ble_eq_true rfl⟩ ⟨(Nat.zero_le _), (Nat.zero_le _)⟩ dX11_leastStep_10 (fun r_1 a_rest_1 H locs hw hM hS => ?_)
    refine lv_lconst (v := (0 : Int64)) hx hb dX11_leastStep_13 (by decide) ?_
    refine W.lcmp hx hb dX11_leastStep_14 ?_
    refine lv_if_le (tgt := 20) hx hb dX11_leastStep_15 (by decide) (fun hc => ?_) (fun hc => ?_)
    · have hw := hw.1 hc
      obtain ⟨v_1, ev_1⟩ : ∃ y : Int32, y = x1 + (1 : Int32) := ⟨_, rfl⟩
      have hw := hw v_1 ev_1
      refine lv_iinc (v := v_1) (k := 1) (lv' := [(1, .int v_1), (0, .ref q)]) hx hb dX11_leastStep_20 hl rfl (by rw [ev_1]; rfl) (by decide) rfl (fun ls hl => ?_)
      refine lv_goto (tgt := 2) hx hb dX11_leastStep_23 (by decide) ?_
      exact hw _ _ _ (lv_sub hl [1, 0] rfl) hM hS
    · have hw := hw.2 hc
      refine lv_iload_n hx hb dX11_leastStep_18 rfl (lv_at hl 1 rfl) ?_
      exact zret_iw a_rest_1 zc hS hw hM dX11_leastStep_19
set_option maxRecDepth 20000 in
theorem t_m_leastStep_0 {p : Program} {l : Launch} {e : Env} {s : State} {m : MethodId} {args : Array Value} {below : List Frame} {meth : Method} {c : Code} {E : zE} {q : Nat} {f_code : Int32} {a_tape : Nat → Int32} {a_size : Nat → Int32} {a_fault : Nat → Int32} {a_faultPlace : Nat → Int32} {a_many : Nat → Int32} {a_lands : Nat → Int32} {a_evenings : Nat → Int32} {a_sights : Nat → Int32} {a_choirs : Nat → Int32} {f_reached : Int32} {f_length : Int32} {f_begins : Int32} {f_sort : Int32} {f_value : Int32} {f_word : Int64} {f_wrongAt : Int32} {f_laterFault : Int32} {f_laterPlace : Int32} {a_told : Nat → Int32} {a_read : Nat → Int32} {f_farHut : Int32} {f_farSinger : Int32} {f_good : Int32} {f_land : Int32} {f_huts : Int32} {f_singers : Int32} {f_evening : Int32} {a_at : Nat → Int32} {a_knows : Nat → Int32} {a_climbed : Nat → Int32} {a_snow : Nat → Int32} {a_level : Nat → Int32} {f_begun : Int32} {f_minute : Int32} {f_avalanches : Int32} {a_run : Nat → Int32} {a_covers : Nat → Int32} {a_routes : Nat → Int32} {a_longest : Nat → Int32} {a_steep : Nat → Int32} {a_laid : Nat → Int32} {a_far : Nat → Int32} {f_sight : Int32} {a_runs : Nat → Int32} {f_choir : Int32} {f_voices : Int32} {a_rest : Nat → Int64} {a_wins : Nat → Int32} {f_seed : Int32} {a_other : Nat → Int32} {a_kept : Nat → Int32} {post : Int32 → (Nat → Int64) → Prop} {ls : Array Slot} {H : Heap} {locs : List Loc}
    (zc : zC p s m args meth c cX11_leastStep 2 RX11 (some .int))
    (hK : zK E s)
    (hM : mW E q f_code a_tape a_size a_fault a_faultPlace a_many a_lands a_evenings a_sights a_choirs f_reached f_length f_begins f_sort f_value f_word f_wrongAt f_laterFault f_laterPlace a_told a_read f_farHut f_farSinger f_good f_land f_huts f_singers f_evening a_at a_knows a_climbed a_snow a_level f_begun f_minute f_avalanches a_run a_covers a_routes a_longest a_steep a_laid a_far f_sight a_runs f_choir f_voices a_rest a_wins f_seed a_other a_kept H)
    (hS : va_S (mA q) s.heap H locs)
    (hl : lv_has ls 2 [(0, .ref q)])
    (hw : q_m_leastStep_0 a_choirs f_choir f_voices a_rest post) :
    W p l e rm_m_leastStep s m args below meth c H locs 0 0 (MQ below (zQi (S := (Nat → Int64)) (fun r u => post r u) (fun u H => mW E q f_code a_tape a_size a_fault a_faultPlace a_many a_lands a_evenings a_sights a_choirs f_reached f_length f_begins f_sort f_value f_word f_wrongAt f_laterFault f_laterPlace a_told a_read f_farHut f_farSinger f_good f_land f_huts f_singers f_evening a_at a_knows a_climbed a_snow a_level f_begun f_minute f_avalanches a_run a_covers a_routes a_longest a_steep a_laid a_far f_sight a_runs f_choir f_voices u a_wins f_seed a_other a_kept H) (mA q)) args s 0 0 (mA q)) (F0 m 0 ls []) := by
  have hx := zc.1
  have hb := zc.2.1
  refine lv_iconst (v := (0 : Int32)) hx hb dX11_leastStep_0 (by decide) ?_
  refine lv_istore_n (lv' := [(1, .int (0 : Int32)), (0, .ref q)]) hx hb dX11_leastStep_1 rfl hl (by decide) rfl (fun ls hl => ?_)
  exact t_m_leastStep_2 zc hK hM hS  (lv_sub hl [1, 0] rfl) hw
set_option maxRecDepth 20000 in
theorem c_m_leastStep (l : Launch) {E : zE} {q : Nat} {f_code : Int32} {a_tape : Nat → Int32} {a_size : Nat → Int32} {a_fault : Nat → Int32} {a_faultPlace : Nat → Int32} {a_many : Nat → Int32} {a_lands : Nat → Int32} {a_evenings : Nat → Int32} {a_sights : Nat → Int32} {a_choirs : Nat → Int32} {f_reached : Int32} {f_length : Int32} {f_begins : Int32} {f_sort : Int32} {f_value : Int32} {f_word : Int64} {f_wrongAt : Int32} {f_laterFault : Int32} {f_laterPlace : Int32} {a_told : Nat → Int32} {a_read : Nat → Int32} {f_farHut : Int32} {f_farSinger : Int32} {f_good : Int32} {f_land : Int32} {f_huts : Int32} {f_singers : Int32} {f_evening : Int32} {a_at : Nat → Int32} {a_knows : Nat → Int32} {a_climbed : Nat → Int32} {a_snow : Nat → Int32} {a_level : Nat → Int32} {f_begun : Int32} {f_minute : Int32} {f_avalanches : Int32} {a_run : Nat → Int32} {a_covers : Nat → Int32} {a_routes : Nat → Int32} {a_longest : Nat → Int32} {a_steep : Nat → Int32} {a_laid : Nat → Int32} {a_far : Nat → Int32} {f_sight : Int32} {a_runs : Nat → Int32} {f_choir : Int32} {f_voices : Int32} {a_rest : Nat → Int64} {a_wins : Nat → Int32} {f_seed : Int32} {a_other : Nat → Int32} {a_kept : Nat → Int32} {post : Int32 → (Nat → Int64) → Prop} (hw : q_m_leastStep_0 a_choirs f_choir f_voices a_rest post) : Met l yX11_leastStep (Cond.code yX11_leastStep cX11_leastStep 2 (some .int) :: zb) rm_m_leastStep (va_Pc [.ref q] (fun U => mW E q f_code a_tape a_size a_fault a_faultPlace a_many a_lands a_evenings a_sights a_choirs f_reached f_length f_begins f_sort f_value f_word f_wrongAt f_laterFault f_laterPlace a_told a_read f_farHut f_farSinger f_good f_land f_huts f_singers f_evening a_at a_knows a_climbed a_snow a_level f_begun f_minute f_avalanches a_run a_covers a_routes a_longest a_steep a_laid a_far f_sight a_runs f_choir f_voices a_rest a_wins f_seed a_other a_kept U.heap ∧ zK E U)) (zQi (S := (Nat → Int64)) (fun r u => post r u) (fun u H => mW E q f_code a_tape a_size a_fault a_faultPlace a_many a_lands a_evenings a_sights a_choirs f_reached f_length f_begins f_sort f_value f_word f_wrongAt f_laterFault f_laterPlace a_told a_read f_farHut f_farSinger f_good f_land f_huts f_singers f_evening a_at a_knows a_climbed a_snow a_level f_begun f_minute f_avalanches a_run a_covers a_routes a_longest a_steep a_laid a_far f_sight a_runs f_choir f_voices u a_wins f_seed a_other a_kept H) (mA q)) 0 0 (mA q) := by
  refine Met.ofW (cc := cX11_leastStep) (maxL := 2) (ret := (some .int)) (by decide) rfl ?_
  intro p e s m args below meth c s₁ B hml hv
  obtain ⟨rfl, hM, hK⟩ := hv
  have zc := zc_of B hml
  have hl := lv_entry ([.ref q]) (n := 2) (Nat.le_of_ble_eq_true rfl)
  rw [lg_entry_eq]
  generalize (lg_sl ([.ref q]) ++ List.replicate (2 - (lg_sl ([.ref q])).length) Slot.unset).toArray = ls at hl ⊢
  have hl : lv_has ls 2 [(0, .ref q)] := hl
  exact t_m_leastStep_0 zc hK hM va_S.rf (lv_sub hl [0] rfl) hw
-- m_fall
abbrev rm_m_fall : Room := { frames := 1, cells := 0, slots := 0, locals := 22 }
def q_m_fall_33 (P6 : Int32 → Int32 → Int32 → Prop) (a_choirs : Nat → Int32) (f_choir : Int32) (f_voices : Int32) (x1 : Int32) (x3 : Int32) (y0 : Int32) (y1 : Int32) (post : Int32 → Prop) : Prop :=
  ∀ v_1 : Int32, v_1 = (y0 + y1) → (q_m_voice_0 a_choirs f_choir x3 (1 : Int32) (fun r_1 => ∀ v_2 : Int32, v_2 = (x1 ||| ((1 : Int32) <<< (r_1 &&& 31))) → (∀ v_3 : Int32, v_3 = x3 + (1 : Int32) → (P6 v_2 v_1 v_3))))
def q_m_fall_6 (a_choirs : Nat → Int32) (f_choir : Int32) (f_voices : Int32) (x1 : Int32) (x2 : Int32) (x3 : Int32) (post : Int32 → Prop) : Prop :=
  ∀ P6 : Int32 → Int32 → Int32 → Prop, (∀ (x1 : Int32) (x2 : Int32) (x3 : Int32), ((f_voices ≤ x3 → (post x2)) ∧ (¬ f_voices ≤ x3 → (q_m_voice_0 a_choirs f_choir x3 (1 : Int32) (fun r_1 => q_m_has_0 x1 r_1 (fun r_2 => (r_2 = 0 → (q_m_fall_33 P6 a_choirs f_choir f_voices x1 x3 x2 (1 : Int32) post)) ∧ (¬ r_2 = 0 → (q_m_fall_33 P6 a_choirs f_choir f_voices x1 x3 x2 (0 : Int32) post))))))) → P6 x1 x2 x3) → P6 x1 x2 x3
def q_m_fall_0 (a_choirs : Nat → Int32) (f_choir : Int32) (f_voices : Int32) (post : Int32 → Prop) : Prop :=
  q_m_fall_6 a_choirs f_choir f_voices (0 : Int32) (0 : Int32) (0 : Int32) post
set_option maxRecDepth 20000 in
theorem t_m_fall_33 {p : Program} {l : Launch} {e : Env} {s : State} {m : MethodId} {args : Array Value} {below : List Frame} {meth : Method} {c : Code} {E : zE} {q : Nat} {f_code : Int32} {a_tape : Nat → Int32} {a_size : Nat → Int32} {a_fault : Nat → Int32} {a_faultPlace : Nat → Int32} {a_many : Nat → Int32} {a_lands : Nat → Int32} {a_evenings : Nat → Int32} {a_sights : Nat → Int32} {a_choirs : Nat → Int32} {f_reached : Int32} {f_length : Int32} {f_begins : Int32} {f_sort : Int32} {f_value : Int32} {f_word : Int64} {f_wrongAt : Int32} {f_laterFault : Int32} {f_laterPlace : Int32} {a_told : Nat → Int32} {a_read : Nat → Int32} {f_farHut : Int32} {f_farSinger : Int32} {f_good : Int32} {f_land : Int32} {f_huts : Int32} {f_singers : Int32} {f_evening : Int32} {a_at : Nat → Int32} {a_knows : Nat → Int32} {a_climbed : Nat → Int32} {a_snow : Nat → Int32} {a_level : Nat → Int32} {f_begun : Int32} {f_minute : Int32} {f_avalanches : Int32} {a_run : Nat → Int32} {a_covers : Nat → Int32} {a_routes : Nat → Int32} {a_longest : Nat → Int32} {a_steep : Nat → Int32} {a_laid : Nat → Int32} {a_far : Nat → Int32} {f_sight : Int32} {a_runs : Nat → Int32} {f_choir : Int32} {f_voices : Int32} {a_rest : Nat → Int64} {a_wins : Nat → Int32} {f_seed : Int32} {a_other : Nat → Int32} {a_kept : Nat → Int32} {P6 : Int32 → Int32 → Int32 → Prop} {post : Int32 → Prop} {x1 : Int32} {x3 : Int32} {y0 : Int32} {y1 : Int32} {ls : Array Slot}
    (zc : zC p s m args meth c cX11_fall 4 RX11 (some .int))
    (hK : zK E s)
    (hM : mW E q f_code a_tape a_size a_fault a_faultPlace a_many a_lands a_evenings a_sights a_choirs f_reached f_length f_begins f_sort f_value f_word f_wrongAt f_laterFault f_laterPlace a_told a_read f_farHut f_farSinger f_good f_land f_huts f_singers f_evening a_at a_knows a_climbed a_snow a_level f_begun f_minute f_avalanches a_run a_covers a_routes a_longest a_steep a_laid a_far f_sight a_runs f_choir f_voices a_rest a_wins f_seed a_other a_kept s.heap)
    (hP6 : ∀ (x1 : Int32) (x2 : Int32) (x3 : Int32) (ls : Array Slot), P6 x1 x2 x3 → lv_has ls 4 [(0, .ref q), (1, .int x1), (2, .int x2), (3, .int x3)] → W p l e rm_m_fall s m args below meth c s.heap [] 0 0 (MQ below (vp_Si post) args s 0 0 (fun _ => False)) (F0 m 6 ls []))
    (hl : lv_has ls 4 [(0, .ref q), (1, .int x1), (3, .int x3)])
    (hw : q_m_fall_33 P6 a_choirs f_choir f_voices x1 x3 y0 y1 post) :
    W p l e rm_m_fall s m args below meth c s.heap [] 0 0 (MQ below (vp_Si post) args s 0 0 (fun _ => False)) (F0 m 33 ls [.int y1, .int y0]) := by
  have hx := zc.1
  have hb := zc.2.1
  refine lv_iadd hx hb dX11_fall_33 ?_
  refine lv_topi (fun v_1 ev_1 => ?_)
  have hw := hw v_1 ev_1
  refine lv_istore_n (lv' := [(2, .int v_1), (0, .ref q), (1, .int x1), (3, .int x3)]) hx hb dX11_fall_34 rfl hl (by decide) rfl (fun ls hl => ?_)
  refine lv_iload_n hx hb dX11_fall_35 rfl (lv_at hl 2 rfl) ?_
  refine lv_iconst (v := (1 : Int32)) hx hb dX11_fall_36 (by decide) ?_
  refine lv_aload_n hx hb dX11_fall_37 rfl (lv_at hl 1 rfl) ?_
  refine lv_iload_n hx hb dX11_fall_38 rfl (lv_at hl 3 rfl) ?_
  refine lv_iconst (v := (1 : Int32)) hx hb dX11_fall_39 (by decide) ?_
  refine zV_i [.int x3, .int (1 : Int32)] [.int (1 : Int32), .int x1] zc ky_X11_voice kz_X11_voice km_11_481 (c_m_voice l hw) (mPreV0 hK hM) rfl rfl hl.1 (Nat.le_of_ble_eq_true rfl) ⟨rfl, rfl⟩ ⟨Nat.le_of_ble_eq_true rfl, Nat.le_of_ble_eq_true rfl⟩ ⟨(Nat.zero_le _), (Nat.zero_le _)⟩ dX11_fall_40 (fun r_1 hw => ?_)
  refine lv_ishl hx hb dX11_fall_43 ?_
  refine lv_ior hx hb dX11_fall_44 ?_
  refine lv_topi (fun v_2 ev_2 => ?_)
  have hw := hw v_2 ev_2
  refine lv_istore_n (lv' := [(1, .int v_2), (2, .int v_1), (0, .ref q), (3, .int x3)]) hx hb dX11_fall_45 rfl hl (by decide) rfl (fun ls hl => ?_)
  obtain ⟨v_3, ev_3⟩ : ∃ y : Int32, y = x3 + (1 : Int32) := ⟨_, rfl⟩
  have hw := hw v_3 ev_3
  refine lv_iinc (v := v_3) (k := 3) (lv' := [(3, .int v_3), (1, .int v_2), (2, .int v_1), (0, .ref q)]) hx hb dX11_fall_46 hl rfl (by rw [ev_3]; rfl) (by decide) rfl (fun ls hl => ?_)
  refine lv_goto (tgt := 6) hx hb dX11_fall_49 (by decide) ?_
  exact hP6 _ _ _ _ hw (lv_sub hl [3, 1, 2, 0] rfl)
set_option maxRecDepth 20000 in
theorem t_m_fall_6 {p : Program} {l : Launch} {e : Env} {s : State} {m : MethodId} {args : Array Value} {below : List Frame} {meth : Method} {c : Code} {E : zE} {q : Nat} {f_code : Int32} {a_tape : Nat → Int32} {a_size : Nat → Int32} {a_fault : Nat → Int32} {a_faultPlace : Nat → Int32} {a_many : Nat → Int32} {a_lands : Nat → Int32} {a_evenings : Nat → Int32} {a_sights : Nat → Int32} {a_choirs : Nat → Int32} {f_reached : Int32} {f_length : Int32} {f_begins : Int32} {f_sort : Int32} {f_value : Int32} {f_word : Int64} {f_wrongAt : Int32} {f_laterFault : Int32} {f_laterPlace : Int32} {a_told : Nat → Int32} {a_read : Nat → Int32} {f_farHut : Int32} {f_farSinger : Int32} {f_good : Int32} {f_land : Int32} {f_huts : Int32} {f_singers : Int32} {f_evening : Int32} {a_at : Nat → Int32} {a_knows : Nat → Int32} {a_climbed : Nat → Int32} {a_snow : Nat → Int32} {a_level : Nat → Int32} {f_begun : Int32} {f_minute : Int32} {f_avalanches : Int32} {a_run : Nat → Int32} {a_covers : Nat → Int32} {a_routes : Nat → Int32} {a_longest : Nat → Int32} {a_steep : Nat → Int32} {a_laid : Nat → Int32} {a_far : Nat → Int32} {f_sight : Int32} {a_runs : Nat → Int32} {f_choir : Int32} {f_voices : Int32} {a_rest : Nat → Int64} {a_wins : Nat → Int32} {f_seed : Int32} {a_other : Nat → Int32} {a_kept : Nat → Int32} {post : Int32 → Prop} {x1 : Int32} {x2 : Int32} {x3 : Int32} {ls : Array Slot}
    (zc : zC p s m args meth c cX11_fall 4 RX11 (some .int))
    (hK : zK E s)
    (hM : mW E q f_code a_tape a_size a_fault a_faultPlace a_many a_lands a_evenings a_sights a_choirs f_reached f_length f_begins f_sort f_value f_word f_wrongAt f_laterFault f_laterPlace a_told a_read f_farHut f_farSinger f_good f_land f_huts f_singers f_evening a_at a_knows a_climbed a_snow a_level f_begun f_minute f_avalanches a_run a_covers a_routes a_longest a_steep a_laid a_far f_sight a_runs f_choir f_voices a_rest a_wins f_seed a_other a_kept s.heap)
    (hl : lv_has ls 4 [(0, .ref q), (1, .int x1), (2, .int x2), (3, .int x3)])
    (hw : q_m_fall_6 a_choirs f_choir f_voices x1 x2 x3 post) :
    W p l e rm_m_fall s m args below meth c s.heap [] 0 0 (MQ below (vp_Si post) args s 0 0 (fun _ => False)) (F0 m 6 ls []) := by
  have hx := zc.1
  have hb := zc.2.1
  refine hw (fun x1 x2 x3 => ∀ (ls : Array Slot), lv_has ls 4 [(0, .ref q), (1, .int x1), (2, .int x2), (3, .int x3)] → W p l e rm_m_fall s m args below meth c s.heap [] 0 0 (MQ below (vp_Si post) args s 0 0 (fun _ => False)) (F0 m 6 ls [])) ?_ _ hl
  intro x1 x2 x3 hw ls hl
  refine lv_iload_n hx hb dX11_fall_6 rfl (lv_at hl 3 rfl) ?_
  refine lv_aload_n hx hb dX11_fall_7 rfl (lv_at hl 0 rfl) ?_
  refine mg_11_478_0 zc hK hM dX11_fall_8 ?_
  refine lv_icmp_ge (tgt := 52) hx hb dX11_fall_11 (by decide) (fun hc => ?_) (fun hc => ?_)
  · have hw := hw.1 hc
    refine lv_iload_n hx hb dX11_fall_52 rfl (lv_at hl 2 rfl) ?_
    exact zret_i zc hw dX11_fall_53
  · have hw := hw.2 hc
    refine lv_iload_n hx hb dX11_fall_14 rfl (lv_at hl 2 rfl) ?_
    refine lv_iload_n hx hb dX11_fall_15 rfl (lv_at hl 1 rfl) ?_
    refine lv_aload_n hx hb dX11_fall_16 rfl (lv_at hl 0 rfl) ?_
    refine lv_iload_n hx hb dX11_fall_17 rfl (lv_at hl 3 rfl) ?_
    refine lv_iconst (v := (1 : Int32)) hx hb dX11_fall_18 (by decide) ?_
    refine zV_i [.int x3, .int (1 : Int32)] [.int x1, .int x2] zc ky_X11_voice kz_X11_voice km_11_481 (c_m_voice l hw) (mPreV0 hK hM) rfl rfl hl.1 (Nat.le_of_ble_eq_true rfl) ⟨rfl, rfl⟩ ⟨Nat.le_of_ble_eq_true rfl, Nat.le_of_ble_eq_true rfl⟩ ⟨(Nat.zero_le _), (Nat.zero_le _)⟩ dX11_fall_19 (fun r_1 hw => ?_)
    refine zS_i [.int x1, .int r_1] [.int x2] zc ky_X11_has kz_X11_has km_11_101 (c_m_has l hw) (zPre0 _) rfl rfl hl.1 (Nat.le_of_ble_eq_true rfl) ⟨rfl, rfl⟩ ⟨Nat.le_of_ble_eq_true rfl, Nat.le_of_ble_eq_true rfl⟩ ⟨(Nat.zero_le _), (Nat.zero_le _)⟩ dX11_fall_22 (fun r_2 hw => ?_)
    refine lv_if_eq (tgt := 32) hx hb dX11_fall_25 (by decide) (fun hc => ?_) (fun hc => ?_)
    · have hw := hw.1 hc
      refine lv_iconst (v := (1 : Int32)) hx hb dX11_fall_32 (by decide) ?_
      exact t_m_fall_33 zc hK hM (fun _ _ _ ls h hl => h ls hl) (lv_sub hl [0, 1, 3] rfl) hw
    · have hw := hw.2 hc
      refine lv_iconst (v := (0 : Int32)) hx hb dX11_fall_28 (by decide) ?_
      refine lv_goto (tgt := 33) hx hb dX11_fall_29 (by decide) ?_
      exact t_m_fall_33 zc hK hM (fun _ _ _ ls h hl => h ls hl) (lv_sub hl [0, 1, 3] rfl) hw
set_option maxRecDepth 20000 in
theorem t_m_fall_0 {p : Program} {l : Launch} {e : Env} {s : State} {m : MethodId} {args : Array Value} {below : List Frame} {meth : Method} {c : Code} {E : zE} {q : Nat} {f_code : Int32} {a_tape : Nat → Int32} {a_size : Nat → Int32} {a_fault : Nat → Int32} {a_faultPlace : Nat → Int32} {a_many : Nat → Int32} {a_lands : Nat → Int32} {a_evenings : Nat → Int32} {a_sights : Nat → Int32} {a_choirs : Nat → Int32} {f_reached : Int32} {f_length : Int32} {f_begins : Int32} {f_sort : Int32} {f_value : Int32} {f_word : Int64} {f_wrongAt : Int32} {f_laterFault : Int32} {f_laterPlace : Int32} {a_told : Nat → Int32} {a_read : Nat → Int32} {f_farHut : Int32} {f_farSinger : Int32} {f_good : Int32} {f_land : Int32} {f_huts : Int32} {f_singers : Int32} {f_evening : Int32} {a_at : Nat → Int32} {a_knows : Nat → Int32} {a_climbed : Nat → Int32} {a_snow : Nat → Int32} {a_level : Nat → Int32} {f_begun : Int32} {f_minute : Int32} {f_avalanches : Int32} {a_run : Nat → Int32} {a_covers : Nat → Int32} {a_routes : Nat → Int32} {a_longest : Nat → Int32} {a_steep : Nat → Int32} {a_laid : Nat → Int32} {a_far : Nat → Int32} {f_sight : Int32} {a_runs : Nat → Int32} {f_choir : Int32} {f_voices : Int32} {a_rest : Nat → Int64} {a_wins : Nat → Int32} {f_seed : Int32} {a_other : Nat → Int32} {a_kept : Nat → Int32} {post : Int32 → Prop} {ls : Array Slot}
    (zc : zC p s m args meth c cX11_fall 4 RX11 (some .int))
    (hK : zK E s)
    (hM : mW E q f_code a_tape a_size a_fault a_faultPlace a_many a_lands a_evenings a_sights a_choirs f_reached f_length f_begins f_sort f_value f_word f_wrongAt f_laterFault f_laterPlace a_told a_read f_farHut f_farSinger f_good f_land f_huts f_singers f_evening a_at a_knows a_climbed a_snow a_level f_begun f_minute f_avalanches a_run a_covers a_routes a_longest a_steep a_laid a_far f_sight a_runs f_choir f_voices a_rest a_wins f_seed a_other a_kept s.heap)
    (hl : lv_has ls 4 [(0, .ref q)])
    (hw : q_m_fall_0 a_choirs f_choir f_voices post) :
    W p l e rm_m_fall s m args below meth c s.heap [] 0 0 (MQ below (vp_Si post) args s 0 0 (fun _ => False)) (F0 m 0 ls []) := by
  have hx := zc.1
  have hb := zc.2.1
  refine lv_iconst (v := (0 : Int32)) hx hb dX11_fall_0 (by decide) ?_
  refine lv_istore_n (lv' := [(1, .int (0 : Int32)), (0, .ref q)]) hx hb dX11_fall_1 rfl hl (by decide) rfl (fun ls hl => ?_)
  refine lv_iconst (v := (0 : Int32)) hx hb dX11_fall_2 (by decide) ?_
  refine lv_istore_n (lv' := [(2, .int (0 : Int32)), (1, .int (0 : Int32)), (0, .ref q)]) hx hb dX11_fall_3 rfl hl (by decide) rfl (fun ls hl => ?_)
  refine lv_iconst (v := (0 : Int32)) hx hb dX11_fall_4 (by decide) ?_
  refine lv_istore_n (lv' := [(3, .int (0 : Int32)), (2, .int (0 : Int32)), (1, .int (0 : Int32)), (0, .ref q)]) hx hb dX11_fall_5 rfl hl (by decide) rfl (fun ls hl => ?_)
  exact t_m_fall_6 zc hK hM  (lv_sub hl [3, 2, 1, 0] rfl) hw
set_option maxRecDepth 20000 in
theorem c_m_fall (l : Launch) {E : zE} {q : Nat} {f_code : Int32} {a_tape : Nat → Int32} {a_size : Nat → Int32} {a_fault : Nat → Int32} {a_faultPlace : Nat → Int32} {a_many : Nat → Int32} {a_lands : Nat → Int32} {a_evenings : Nat → Int32} {a_sights : Nat → Int32} {a_choirs : Nat → Int32} {f_reached : Int32} {f_length : Int32} {f_begins : Int32} {f_sort : Int32} {f_value : Int32} {f_word : Int64} {f_wrongAt : Int32} {f_laterFault : Int32} {f_laterPlace : Int32} {a_told : Nat → Int32} {a_read : Nat → Int32} {f_farHut : Int32} {f_farSinger : Int32} {f_good : Int32} {f_land : Int32} {f_huts : Int32} {f_singers : Int32} {f_evening : Int32} {a_at : Nat → Int32} {a_knows : Nat → Int32} {a_climbed : Nat → Int32} {a_snow : Nat → Int32} {a_level : Nat → Int32} {f_begun : Int32} {f_minute : Int32} {f_avalanches : Int32} {a_run : Nat → Int32} {a_covers : Nat → Int32} {a_routes : Nat → Int32} {a_longest : Nat → Int32} {a_steep : Nat → Int32} {a_laid : Nat → Int32} {a_far : Nat → Int32} {f_sight : Int32} {a_runs : Nat → Int32} {f_choir : Int32} {f_voices : Int32} {a_rest : Nat → Int64} {a_wins : Nat → Int32} {f_seed : Int32} {a_other : Nat → Int32} {a_kept : Nat → Int32} {post : Int32 → Prop} (hw : q_m_fall_0 a_choirs f_choir f_voices post) : Met l yX11_fall (Cond.code yX11_fall cX11_fall 4 (some .int) :: zb) rm_m_fall (va_Pc [.ref q] (fun U => mW E q f_code a_tape a_size a_fault a_faultPlace a_many a_lands a_evenings a_sights a_choirs f_reached f_length f_begins f_sort f_value f_word f_wrongAt f_laterFault f_laterPlace a_told a_read f_farHut f_farSinger f_good f_land f_huts f_singers f_evening a_at a_knows a_climbed a_snow a_level f_begun f_minute f_avalanches a_run a_covers a_routes a_longest a_steep a_laid a_far f_sight a_runs f_choir f_voices a_rest a_wins f_seed a_other a_kept U.heap ∧ zK E U)) (vp_Si post) 0 0 (fun _ => False) := by
  refine Met.ofW (cc := cX11_fall) (maxL := 4) (ret := (some .int)) (by decide) rfl ?_
  intro p e s m args below meth c s₁ B hml hv
  obtain ⟨rfl, hM, hK⟩ := hv
  have zc := zc_of B hml
  have hl := lv_entry ([.ref q]) (n := 4) (Nat.le_of_ble_eq_true rfl)
  rw [lg_entry_eq]
  generalize (lg_sl ([.ref q]) ++ List.replicate (4 - (lg_sl ([.ref q])).length) Slot.unset).toArray = ls at hl ⊢
  have hl : lv_has ls 4 [(0, .ref q)] := hl
  exact t_m_fall_0 zc hK hM (lv_sub hl [0] rfl) hw
-- m_choir
abbrev rm_m_choir : Room := { frames := 4, cells := 0, slots := 0, locals := 93 }
def q_m_choir_0 (f_code : Int32) (a_many : Nat → Int32) (a_choirs : Nat → Int32) (f_choir : Int32) (f_voices : Int32) (a_rest : Nat → Int64) (x1 : Int32) (x2 : Int32) (post : Int32 → (Int32) → (Int32) → (Int32) → (Nat → Int64) → Prop) : Prop :=
  q_m_hasChoir_0 a_many a_choirs f_choir f_voices x1 (fun r_1 f_choir_1 f_voices_1 => (¬ r_1 = 0 → (q_m_in_0 x2 (10 : Int32) ((9 : Int32) + f_voices_1) (fun r_2 => (r_2 = 0 → (q_m_in_0 x2 (20 : Int32) ((19 : Int32) + f_voices_1) (fun r_3 => (r_3 = 0 → ((¬ x2 = 0 → ((¬ x2 = (1 : Int32) → ((¬ x2 = (2 : Int32) → ((¬ x2 = (3 : Int32) → (post (-1 : Int32) (0 : Int32) f_choir_1 f_voices_1 a_rest)) ∧ (x2 = (3 : Int32) → (q_m_fall_0 a_choirs f_choir_1 f_voices_1 (fun r_4 => post r_4 (0 : Int32) f_choir_1 f_voices_1 a_rest))))) ∧ (x2 = (2 : Int32) → (q_m_leastStep_0 a_choirs f_choir_1 f_voices_1 a_rest (fun r_5 a_rest_1 => post r_5 (0 : Int32) f_choir_1 f_voices_1 a_rest_1))))) ∧ (x2 = (1 : Int32) → (q_m_stepOf_0 a_choirs f_choir_1 (fun r_6 => post r_6 (0 : Int32) f_choir_1 f_voices_1 a_rest))))) ∧ (x2 = 0 → (post f_voices_1 (0 : Int32) f_choir_1 f_voices_1 a_rest)))) ∧ (¬ r_3 = 0 → (q_m_voice_0 a_choirs f_choir_1 (x2 - (20 : Int32)) (1 : Int32) (fun r_7 => post r_7 (0 : Int32) f_choir_1 f_voices_1 a_rest)))))) ∧ (¬ r_2 = 0 → (q_m_voice_0 a_choirs f_choir_1 (x2 - (10 : Int32)) (0 : Int32) (fun r_8 => post r_8 (0 : Int32) f_choir_1 f_voices_1 a_rest)))))) ∧ (r_1 = 0 → (post (-1 : Int32) (0 : Int32) f_choir_1 f_voices_1 a_rest)))
set_option maxRecDepth 20000 in
theorem t_m_choir_0 {p : Program} {l : Launch} {e : Env} {s : State} {m : MethodId} {args : Array Value} {below : List Frame} {meth : Method} {c : Code} {E : zE} {q : Nat} {f_code : Int32} {a_tape : Nat → Int32} {a_size : Nat → Int32} {a_fault : Nat → Int32} {a_faultPlace : Nat → Int32} {a_many : Nat → Int32} {a_lands : Nat → Int32} {a_evenings : Nat → Int32} {a_sights : Nat → Int32} {a_choirs : Nat → Int32} {f_reached : Int32} {f_length : Int32} {f_begins : Int32} {f_sort : Int32} {f_value : Int32} {f_word : Int64} {f_wrongAt : Int32} {f_laterFault : Int32} {f_laterPlace : Int32} {a_told : Nat → Int32} {a_read : Nat → Int32} {f_farHut : Int32} {f_farSinger : Int32} {f_good : Int32} {f_land : Int32} {f_huts : Int32} {f_singers : Int32} {f_evening : Int32} {a_at : Nat → Int32} {a_knows : Nat → Int32} {a_climbed : Nat → Int32} {a_snow : Nat → Int32} {a_level : Nat → Int32} {f_begun : Int32} {f_minute : Int32} {f_avalanches : Int32} {a_run : Nat → Int32} {a_covers : Nat → Int32} {a_routes : Nat → Int32} {a_longest : Nat → Int32} {a_steep : Nat → Int32} {a_laid : Nat → Int32} {a_far : Nat → Int32} {f_sight : Int32} {a_runs : Nat → Int32} {f_choir : Int32} {f_voices : Int32} {a_rest : Nat → Int64} {a_wins : Nat → Int32} {f_seed : Int32} {a_other : Nat → Int32} {a_kept : Nat → Int32} {post : Int32 → (Int32) → (Int32) → (Int32) → (Nat → Int64) → Prop} {x1 : Int32} {x2 : Int32} {ls : Array Slot} {H : Heap} {locs : List Loc}
    (zc : zC p s m args meth c cX11_choir 3 RX11 (some .int))
    (hK : zK E s)
    (hM : mW E q f_code a_tape a_size a_fault a_faultPlace a_many a_lands a_evenings a_sights a_choirs f_reached f_length f_begins f_sort f_value f_word f_wrongAt f_laterFault f_laterPlace a_told a_read f_farHut f_farSinger f_good f_land f_huts f_singers f_evening a_at a_knows a_climbed a_snow a_level f_begun f_minute f_avalanches a_run a_covers a_routes a_longest a_steep a_laid a_far f_sight a_runs f_choir f_voices a_rest a_wins f_seed a_other a_kept H)
    (hS : va_S (mA q) s.heap H locs)
    (hl : lv_has ls 3 [(0, .ref q), (1, .int x1), (2, .int x2)])
    (hw : q_m_choir_0 f_code a_many a_choirs f_choir f_voices a_rest x1 x2 post) :
    W p l e rm_m_choir s m args below meth c H locs 0 0 (MQ below (zQi (S := (Int32) × (Int32) × (Int32) × (Nat → Int64)) (fun r u => post r u.1 u.2.1 u.2.2.1 u.2.2.2) (fun u H => mW E q u.1 a_tape a_size a_fault a_faultPlace a_many a_lands a_evenings a_sights a_choirs f_reached f_length f_begins f_sort f_value f_word f_wrongAt f_laterFault f_laterPlace a_told a_read f_farHut f_farSinger f_good f_land f_huts f_singers f_evening a_at a_knows a_climbed a_snow a_level f_begun f_minute f_avalanches a_run a_covers a_routes a_longest a_steep a_laid a_far f_sight a_runs u.2.1 u.2.2.1 u.2.2.2 a_wins f_seed a_other a_kept H) (mA q)) args s 0 0 (mA q)) (F0 m 0 ls []) := by
  have hx := zc.1
  have hb := zc.2.1
  refine lv_aload_n hx hb dX11_choir_0 rfl (lv_at hl 0 rfl) ?_
  refine lv_iconst (v := (0 : Int32)) hx hb dX11_choir_1 (by decide) ?_
  refine mp_11_97_0 zc hK hM hS dX11_choir_2 (fun H locs hM hS => ?_)
  refine lv_aload_n hx hb dX11_choir_5 rfl (lv_at hl 0 rfl) ?_
  refine lv_iload_n hx hb dX11_choir_6 rfl (lv_at hl 1 rfl) ?_
  refine zVw_i [.int x1] [] zc ky_X11_hasChoir kz_X11_hasChoir km_11_491 (c_m_hasChoir l hw) (mPreV0 hK hM) hS rfl rfl hl.1 (Nat.le_of_ble_eq_true rfl) ⟨rfl, rfl⟩ ⟨Nat.le_of_ble_eq_true rfl, Nat.le_of_ble_eq_true rfl⟩ ⟨(Nat.zero_le _), (Nat.zero_le _)⟩ dX11_choir_7 (fun r_1 u H locs hw hM hS => ?_)
  obtain ⟨f_choir_1, f_voices_1⟩ := u
  refine lv_if_ne (tgt := 15) hx hb dX11_choir_10 (by decide) (fun hc => ?_) (fun hc => ?_)
  · have hw := hw.1 hc
    refine lv_iload_n hx hb dX11_choir_15 rfl (lv_at hl 2 rfl) ?_
    refine lv_bipush (v := (10 : Int32)) hx hb dX11_choir_16 (by decide) ?_
    refine lv_bipush (v := (9 : Int32)) hx hb dX11_choir_18 (by decide) ?_
    refine lv_aload_n hx hb dX11_choir_20 rfl (lv_at hl 0 rfl) ?_
    refine mg_11_478_0 zc hK hM dX11_choir_21 ?_
    refine lv_iadd hx hb dX11_choir_24 ?_
    refine zS_i [.int x2, .int (10 : Int32), .int ((9 : Int32) + f_voices_1)] [] zc ky_X11_in kz_X11_in km_11_109 (c_m_in l hw) (zPre0 _) rfl rfl hl.1 (Nat.le_of_ble_eq_true rfl) ⟨rfl, rfl⟩ ⟨Nat.le_of_ble_eq_true rfl, Nat.le_of_ble_eq_true rfl⟩ ⟨(Nat.zero_le _), (Nat.zero_le _)⟩ dX11_choir_25 (fun r_2 hw => ?_)
    refine lv_if_eq (tgt := 41) hx hb dX11_choir_28 (by decide) (fun hc => ?_) (fun hc => ?_)
    · have hw := hw.1 hc
      refine lv_iload_n hx hb dX11_choir_41 rfl (lv_at hl 2 rfl) ?_
      refine lv_bipush (v := (20 : Int32)) hx hb dX11_choir_42 (by decide) ?_
      refine lv_bipush (v := (19 : Int32)) hx hb dX11_choir_44 (by decide) ?_
      refine lv_aload_n hx hb dX11_choir_46 rfl (lv_at hl 0 rfl) ?_
      refine mg_11_478_0 zc hK hM dX11_choir_47 ?_
      refine lv_iadd hx hb dX11_choir_50 ?_
      refine zS_i [.int x2, .int (20 : Int32), .int ((19 : Int32) + f_voices_1)] [] zc ky_X11_in kz_X11_in km_11_109 (c_m_in l hw) (zPre0 _) rfl rfl hl.1 (Nat.le_of_ble_eq_true rfl) ⟨rfl, rfl⟩ ⟨Nat.le_of_ble_eq_true rfl, Nat.le_of_ble_eq_true rfl⟩ ⟨(Nat.zero_le _), (Nat.zero_le _)⟩ dX11_choir_51 (fun r_3 hw => ?_)
      refine lv_if_eq (tgt := 67) hx hb dX11_choir_54 (by decide) (fun hc => ?_) (fun hc => ?_)
      · have hw := hw.1 hc
        refine lv_iload_n hx hb dX11_choir_67 rfl (lv_at hl 2 rfl) ?_
        refine lv_if_ne (tgt := 78) hx hb dX11_choir_68 (by decide) (fun hc => ?_) (fun hc => ?_)
        · have hw := hw.1 hc
          refine lv_iload_n hx hb dX11_choir_78 rfl (lv_at hl 2 rfl) ?_
          refine lv_iconst (v := (1 : Int32)) hx hb dX11_choir_79 (by decide) ?_
          refine lv_icmp_ne (tgt := 90) hx hb dX11_choir_80 (by decide) (fun hc => ?_) (fun hc => ?_)
          · have hw := hw.1 hc
            refine lv_iload_n hx hb dX11_choir_90 rfl (lv_at hl 2 rfl) ?_
            refine lv_iconst (v := (2 : Int32)) hx hb dX11_choir_91 (by decide) ?_
            refine lv_icmp_ne (tgt := 102) hx hb dX11_choir_92 (by decide) (fun hc => ?_) (fun hc => ?_)
            · have hw := hw.1 hc
              refine lv_iload_n hx hb dX11_choir_102 rfl (lv_at hl 2 rfl) ?_
              refine lv_iconst (v := (3 : Int32)) hx hb dX11_choir_103 (by decide) ?_
              refine lv_icmp_ne (tgt := 114) hx hb dX11_choir_104 (by decide) (fun hc => ?_) (fun hc => ?_)
              · have hw := hw.1 hc
                refine lv_iconst (v := (-1 : Int32)) hx hb dX11_choir_114 (by decide) ?_
                exact zret_iw ⟨(0 : Int32), f_choir_1, f_voices_1, a_rest⟩ zc hS hw hM dX11_choir_115
              · have hw := hw.2 hc
                refine lv_aload_n hx hb dX11_choir_107 rfl (lv_at hl 0 rfl) ?_
                refine zV_i [] [] zc ky_X11_fall kz_X11_fall km_11_500 (c_m_fall l hw) (mPreV0 hK hM) rfl rfl hl.1 (Nat.le_of_ble_eq_true rfl) ⟨rfl, rfl⟩ ⟨Nat.le_of_ble_eq_true rfl, Nat.le_of_ble_eq_true rfl⟩ ⟨(Nat.zero_le _), (Nat.zero_le _)⟩ dX11_choir_108 (fun r_4 hw => ?_)
                refine lv_goto (tgt := 115) hx hb dX11_choir_111 (by decide) ?_
                exact zret_iw ⟨(0 : Int32), f_choir_1, f_voices_1, a_rest⟩ zc hS hw hM dX11_choir_115
            · have hw := hw.2 hc
              refine lv_aload_n hx hb dX11_choir_95 rfl (lv_at hl 0 rfl) ?_
              refine zVw_i [] [] zc ky_X11_leastStep kz_X11_leastStep km_11_497 (c_m_leastStep l hw) (mPreV0 hK hM) hS rfl rfl hl.1 (Nat.le_of_ble_eq_true rfl) ⟨rfl, rfl⟩ ⟨Nat.le_of_ble_eq_true rfl, Nat.le_of_ble_eq_true rfl⟩ ⟨(Nat.zero_le _), (Nat.zero_le _)⟩ dX11_choir_96 (fun r_5 a_rest_1 H locs hw hM hS => ?_)
              refine lv_goto (tgt := 115) hx hb dX11_choir_99 (by decide) ?_
              exact zret_iw ⟨(0 : Int32), f_choir_1, f_voices_1, a_rest_1⟩ zc hS hw hM dX11_choir_115
          · have hw := hw.2 hc
            refine lv_aload_n hx hb dX11_choir_83 rfl (lv_at hl 0 rfl) ?_
            refine zV_i [] [] zc ky_X11_stepOf kz_X11_stepOf km_11_494 (c_m_stepOf l hw) (mPreV0 hK hM) rfl rfl hl.1 (Nat.le_of_ble_eq_true rfl) ⟨rfl, rfl⟩ ⟨Nat.le_of_ble_eq_true rfl, Nat.le_of_ble_eq_true rfl⟩ ⟨(Nat.zero_le _), (Nat.zero_le _)⟩ dX11_choir_84 (fun r_6 hw => ?_)
            refine lv_goto (tgt := 115) hx hb dX11_choir_87 (by decide) ?_
            exact zret_iw ⟨(0 : Int32), f_choir_1, f_voices_1, a_rest⟩ zc hS hw hM dX11_choir_115
        · have hw := hw.2 hc
          refine lv_aload_n hx hb dX11_choir_71 rfl (lv_at hl 0 rfl) ?_
          refine mg_11_478_0 zc hK hM dX11_choir_72 ?_
          refine lv_goto (tgt := 115) hx hb dX11_choir_75 (by decide) ?_
          exact zret_iw ⟨(0 : Int32), f_choir_1, f_voices_1, a_rest⟩ zc hS hw hM dX11_choir_115
      · have hw := hw.2 hc
        refine lv_aload_n hx hb dX11_choir_57 rfl (lv_at hl 0 rfl) ?_
        refine lv_iload_n hx hb dX11_choir_58 rfl (lv_at hl 2 rfl) ?_
        refine lv_bipush (v := (20 : Int32)) hx hb dX11_choir_59 (by decide) ?_
        refine lv_isub hx hb dX11_choir_61 ?_
        refine lv_iconst (v := (1 : Int32)) hx hb dX11_choir_62 (by decide) ?_
        refine zV_i [.int (x2 - (20 : Int32)), .int (1 : Int32)] [] zc ky_X11_voice kz_X11_voice km_11_481 (c_m_voice l hw) (mPreV0 hK hM) rfl rfl hl.1 (Nat.le_of_ble_eq_true rfl) ⟨rfl, rfl⟩ ⟨Nat.le_of_ble_eq_true rfl, Nat.le_of_ble_eq_true rfl⟩ ⟨(Nat.zero_le _), (Nat.zero_le _)⟩ dX11_choir_63 (fun r_7 hw => ?_)
        exact zret_iw ⟨(0 : Int32), f_choir_1, f_voices_1, a_rest⟩ zc hS hw hM dX11_choir_66
    · have hw := hw.2 hc
      refine lv_aload_n hx hb dX11_choir_31 rfl (lv_at hl 0 rfl) ?_
      refine lv_iload_n hx hb dX11_choir_32 rfl (lv_at hl 2 rfl) ?_
      refine lv_bipush (v := (10 : Int32)) hx hb dX11_choir_33 (by decide) ?_
      refine lv_isub hx hb dX11_choir_35 ?_
      refine lv_iconst (v := (0 : Int32)) hx hb dX11_choir_36 (by decide) ?_
      refine zV_i [.int (x2 - (10 : Int32)), .int (0 : Int32)] [] zc ky_X11_voice kz_X11_voice km_11_481 (c_m_voice l hw) (mPreV0 hK hM) rfl rfl hl.1 (Nat.le_of_ble_eq_true rfl) ⟨rfl, rfl⟩ ⟨Nat.le_of_ble_eq_true rfl, Nat.le_of_ble_eq_true rfl⟩ ⟨(Nat.zero_le _), (Nat.zero_le _)⟩ dX11_choir_37 (fun r_8 hw => ?_)
      exact zret_iw ⟨(0 : Int32), f_choir_1, f_voices_1, a_rest⟩ zc hS hw hM dX11_choir_40
  · have hw := hw.2 hc
    refine lv_iconst (v := (-1 : Int32)) hx hb dX11_choir_13 (by decide) ?_
    exact zret_iw ⟨(0 : Int32), f_choir_1, f_voices_1, a_rest⟩ zc hS hw hM dX11_choir_14
set_option maxRecDepth 20000 in
theorem c_m_choir (l : Launch) {E : zE} {q : Nat} {f_code : Int32} {a_tape : Nat → Int32} {a_size : Nat → Int32} {a_fault : Nat → Int32} {a_faultPlace : Nat → Int32} {a_many : Nat → Int32} {a_lands : Nat → Int32} {a_evenings : Nat → Int32} {a_sights : Nat → Int32} {a_choirs : Nat → Int32} {f_reached : Int32} {f_length : Int32} {f_begins : Int32} {f_sort : Int32} {f_value : Int32} {f_word : Int64} {f_wrongAt : Int32} {f_laterFault : Int32} {f_laterPlace : Int32} {a_told : Nat → Int32} {a_read : Nat → Int32} {f_farHut : Int32} {f_farSinger : Int32} {f_good : Int32} {f_land : Int32} {f_huts : Int32} {f_singers : Int32} {f_evening : Int32} {a_at : Nat → Int32} {a_knows : Nat → Int32} {a_climbed : Nat → Int32} {a_snow : Nat → Int32} {a_level : Nat → Int32} {f_begun : Int32} {f_minute : Int32} {f_avalanches : Int32} {a_run : Nat → Int32} {a_covers : Nat → Int32} {a_routes : Nat → Int32} {a_longest : Nat → Int32} {a_steep : Nat → Int32} {a_laid : Nat → Int32} {a_far : Nat → Int32} {f_sight : Int32} {a_runs : Nat → Int32} {f_choir : Int32} {f_voices : Int32} {a_rest : Nat → Int64} {a_wins : Nat → Int32} {f_seed : Int32} {a_other : Nat → Int32} {a_kept : Nat → Int32} {x1 : Int32} {x2 : Int32} {post : Int32 → (Int32) → (Int32) → (Int32) → (Nat → Int64) → Prop} (hw : q_m_choir_0 f_code a_many a_choirs f_choir f_voices a_rest x1 x2 post) : Met l yX11_choir (Cond.code yX11_choir cX11_choir 3 (some .int) :: zb) rm_m_choir (va_Pc [.ref q, .int x1, .int x2] (fun U => mW E q f_code a_tape a_size a_fault a_faultPlace a_many a_lands a_evenings a_sights a_choirs f_reached f_length f_begins f_sort f_value f_word f_wrongAt f_laterFault f_laterPlace a_told a_read f_farHut f_farSinger f_good f_land f_huts f_singers f_evening a_at a_knows a_climbed a_snow a_level f_begun f_minute f_avalanches a_run a_covers a_routes a_longest a_steep a_laid a_far f_sight a_runs f_choir f_voices a_rest a_wins f_seed a_other a_kept U.heap ∧ zK E U)) (zQi (S := (Int32) × (Int32) × (Int32) × (Nat → Int64)) (fun r u => post r u.1 u.2.1 u.2.2.1 u.2.2.2) (fun u H => mW E q u.1 a_tape a_size a_fault a_faultPlace a_many a_lands a_evenings a_sights a_choirs f_reached f_length f_begins f_sort f_value f_word f_wrongAt f_laterFault f_laterPlace a_told a_read f_farHut f_farSinger f_good f_land f_huts f_singers f_evening a_at a_knows a_climbed a_snow a_level f_begun f_minute f_avalanches a_run a_covers a_routes a_longest a_steep a_laid a_far f_sight a_runs u.2.1 u.2.2.1 u.2.2.2 a_wins f_seed a_other a_kept H) (mA q)) 0 0 (mA q) := by
  refine Met.ofW (cc := cX11_choir) (maxL := 3) (ret := (some .int)) (by decide) rfl ?_
  intro p e s m args below meth c s₁ B hml hv
  obtain ⟨rfl, hM, hK⟩ := hv
  have zc := zc_of B hml
  have hl := lv_entry ([.ref q, .int x1, .int x2]) (n := 3) (Nat.le_of_ble_eq_true rfl)
  rw [lg_entry_eq]
  generalize (lg_sl ([.ref q, .int x1, .int x2]) ++ List.replicate (3 - (lg_sl ([.ref q, .int x1, .int x2])).length) Slot.unset).toArray = ls at hl ⊢
  have hl : lv_has ls 3 [(0, .ref q), (1, .int x1), (2, .int x2)] := hl
  exact t_m_choir_0 zc hK hM va_S.rf (lv_sub hl [0, 1, 2] rfl) hw
-- m_orders
abbrev rm_m_orders : Room := { frames := 3, cells := 0, slots := 0, locals := 72 }
def q_m_orders_0 (f_code : Int32) (a_many : Nat → Int32) (a_choirs : Nat → Int32) (f_choir : Int32) (f_voices : Int32) (a_rest : Nat → Int64) (x1 : Int32) (post : Int64 → (Int32) → (Int32) → (Int32) → (Nat → Int64) → Prop) : Prop :=
  q_m_hasChoir_0 a_many a_choirs f_choir f_voices x1 (fun r_1 f_choir_1 f_voices_1 => (r_1 = 0 → (post (-1 : Int64) (0 : Int32) f_choir_1 f_voices_1 a_rest)) ∧ (¬ r_1 = 0 → (q_m_stepOf_0 a_choirs f_choir_1 (fun r_2 => q_m_findRest_0 a_choirs f_choir_1 f_voices_1 a_rest r_2 (fun r_3 a_rest_1 => post r_3 (0 : Int32) f_choir_1 f_voices_1 a_rest_1)))))
set_option maxRecDepth 20000 in
theorem t_m_orders_0 {p : Program} {l : Launch} {e : Env} {s : State} {m : MethodId} {args : Array Value} {below : List Frame} {meth : Method} {c : Code} {E : zE} {q : Nat} {f_code : Int32} {a_tape : Nat → Int32} {a_size : Nat → Int32} {a_fault : Nat → Int32} {a_faultPlace : Nat → Int32} {a_many : Nat → Int32} {a_lands : Nat → Int32} {a_evenings : Nat → Int32} {a_sights : Nat → Int32} {a_choirs : Nat → Int32} {f_reached : Int32} {f_length : Int32} {f_begins : Int32} {f_sort : Int32} {f_value : Int32} {f_word : Int64} {f_wrongAt : Int32} {f_laterFault : Int32} {f_laterPlace : Int32} {a_told : Nat → Int32} {a_read : Nat → Int32} {f_farHut : Int32} {f_farSinger : Int32} {f_good : Int32} {f_land : Int32} {f_huts : Int32} {f_singers : Int32} {f_evening : Int32} {a_at : Nat → Int32} {a_knows : Nat → Int32} {a_climbed : Nat → Int32} {a_snow : Nat → Int32} {a_level : Nat → Int32} {f_begun : Int32} {f_minute : Int32} {f_avalanches : Int32} {a_run : Nat → Int32} {a_covers : Nat → Int32} {a_routes : Nat → Int32} {a_longest : Nat → Int32} {a_steep : Nat → Int32} {a_laid : Nat → Int32} {a_far : Nat → Int32} {f_sight : Int32} {a_runs : Nat → Int32} {f_choir : Int32} {f_voices : Int32} {a_rest : Nat → Int64} {a_wins : Nat → Int32} {f_seed : Int32} {a_other : Nat → Int32} {a_kept : Nat → Int32} {post : Int64 → (Int32) → (Int32) → (Int32) → (Nat → Int64) → Prop} {x1 : Int32} {ls : Array Slot} {H : Heap} {locs : List Loc}
    (zc : zC p s m args meth c cX11_orders 2 RX11 (some .long))
    (hK : zK E s)
    (hM : mW E q f_code a_tape a_size a_fault a_faultPlace a_many a_lands a_evenings a_sights a_choirs f_reached f_length f_begins f_sort f_value f_word f_wrongAt f_laterFault f_laterPlace a_told a_read f_farHut f_farSinger f_good f_land f_huts f_singers f_evening a_at a_knows a_climbed a_snow a_level f_begun f_minute f_avalanches a_run a_covers a_routes a_longest a_steep a_laid a_far f_sight a_runs f_choir f_voices a_rest a_wins f_seed a_other a_kept H)
    (hS : va_S (mA q) s.heap H locs)
    (hl : lv_has ls 2 [(0, .ref q), (1, .int x1)])
    (hw : q_m_orders_0 f_code a_many a_choirs f_choir f_voices a_rest x1 post) :
    W p l e rm_m_orders s m args below meth c H locs 0 0 (MQ below (zQl (S := (Int32) × (Int32) × (Int32) × (Nat → Int64)) (fun r u => post r u.1 u.2.1 u.2.2.1 u.2.2.2) (fun u H => mW E q u.1 a_tape a_size a_fault a_faultPlace a_many a_lands a_evenings a_sights a_choirs f_reached f_length f_begins f_sort f_value f_word f_wrongAt f_laterFault f_laterPlace a_told a_read f_farHut f_farSinger f_good f_land f_huts f_singers f_evening a_at a_knows a_climbed a_snow a_level f_begun f_minute f_avalanches a_run a_covers a_routes a_longest a_steep a_laid a_far f_sight a_runs u.2.1 u.2.2.1 u.2.2.2 a_wins f_seed a_other a_kept H) (mA q)) args s 0 0 (mA q)) (F0 m 0 ls []) := by
  have hx := zc.1
  have hb := zc.2.1
  refine lv_aload_n hx hb dX11_orders_0 rfl (lv_at hl 0 rfl) ?_
  refine lv_iconst (v := (0 : Int32)) hx hb dX11_orders_1 (by decide) ?_
  refine mp_11_97_0 zc hK hM hS dX11_orders_2 (fun H locs hM hS => ?_)
  refine lv_aload_n hx hb dX11_orders_5 rfl (lv_at hl 0 rfl) ?_
  refine lv_iload_n hx hb dX11_orders_6 rfl (lv_at hl 1 rfl) ?_
  refine zVw_i [.int x1] [] zc ky_X11_hasChoir kz_X11_hasChoir km_11_491 (c_m_hasChoir l hw) (mPreV0 hK hM) hS rfl rfl hl.1 (Nat.le_of_ble_eq_true rfl) ⟨rfl, rfl⟩ ⟨Nat.le_of_ble_eq_true rfl, Nat.le_of_ble_eq_true rfl⟩ ⟨(Nat.zero_le _), (Nat.zero_le _)⟩ dX11_orders_7 (fun r_1 u H locs hw hM hS => ?_)
  obtain ⟨f_choir_1, f_voices_1⟩ := u
  refine lv_if_eq (tgt := 24) hx hb dX11_orders_10 (by decide) (fun hc => ?_) (fun hc => ?_)
  · have hw := hw.1 hc
    refine lv_ldc2 (v := (-1 : Int64)) hx hb zc.2.2.2.1 (zc.2.2.2.2.1 _ kc_11_503) dX11_orders_24 ?_
    exact zret_lw ⟨(0 : Int32), f_choir_1, f_voices_1, a_rest⟩ zc hS hw hM dX11_orders_27
  · have hw := hw.2 hc
    refine lv_aload_n hx hb dX11_orders_13 rfl (lv_at hl 0 rfl) ?_
    refine lv_aload_n hx hb dX11_orders_14 rfl (lv_at hl 0 rfl) ?_
    refine zV_i [] [.ref q] zc ky_X11_stepOf kz_X11_stepOf km_11_494 (c_m_stepOf l hw) (mPreV0 hK hM) rfl rfl hl.1 (Nat.le_of_ble_eq_true rfl) ⟨rfl, rfl⟩ ⟨Nat.le_of_ble_eq_true rfl, Nat.le_of_ble_eq_true rfl⟩ ⟨(Nat.zero_le _), (Nat.zero_le _)⟩ dX11_orders_15 (fun r_2 hw => ?_)
    refine zVw_l [.int r_2] [] zc ky_X11_findRest kz_X11_findRest km_11_487 (c_m_findRest l hw) (mPreV0 hK hM) hS rfl rfl hl.1 (Nat.le_of_ble_eq_true rfl) ⟨rfl, rfl⟩ ⟨Nat.le_of_ble_eq_true rfl, Nat.le_of_ble_eq_true rfl⟩ ⟨(Nat.zero_le _), (Nat.zero_le _)⟩ dX11_orders_18 (fun r_3 a_rest_1 H locs hw hM hS => ?_)
    refine lv_goto (tgt := 27) hx hb dX11_orders_21 (by decide) ?_
    exact zret_lw ⟨(0 : Int32), f_choir_1, f_voices_1, a_rest_1⟩ zc hS hw hM dX11_orders_27
set_option maxRecDepth 20000 in
theorem c_m_orders (l : Launch) {E : zE} {q : Nat} {f_code : Int32} {a_tape : Nat → Int32} {a_size : Nat → Int32} {a_fault : Nat → Int32} {a_faultPlace : Nat → Int32} {a_many : Nat → Int32} {a_lands : Nat → Int32} {a_evenings : Nat → Int32} {a_sights : Nat → Int32} {a_choirs : Nat → Int32} {f_reached : Int32} {f_length : Int32} {f_begins : Int32} {f_sort : Int32} {f_value : Int32} {f_word : Int64} {f_wrongAt : Int32} {f_laterFault : Int32} {f_laterPlace : Int32} {a_told : Nat → Int32} {a_read : Nat → Int32} {f_farHut : Int32} {f_farSinger : Int32} {f_good : Int32} {f_land : Int32} {f_huts : Int32} {f_singers : Int32} {f_evening : Int32} {a_at : Nat → Int32} {a_knows : Nat → Int32} {a_climbed : Nat → Int32} {a_snow : Nat → Int32} {a_level : Nat → Int32} {f_begun : Int32} {f_minute : Int32} {f_avalanches : Int32} {a_run : Nat → Int32} {a_covers : Nat → Int32} {a_routes : Nat → Int32} {a_longest : Nat → Int32} {a_steep : Nat → Int32} {a_laid : Nat → Int32} {a_far : Nat → Int32} {f_sight : Int32} {a_runs : Nat → Int32} {f_choir : Int32} {f_voices : Int32} {a_rest : Nat → Int64} {a_wins : Nat → Int32} {f_seed : Int32} {a_other : Nat → Int32} {a_kept : Nat → Int32} {x1 : Int32} {post : Int64 → (Int32) → (Int32) → (Int32) → (Nat → Int64) → Prop} (hw : q_m_orders_0 f_code a_many a_choirs f_choir f_voices a_rest x1 post) : Met l yX11_orders (Cond.code yX11_orders cX11_orders 2 (some .long) :: zb) rm_m_orders (va_Pc [.ref q, .int x1] (fun U => mW E q f_code a_tape a_size a_fault a_faultPlace a_many a_lands a_evenings a_sights a_choirs f_reached f_length f_begins f_sort f_value f_word f_wrongAt f_laterFault f_laterPlace a_told a_read f_farHut f_farSinger f_good f_land f_huts f_singers f_evening a_at a_knows a_climbed a_snow a_level f_begun f_minute f_avalanches a_run a_covers a_routes a_longest a_steep a_laid a_far f_sight a_runs f_choir f_voices a_rest a_wins f_seed a_other a_kept U.heap ∧ zK E U)) (zQl (S := (Int32) × (Int32) × (Int32) × (Nat → Int64)) (fun r u => post r u.1 u.2.1 u.2.2.1 u.2.2.2) (fun u H => mW E q u.1 a_tape a_size a_fault a_faultPlace a_many a_lands a_evenings a_sights a_choirs f_reached f_length f_begins f_sort f_value f_word f_wrongAt f_laterFault f_laterPlace a_told a_read f_farHut f_farSinger f_good f_land f_huts f_singers f_evening a_at a_knows a_climbed a_snow a_level f_begun f_minute f_avalanches a_run a_covers a_routes a_longest a_steep a_laid a_far f_sight a_runs u.2.1 u.2.2.1 u.2.2.2 a_wins f_seed a_other a_kept H) (mA q)) 0 0 (mA q) := by
  refine Met.ofW (cc := cX11_orders) (maxL := 2) (ret := (some .long)) (by decide) rfl ?_
  intro p e s m args below meth c s₁ B hml hv
  obtain ⟨rfl, hM, hK⟩ := hv
  have zc := zc_of B hml
  have hl := lv_entry ([.ref q, .int x1]) (n := 2) (Nat.le_of_ble_eq_true rfl)
  rw [lg_entry_eq]
  generalize (lg_sl ([.ref q, .int x1]) ++ List.replicate (2 - (lg_sl ([.ref q, .int x1])).length) Slot.unset).toArray = ls at hl ⊢
  have hl : lv_has ls 2 [(0, .ref q), (1, .int x1)] := hl
  exact t_m_orders_0 zc hK hM va_S.rf (lv_sub hl [0, 1] rfl) hw
-- m_order
abbrev rm_m_order : Room := { frames := 3, cells := 0, slots := 0, locals := 72 }
def q_m_order_111 (P50 : Int32 → Int32 → Int32 → Prop) (P59 : Int32 → Prop) (f_code : Int32) (a_many : Nat → Int32) (a_choirs : Nat → Int32) (f_choir : Int32) (f_voices : Int32) (a_rest : Nat → Int64) (x2 : Int32) (x3 : Int32) (x4 : Int32) (x5 : Int32) (x6 : Int32) (post : Int32 → (Int32) → (Int32) → (Int32) → (Nat → Int64) → Prop) : Prop :=
  ∀ v_1 : Int32, v_1 = x6 + (1 : Int32) → (P59 v_1)
def q_m_order_89 (P50 : Int32 → Int32 → Int32 → Prop) (P59 : Int32 → Prop) (f_code : Int32) (a_many : Nat → Int32) (a_choirs : Nat → Int32) (f_choir : Int32) (f_voices : Int32) (a_rest : Nat → Int64) (x2 : Int32) (x3 : Int32) (x4 : Int32) (x5 : Int32) (x6 : Int32) (post : Int32 → (Int32) → (Int32) → (Int32) → (Nat → Int64) → Prop) : Prop :=
  vp_in (((9 : Int32) * (x3 ||| ((1 : Int32) <<< (x6 &&& 31)))) + x6) 4608 ∧ ((¬ (lg_cmp (a_rest (Int32.toNatClampNeg (((9 : Int32) * (x3 ||| ((1 : Int32) <<< (x6 &&& 31)))) + x6))) (0 : Int64)) = 0 → (∀ v_1 : Int32, v_1 = (x3 ||| ((1 : Int32) <<< (x6 &&& 31))) → (∀ v_2 : Int32, v_2 = x5 + (1 : Int32) → (P50 v_1 x6 v_2)))) ∧ ((lg_cmp (a_rest (Int32.toNatClampNeg (((9 : Int32) * (x3 ||| ((1 : Int32) <<< (x6 &&& 31)))) + x6))) (0 : Int64)) = 0 → (q_m_order_111 P50 P59 f_code a_many a_choirs f_choir f_voices a_rest x2 x3 x4 x5 x6 post)))
def q_m_order_59 (P50 : Int32 → Int32 → Int32 → Prop) (f_code : Int32) (a_many : Nat → Int32) (a_choirs : Nat → Int32) (f_choir : Int32) (f_voices : Int32) (a_rest : Nat → Int64) (x2 : Int32) (x3 : Int32) (x4 : Int32) (x5 : Int32) (x6 : Int32) (post : Int32 → (Int32) → (Int32) → (Int32) → (Nat → Int64) → Prop) : Prop :=
  ∀ P59 : Int32 → Prop, (∀ (x6 : Int32), (q_m_has_0 x3 x6 (fun r_1 => (¬ r_1 = 0 → (q_m_order_111 P50 P59 f_code a_many a_choirs f_choir f_voices a_rest x2 x3 x4 x5 x6 post)) ∧ (r_1 = 0 → ((x4 = (-1 : Int32) → (q_m_order_89 P50 P59 f_code a_many a_choirs f_choir f_voices a_rest x2 x3 x4 x5 x6 post)) ∧ (¬ x4 = (-1 : Int32) → (q_m_stepOf_0 a_choirs f_choir (fun r_2 => q_m_follows_0 a_choirs f_choir x4 x6 r_2 (fun r_3 => (r_3 = 0 → (q_m_order_111 P50 P59 f_code a_many a_choirs f_choir f_voices a_rest x2 x3 x4 x5 x6 post)) ∧ (¬ r_3 = 0 → (q_m_order_89 P50 P59 f_code a_many a_choirs f_choir f_voices a_rest x2 x3 x4 x5 x6 post)))))))))) → P59 x6) → P59 x6
def q_m_order_50 (f_code : Int32) (a_many : Nat → Int32) (a_choirs : Nat → Int32) (f_choir : Int32) (f_voices : Int32) (a_rest : Nat → Int64) (x2 : Int32) (x3 : Int32) (x4 : Int32) (x5 : Int32) (post : Int32 → (Int32) → (Int32) → (Int32) → (Nat → Int64) → Prop) : Prop :=
  ∀ P50 : Int32 → Int32 → Int32 → Prop, (∀ (x3 : Int32) (x4 : Int32) (x5 : Int32), ((x2 < x5 → (post x4 f_code f_choir f_voices a_rest)) ∧ (¬ x2 < x5 → (q_m_order_59 P50 f_code a_many a_choirs f_choir f_voices a_rest x2 x3 x4 x5 (0 : Int32) post))) → P50 x3 x4 x5) → P50 x3 x4 x5
def q_m_order_0 (f_code : Int32) (a_many : Nat → Int32) (a_choirs : Nat → Int32) (f_choir : Int32) (f_voices : Int32) (a_rest : Nat → Int64) (x1 : Int32) (x2 : Int32) (post : Int32 → (Int32) → (Int32) → (Int32) → (Nat → Int64) → Prop) : Prop :=
  q_m_hasChoir_0 a_many a_choirs f_choir f_voices x1 (fun r_1 f_choir_1 f_voices_1 => (r_1 = 0 → (post (-1 : Int32) (0 : Int32) f_choir_1 f_voices_1 a_rest)) ∧ (¬ r_1 = 0 → (q_m_in_0 x2 (0 : Int32) (f_voices_1 - (1 : Int32)) (fun r_2 => (r_2 = 0 → (post (-1 : Int32) (0 : Int32) f_choir_1 f_voices_1 a_rest)) ∧ (¬ r_2 = 0 → (q_m_stepOf_0 a_choirs f_choir_1 (fun r_3 => q_m_findRest_0 a_choirs f_choir_1 f_voices_1 a_rest r_3 (fun r_4 a_rest_1 => (¬ (lg_cmp r_4 (0 : Int64)) = 0 → (q_m_order_50 (0 : Int32) a_many a_choirs f_choir_1 f_voices_1 a_rest_1 x2 (0 : Int32) (-1 : Int32) (0 : Int32) post)) ∧ ((lg_cmp r_4 (0 : Int64)) = 0 → (post (-1 : Int32) (0 : Int32) f_choir_1 f_voices_1 a_rest_1))))))))))
set_option maxRecDepth 20000 in
theorem t_m_order_111 {p : Program} {l : Launch} {e : Env} {s : State} {m : MethodId} {args : Array Value} {below : List Frame} {meth : Method} {c : Code} {E : zE} {q : Nat} {f_code : Int32} {a_tape : Nat → Int32} {a_size : Nat → Int32} {a_fault : Nat → Int32} {a_faultPlace : Nat → Int32} {a_many : Nat → Int32} {a_lands : Nat → Int32} {a_evenings : Nat → Int32} {a_sights : Nat → Int32} {a_choirs : Nat → Int32} {f_reached : Int32} {f_length : Int32} {f_begins : Int32} {f_sort : Int32} {f_value : Int32} {f_word : Int64} {f_wrongAt : Int32} {f_laterFault : Int32} {f_laterPlace : Int32} {a_told : Nat → Int32} {a_read : Nat → Int32} {f_farHut : Int32} {f_farSinger : Int32} {f_good : Int32} {f_land : Int32} {f_huts : Int32} {f_singers : Int32} {f_evening : Int32} {a_at : Nat → Int32} {a_knows : Nat → Int32} {a_climbed : Nat → Int32} {a_snow : Nat → Int32} {a_level : Nat → Int32} {f_begun : Int32} {f_minute : Int32} {f_avalanches : Int32} {a_run : Nat → Int32} {a_covers : Nat → Int32} {a_routes : Nat → Int32} {a_longest : Nat → Int32} {a_steep : Nat → Int32} {a_laid : Nat → Int32} {a_far : Nat → Int32} {f_sight : Int32} {a_runs : Nat → Int32} {f_choir : Int32} {f_voices : Int32} {a_rest : Nat → Int64} {a_wins : Nat → Int32} {f_seed : Int32} {a_other : Nat → Int32} {a_kept : Nat → Int32} {P50 : Int32 → Int32 → Int32 → Prop} {P59 : Int32 → Prop} {post : Int32 → (Int32) → (Int32) → (Int32) → (Nat → Int64) → Prop} {x2 : Int32} {x3 : Int32} {x4 : Int32} {x5 : Int32} {x6 : Int32} {ls : Array Slot} {H : Heap} {locs : List Loc}
    (zc : zC p s m args meth c cX11_order 7 RX11 (some .int))
    (hK : zK E s)
    (hM : mW E q f_code a_tape a_size a_fault a_faultPlace a_many a_lands a_evenings a_sights a_choirs f_reached f_length f_begins f_sort f_value f_word f_wrongAt f_laterFault f_laterPlace a_told a_read f_farHut f_farSinger f_good f_land f_huts f_singers f_evening a_at a_knows a_climbed a_snow a_level f_begun f_minute f_avalanches a_run a_covers a_routes a_longest a_steep a_laid a_far f_sight a_runs f_choir f_voices a_rest a_wins f_seed a_other a_kept H)
    (hS : va_S (mA q) s.heap H locs)
    (hP50 : ∀ (x3 : Int32) (x4 : Int32) (x5 : Int32) (H : Heap) (locs : List Loc) (ls : Array Slot), P50 x3 x4 x5 → lv_has ls 7 [(0, .ref q), (2, .int x2), (3, .int x3), (4, .int x4), (5, .int x5)] → mW E q f_code a_tape a_size a_fault a_faultPlace a_many a_lands a_evenings a_sights a_choirs f_reached f_length f_begins f_sort f_value f_word f_wrongAt f_laterFault f_laterPlace a_told a_read f_farHut f_farSinger f_good f_land f_huts f_singers f_evening a_at a_knows a_climbed a_snow a_level f_begun f_minute f_avalanches a_run a_covers a_routes a_longest a_steep a_laid a_far f_sight a_runs f_choir f_voices a_rest a_wins f_seed a_other a_kept H → va_S (mA q) s.heap H locs → W p l e rm_m_order s m args below meth c H locs 0 0 (MQ below (zQi (S := (Int32) × (Int32) × (Int32) × (Nat → Int64)) (fun r u => post r u.1 u.2.1 u.2.2.1 u.2.2.2) (fun u H => mW E q u.1 a_tape a_size a_fault a_faultPlace a_many a_lands a_evenings a_sights a_choirs f_reached f_length f_begins f_sort f_value f_word f_wrongAt f_laterFault f_laterPlace a_told a_read f_farHut f_farSinger f_good f_land f_huts f_singers f_evening a_at a_knows a_climbed a_snow a_level f_begun f_minute f_avalanches a_run a_covers a_routes a_longest a_steep a_laid a_far f_sight a_runs u.2.1 u.2.2.1 u.2.2.2 a_wins f_seed a_other a_kept H) (mA q)) args s 0 0 (mA q)) (F0 m 50 ls []))
    (hP59 : ∀ (x6 : Int32) (H : Heap) (locs : List Loc) (ls : Array Slot), P59 x6 → lv_has ls 7 [(0, .ref q), (2, .int x2), (3, .int x3), (4, .int x4), (5, .int x5), (6, .int x6)] → mW E q f_code a_tape a_size a_fault a_faultPlace a_many a_lands a_evenings a_sights a_choirs f_reached f_length f_begins f_sort f_value f_word f_wrongAt f_laterFault f_laterPlace a_told a_read f_farHut f_farSinger f_good f_land f_huts f_singers f_evening a_at a_knows a_climbed a_snow a_level f_begun f_minute f_avalanches a_run a_covers a_routes a_longest a_steep a_laid a_far f_sight a_runs f_choir f_voices a_rest a_wins f_seed a_other a_kept H → va_S (mA q) s.heap H locs → W p l e rm_m_order s m args below meth c H locs 0 0 (MQ below (zQi (S := (Int32) × (Int32) × (Int32) × (Nat → Int64)) (fun r u => post r u.1 u.2.1 u.2.2.1 u.2.2.2) (fun u H => mW E q u.1 a_tape a_size a_fault a_faultPlace a_many a_lands a_evenings a_sights a_choirs f_reached f_length f_begins f_sort f_value f_word f_wrongAt f_laterFault f_laterPlace a_told a_read f_farHut f_farSinger f_good f_land f_huts f_singers f_evening a_at a_knows a_climbed a_snow a_level f_begun f_minute f_avalanches a_run a_covers a_routes a_longest a_steep a_laid a_far f_sight a_runs u.2.1 u.2.2.1 u.2.2.2 a_wins f_seed a_other a_kept H) (mA q)) args s 0 0 (mA q)) (F0 m 59 ls []))
    (hl : lv_has ls 7 [(0, .ref q), (2, .int x2), (3, .int x3), (4, .int x4), (5, .int x5), (6, .int x6)])
    (hw : q_m_order_111 P50 P59 f_code a_many a_choirs f_choir f_voices a_rest x2 x3 x4 x5 x6 post) :
    W p l e rm_m_order s m args below meth c H locs 0 0 (MQ below (zQi (S := (Int32) × (Int32) × (Int32) × (Nat → Int64)) (fun r u => post r u.1 u.2.1 u.2.2.1 u.2.2.2) (fun u H => mW E q u.1 a_tape a_size a_fault a_faultPlace a_many a_lands a_evenings a_sights a_choirs f_reached f_length f_begins f_sort f_value f_word f_wrongAt f_laterFault f_laterPlace a_told a_read f_farHut f_farSinger f_good f_land f_huts f_singers f_evening a_at a_knows a_climbed a_snow a_level f_begun f_minute f_avalanches a_run a_covers a_routes a_longest a_steep a_laid a_far f_sight a_runs u.2.1 u.2.2.1 u.2.2.2 a_wins f_seed a_other a_kept H) (mA q)) args s 0 0 (mA q)) (F0 m 111 ls []) := by
  have hx := zc.1
  have hb := zc.2.1
  obtain ⟨v_1, ev_1⟩ : ∃ y : Int32, y = x6 + (1 : Int32) := ⟨_, rfl⟩
  have hw := hw v_1 ev_1
  refine lv_iinc (v := v_1) (k := 5) (lv' := [(6, .int v_1), (0, .ref q), (2, .int x2), (3, .int x3), (4, .int x4), (5, .int x5)]) hx hb dX11_order_111 hl rfl (by rw [ev_1]; rfl) (by decide) rfl (fun ls hl => ?_)
  refine lv_goto (tgt := 59) hx hb dX11_order_114 (by decide) ?_
  exact hP59 _ _ _ _ hw (lv_sub hl [1, 2, 3, 4, 5, 0] rfl) hM hS
set_option maxRecDepth 20000 in
theorem t_m_order_89 {p : Program} {l : Launch} {e : Env} {s : State} {m : MethodId} {args : Array Value} {below : List Frame} {meth : Method} {c : Code} {E : zE} {q : Nat} {f_code : Int32} {a_tape : Nat → Int32} {a_size : Nat → Int32} {a_fault : Nat → Int32} {a_faultPlace : Nat → Int32} {a_many : Nat → Int32} {a_lands : Nat → Int32} {a_evenings : Nat → Int32} {a_sights : Nat → Int32} {a_choirs : Nat → Int32} {f_reached : Int32} {f_length : Int32} {f_begins : Int32} {f_sort : Int32} {f_value : Int32} {f_word : Int64} {f_wrongAt : Int32} {f_laterFault : Int32} {f_laterPlace : Int32} {a_told : Nat → Int32} {a_read : Nat → Int32} {f_farHut : Int32} {f_farSinger : Int32} {f_good : Int32} {f_land : Int32} {f_huts : Int32} {f_singers : Int32} {f_evening : Int32} {a_at : Nat → Int32} {a_knows : Nat → Int32} {a_climbed : Nat → Int32} {a_snow : Nat → Int32} {a_level : Nat → Int32} {f_begun : Int32} {f_minute : Int32} {f_avalanches : Int32} {a_run : Nat → Int32} {a_covers : Nat → Int32} {a_routes : Nat → Int32} {a_longest : Nat → Int32} {a_steep : Nat → Int32} {a_laid : Nat → Int32} {a_far : Nat → Int32} {f_sight : Int32} {a_runs : Nat → Int32} {f_choir : Int32} {f_voices : Int32} {a_rest : Nat → Int64} {a_wins : Nat → Int32} {f_seed : Int32} {a_other : Nat → Int32} {a_kept : Nat → Int32} {P50 : Int32 → Int32 → Int32 → Prop} {P59 : Int32 → Prop} {post : Int32 → (Int32) → (Int32) → (Int32) → (Nat → Int64) → Prop} {x2 : Int32} {x3 : Int32} {x4 : Int32} {x5 : Int32} {x6 : Int32} {ls : Array Slot} {H : Heap} {locs : List Loc}
    (zc : zC p s m args meth c cX11_order 7 RX11 (some .int))
    (hK : zK E s)
    (hM : mW E q f_code a_tape a_size a_fault a_faultPlace a_many a_lands a_evenings a_sights a_choirs f_reached f_length f_begins f_sort f_value f_word f_wrongAt f_laterFault f_laterPlace a_told a_read f_farHut f_farSinger f_good f_land f_huts f_singers f_evening a_at a_knows a_climbed a_snow a_level f_begun f_minute f_avalanches a_run a_covers a_routes a_longest a_steep a_laid a_far f_sight a_runs f_choir f_voices a_rest a_wins f_seed a_other a_kept H)
    (hS : va_S (mA q) s.heap H locs)
    (hP50 : ∀ (x3 : Int32) (x4 : Int32) (x5 : Int32) (H : Heap) (locs : List Loc) (ls : Array Slot), P50 x3 x4 x5 → lv_has ls 7 [(0, .ref q), (2, .int x2), (3, .int x3), (4, .int x4), (5, .int x5)] → mW E q f_code a_tape a_size a_fault a_faultPlace a_many a_lands a_evenings a_sights a_choirs f_reached f_length f_begins f_sort f_value f_word f_wrongAt f_laterFault f_laterPlace a_told a_read f_farHut f_farSinger f_good f_land f_huts f_singers f_evening a_at a_knows a_climbed a_snow a_level f_begun f_minute f_avalanches a_run a_covers a_routes a_longest a_steep a_laid a_far f_sight a_runs f_choir f_voices a_rest a_wins f_seed a_other a_kept H → va_S (mA q) s.heap H locs → W p l e rm_m_order s m args below meth c H locs 0 0 (MQ below (zQi (S := (Int32) × (Int32) × (Int32) × (Nat → Int64)) (fun r u => post r u.1 u.2.1 u.2.2.1 u.2.2.2) (fun u H => mW E q u.1 a_tape a_size a_fault a_faultPlace a_many a_lands a_evenings a_sights a_choirs f_reached f_length f_begins f_sort f_value f_word f_wrongAt f_laterFault f_laterPlace a_told a_read f_farHut f_farSinger f_good f_land f_huts f_singers f_evening a_at a_knows a_climbed a_snow a_level f_begun f_minute f_avalanches a_run a_covers a_routes a_longest a_steep a_laid a_far f_sight a_runs u.2.1 u.2.2.1 u.2.2.2 a_wins f_seed a_other a_kept H) (mA q)) args s 0 0 (mA q)) (F0 m 50 ls []))
    (hP59 : ∀ (x6 : Int32) (H : Heap) (locs : List Loc) (ls : Array Slot), P59 x6 → lv_has ls 7 [(0, .ref q), (2, .int x2), (3, .int x3), (4, .int x4), (5, .int x5), (6, .int x6)] → mW E q f_code a_tape a_size a_fault a_faultPlace a_many a_lands a_evenings a_sights a_choirs f_reached f_length f_begins f_sort f_value f_word f_wrongAt f_laterFault f_laterPlace a_told a_read f_farHut f_farSinger f_good f_land f_huts f_singers f_evening a_at a_knows a_climbed a_snow a_level f_begun f_minute f_avalanches a_run a_covers a_routes a_longest a_steep a_laid a_far f_sight a_runs f_choir f_voices a_rest a_wins f_seed a_other a_kept H → va_S (mA q) s.heap H locs → W p l e rm_m_order s m args below meth c H locs 0 0 (MQ below (zQi (S := (Int32) × (Int32) × (Int32) × (Nat → Int64)) (fun r u => post r u.1 u.2.1 u.2.2.1 u.2.2.2) (fun u H => mW E q u.1 a_tape a_size a_fault a_faultPlace a_many a_lands a_evenings a_sights a_choirs f_reached f_length f_begins f_sort f_value f_word f_wrongAt f_laterFault f_laterPlace a_told a_read f_farHut f_farSinger f_good f_land f_huts f_singers f_evening a_at a_knows a_climbed a_snow a_level f_begun f_minute f_avalanches a_run a_covers a_routes a_longest a_steep a_laid a_far f_sight a_runs u.2.1 u.2.2.1 u.2.2.2 a_wins f_seed a_other a_kept H) (mA q)) args s 0 0 (mA q)) (F0 m 59 ls []))
    (hl : lv_has ls 7 [(0, .ref q), (2, .int x2), (3, .int x3), (4, .int x4), (5, .int x5), (6, .int x6)])
    (hw : q_m_order_89 P50 P59 f_code a_many a_choirs f_choir f_voices a_rest x2 x3 x4 x5 x6 post) :
    W p l e rm_m_order s m args below meth c H locs 0 0 (MQ below (zQi (S := (Int32) × (Int32) × (Int32) × (Nat → Int64)) (fun r u => post r u.1 u.2.1 u.2.2.1 u.2.2.2) (fun u H => mW E q u.1 a_tape a_size a_fault a_faultPlace a_many a_lands a_evenings a_sights a_choirs f_reached f_length f_begins f_sort f_value f_word f_wrongAt f_laterFault f_laterPlace a_told a_read f_farHut f_farSinger f_good f_land f_huts f_singers f_evening a_at a_knows a_climbed a_snow a_level f_begun f_minute f_avalanches a_run a_covers a_routes a_longest a_steep a_laid a_far f_sight a_runs u.2.1 u.2.2.1 u.2.2.2 a_wins f_seed a_other a_kept H) (mA q)) args s 0 0 (mA q)) (F0 m 89 ls []) := by
  have hx := zc.1
  have hb := zc.2.1
  refine lv_aload_n hx hb dX11_order_89 rfl (lv_at hl 0 rfl) ?_
  refine mg_11_84_0 zc hK hM dX11_order_90 ?_
  refine lv_bipush (v := (9 : Int32)) hx hb dX11_order_93 (by decide) ?_
  refine lv_iload_n hx hb dX11_order_95 rfl (lv_at hl 2 rfl) ?_
  refine lv_iconst (v := (1 : Int32)) hx hb dX11_order_96 (by decide) ?_
  refine lv_iload hx hb dX11_order_97 (lv_at hl 5 rfl) ?_
  refine lv_ishl hx hb dX11_order_99 ?_
  refine lv_ior hx hb dX11_order_100 ?_
  refine lv_imul hx hb dX11_order_101 ?_
  refine lv_iload hx hb dX11_order_102 (lv_at hl 5 rfl) ?_
  refine lv_iadd hx hb dX11_order_104 ?_
  refine mld_25 zc hK hM hw.1 dX11_order_105 ?_
  have hw := hw.2
  refine lv_lconst (v := (0 : Int64)) hx hb dX11_order_106 (by decide) ?_
  refine W.lcmp hx hb dX11_order_107 ?_
  refine lv_if_ne (tgt := 117) hx hb dX11_order_108 (by decide) (fun hc => ?_) (fun hc => ?_)
  · have hw := hw.1 hc
    refine lv_iload hx hb dX11_order_117 (lv_at hl 5 rfl) ?_
    refine lv_istore (lv' := [(4, .int x6), (0, .ref q), (2, .int x2), (3, .int x3), (5, .int x5), (6, .int x6)]) hx hb dX11_order_119 hl (by decide) rfl (fun ls hl => ?_)
    refine lv_iload_n hx hb dX11_order_121 rfl (lv_at hl 3 rfl) ?_
    refine lv_iconst (v := (1 : Int32)) hx hb dX11_order_122 (by decide) ?_
    refine lv_iload hx hb dX11_order_123 (lv_at hl 5 rfl) ?_
    refine lv_ishl hx hb dX11_order_125 ?_
    refine lv_ior hx hb dX11_order_126 ?_
    refine lv_topi (fun v_1 ev_1 => ?_)
    have hw := hw v_1 ev_1
    refine lv_istore_n (lv' := [(3, .int v_1), (4, .int x6), (0, .ref q), (2, .int x2), (5, .int x5), (6, .int x6)]) hx hb dX11_order_127 rfl hl (by decide) rfl (fun ls hl => ?_)
    obtain ⟨v_2, ev_2⟩ : ∃ y : Int32, y = x5 + (1 : Int32) := ⟨_, rfl⟩
    have hw := hw v_2 ev_2
    refine lv_iinc (v := v_2) (k := 4) (lv' := [(5, .int v_2), (3, .int v_1), (4, .int x6), (0, .ref q), (2, .int x2), (6, .int x6)]) hx hb dX11_order_128 hl rfl (by rw [ev_2]; rfl) (by decide) rfl (fun ls hl => ?_)
    refine lv_goto (tgt := 50) hx hb dX11_order_131 (by decide) ?_
    exact hP50 _ _ _ _ _ _ hw (lv_sub hl [3, 4, 1, 2, 0] rfl) hM hS
  · have hw := hw.2 hc
    exact t_m_order_111 zc hK hM hS hP50 hP59 (lv_sub hl [0, 1, 2, 3, 4, 5] rfl) hw
set_option maxRecDepth 20000 in
theorem t_m_order_59 {p : Program} {l : Launch} {e : Env} {s : State} {m : MethodId} {args : Array Value} {below : List Frame} {meth : Method} {c : Code} {E : zE} {q : Nat} {f_code : Int32} {a_tape : Nat → Int32} {a_size : Nat → Int32} {a_fault : Nat → Int32} {a_faultPlace : Nat → Int32} {a_many : Nat → Int32} {a_lands : Nat → Int32} {a_evenings : Nat → Int32} {a_sights : Nat → Int32} {a_choirs : Nat → Int32} {f_reached : Int32} {f_length : Int32} {f_begins : Int32} {f_sort : Int32} {f_value : Int32} {f_word : Int64} {f_wrongAt : Int32} {f_laterFault : Int32} {f_laterPlace : Int32} {a_told : Nat → Int32} {a_read : Nat → Int32} {f_farHut : Int32} {f_farSinger : Int32} {f_good : Int32} {f_land : Int32} {f_huts : Int32} {f_singers : Int32} {f_evening : Int32} {a_at : Nat → Int32} {a_knows : Nat → Int32} {a_climbed : Nat → Int32} {a_snow : Nat → Int32} {a_level : Nat → Int32} {f_begun : Int32} {f_minute : Int32} {f_avalanches : Int32} {a_run : Nat → Int32} {a_covers : Nat → Int32} {a_routes : Nat → Int32} {a_longest : Nat → Int32} {a_steep : Nat → Int32} {a_laid : Nat → Int32} {a_far : Nat → Int32} {f_sight : Int32} {a_runs : Nat → Int32} {f_choir : Int32} {f_voices : Int32} {a_rest : Nat → Int64} {a_wins : Nat → Int32} {f_seed : Int32} {a_other : Nat → Int32} {a_kept : Nat → Int32} {P50 : Int32 → Int32 → Int32 → Prop} {post : Int32 → (Int32) → (Int32) → (Int32) → (Nat → Int64) → Prop} {x2 : Int32} {x3 : Int32} {x4 : Int32} {x5 : Int32} {x6 : Int32} {ls : Array Slot} {H : Heap} {locs : List Loc}
    (zc : zC p s m args meth c cX11_order 7 RX11 (some .int))
    (hK : zK E s)
    (hM : mW E q f_code a_tape a_size a_fault a_faultPlace a_many a_lands a_evenings a_sights a_choirs f_reached f_length f_begins f_sort f_value f_word f_wrongAt f_laterFault f_laterPlace a_told a_read f_farHut f_farSinger f_good f_land f_huts f_singers f_evening a_at a_knows a_climbed a_snow a_level f_begun f_minute f_avalanches a_run a_covers a_routes a_longest a_steep a_laid a_far f_sight a_runs f_choir f_voices a_rest a_wins f_seed a_other a_kept H)
    (hS : va_S (mA q) s.heap H locs)
    (hP50 : ∀ (x3 : Int32) (x4 : Int32) (x5 : Int32) (H : Heap) (locs : List Loc) (ls : Array Slot), P50 x3 x4 x5 → lv_has ls 7 [(0, .ref q), (2, .int x2), (3, .int x3), (4, .int x4), (5, .int x5)] → mW E q f_code a_tape a_size a_fault a_faultPlace a_many a_lands a_evenings a_sights a_choirs f_reached f_length f_begins f_sort f_value f_word f_wrongAt f_laterFault f_laterPlace a_told a_read f_farHut f_farSinger f_good f_land f_huts f_singers f_evening a_at a_knows a_climbed a_snow a_level f_begun f_minute f_avalanches a_run a_covers a_routes a_longest a_steep a_laid a_far f_sight a_runs f_choir f_voices a_rest a_wins f_seed a_other a_kept H → va_S (mA q) s.heap H locs → W p l e rm_m_order s m args below meth c H locs 0 0 (MQ below (zQi (S := (Int32) × (Int32) × (Int32) × (Nat → Int64)) (fun r u => post r u.1 u.2.1 u.2.2.1 u.2.2.2) (fun u H => mW E q u.1 a_tape a_size a_fault a_faultPlace a_many a_lands a_evenings a_sights a_choirs f_reached f_length f_begins f_sort f_value f_word f_wrongAt f_laterFault f_laterPlace a_told a_read f_farHut f_farSinger f_good f_land f_huts f_singers f_evening a_at a_knows a_climbed a_snow a_level f_begun f_minute f_avalanches a_run a_covers a_routes a_longest a_steep a_laid a_far f_sight a_runs u.2.1 u.2.2.1 u.2.2.2 a_wins f_seed a_other a_kept H) (mA q)) args s 0 0 (mA q)) (F0 m 50 ls []))
    (hl : lv_has ls 7 [(0, .ref q), (2, .int x2), (3, .int x3), (4, .int x4), (5, .int x5), (6, .int x6)])
    (hw : q_m_order_59 P50 f_code a_many a_choirs f_choir f_voices a_rest x2 x3 x4 x5 x6 post) :
    W p l e rm_m_order s m args below meth c H locs 0 0 (MQ below (zQi (S := (Int32) × (Int32) × (Int32) × (Nat → Int64)) (fun r u => post r u.1 u.2.1 u.2.2.1 u.2.2.2) (fun u H => mW E q u.1 a_tape a_size a_fault a_faultPlace a_many a_lands a_evenings a_sights a_choirs f_reached f_length f_begins f_sort f_value f_word f_wrongAt f_laterFault f_laterPlace a_told a_read f_farHut f_farSinger f_good f_land f_huts f_singers f_evening a_at a_knows a_climbed a_snow a_level f_begun f_minute f_avalanches a_run a_covers a_routes a_longest a_steep a_laid a_far f_sight a_runs u.2.1 u.2.2.1 u.2.2.2 a_wins f_seed a_other a_kept H) (mA q)) args s 0 0 (mA q)) (F0 m 59 ls []) := by
  have hx := zc.1
  have hb := zc.2.1
  refine hw (fun x6 => ∀ (H : Heap) (locs : List Loc) (ls : Array Slot), lv_has ls 7 [(0, .ref q), (2, .int x2), (3, .int x3), (4, .int x4), (5, .int x5), (6, .int x6)] → mW E q f_code a_tape a_size a_fault a_faultPlace a_many a_lands a_evenings a_sights a_choirs f_reached f_length f_begins f_sort f_value f_word f_wrongAt f_laterFault f_laterPlace a_told a_read f_farHut f_farSinger f_good f_land f_huts f_singers f_evening a_at a_knows a_climbed a_snow a_level f_begun f_minute f_avalanches a_run a_covers a_routes a_longest a_steep a_laid a_far f_sight a_runs f_choir f_voices a_rest a_wins f_seed a_other a_kept H → va_S (mA q) s.heap H locs → W p l e rm_m_order s m args below meth c H locs 0 0 (MQ below (zQi (S := (Int32) × (Int32) × (Int32) × (Nat → Int64)) (fun r u => post r u.1 u.2.1 u.2.2.1 u.2.2.2) (fun u H => mW E q u.1 a_tape a_size a_fault a_faultPlace a_many a_lands a_evenings a_sights a_choirs f_reached f_length f_begins f_sort f_value f_word f_wrongAt f_laterFault f_laterPlace a_told a_read f_farHut f_farSinger f_good f_land f_huts f_singers f_evening a_at a_knows a_climbed a_snow a_level f_begun f_minute f_avalanches a_run a_covers a_routes a_longest a_steep a_laid a_far f_sight a_runs u.2.1 u.2.2.1 u.2.2.2 a_wins f_seed a_other a_kept H) (mA q)) args s 0 0 (mA q)) (F0 m 59 ls [])) ?_ _ _ _ hl hM hS
  intro x6 hw H locs ls hl hM hS
  refine lv_iload_n hx hb dX11_order_59 rfl (lv_at hl 2 rfl) ?_
  refine lv_iload hx hb dX11_order_60 (lv_at hl 5 rfl) ?_
  refine zS_i [.int x3, .int x6] [] zc ky_X11_has kz_X11_has km_11_101 (c_m_has l hw) (zPre0 _) rfl rfl hl.1 (Nat.le_of_ble_eq_true rfl) ⟨rfl, rfl⟩ ⟨Nat.le_of_ble_eq_true rfl, Nat.le_of_ble_eq_true rfl⟩ ⟨(Nat.zero_le _), (Nat.zero_le _)⟩ dX11_order_62 (fun r_1 hw => ?_)
  refine lv_if_ne (tgt := 111) hx hb dX11_order_65 (by decide) (fun hc => ?_) (fun hc => ?_)
  · have hw := hw.1 hc
    exact t_m_order_111 zc hK hM hS hP50 (fun _ H locs ls h hl hM hS => h H locs ls hl hM hS) (lv_sub hl [0, 1, 2, 3, 4, 5] rfl) hw
  · have hw := hw.2 hc
    refine lv_iload hx hb dX11_order_68 (lv_at hl 3 rfl) ?_
    refine lv_iconst (v := (-1 : Int32)) hx hb dX11_order_70 (by decide) ?_
    refine lv_icmp_eq (tgt := 89) hx hb dX11_order_71 (by decide) (fun hc => ?_) (fun hc => ?_)
    · have hw := hw.1 hc
      exact t_m_order_89 zc hK hM hS hP50 (fun _ H locs ls h hl hM hS => h H locs ls hl hM hS) (lv_sub hl [0, 1, 2, 3, 4, 5] rfl) hw
    · have hw := hw.2 hc
      refine lv_aload_n hx hb dX11_order_74 rfl (lv_at hl 0 rfl) ?_
      refine lv_iload hx hb dX11_order_75 (lv_at hl 3 rfl) ?_
      refine lv_iload hx hb dX11_order_77 (lv_at hl 5 rfl) ?_
      refine lv_aload_n hx hb dX11_order_79 rfl (lv_at hl 0 rfl) ?_
      refine zV_i [] [.int x6, .int x4, .ref q] zc ky_X11_stepOf kz_X11_stepOf km_11_494 (c_m_stepOf l hw) (mPreV0 hK hM) rfl rfl hl.1 (Nat.le_of_ble_eq_true rfl) ⟨rfl, rfl⟩ ⟨Nat.le_of_ble_eq_true rfl, Nat.le_of_ble_eq_true rfl⟩ ⟨(Nat.zero_le _), (Nat.zero_le _)⟩ dX11_order_80 (fun r_2 hw => ?_)
      refine zV_i [.int x4, .int x6, .int r_2] [] zc ky_X11_follows kz_X11_follows km_11_484 (c_m_follows l hw) (mPreV0 hK hM) rfl rfl hl.1 (Nat.le_of_ble_eq_true rfl) ⟨rfl, rfl⟩ ⟨Nat.le_of_ble_eq_true rfl, Nat.le_of_ble_eq_true rfl⟩ ⟨(Nat.zero_le _), (Nat.zero_le _)⟩ dX11_order_83 (fun r_3 hw => ?_)
      refine lv_if_eq (tgt := 111) hx hb dX11_order_86 (by decide) (fun hc => ?_) (fun hc => ?_)
      · have hw := hw.1 hc
        exact t_m_order_111 zc hK hM hS hP50 (fun _ H locs ls h hl hM hS => h H locs ls hl hM hS) (lv_sub hl [0, 1, 2, 3, 4, 5] rfl) hw
      · have hw := hw.2 hc
        exact t_m_order_89 zc hK hM hS hP50 (fun _ H locs ls h hl hM hS => h H locs ls hl hM hS) (lv_sub hl [0, 1, 2, 3, 4, 5] rfl) hw
set_option maxRecDepth 20000 in
theorem t_m_order_50 {p : Program} {l : Launch} {e : Env} {s : State} {m : MethodId} {args : Array Value} {below : List Frame} {meth : Method} {c : Code} {E : zE} {q : Nat} {f_code : Int32} {a_tape : Nat → Int32} {a_size : Nat → Int32} {a_fault : Nat → Int32} {a_faultPlace : Nat → Int32} {a_many : Nat → Int32} {a_lands : Nat → Int32} {a_evenings : Nat → Int32} {a_sights : Nat → Int32} {a_choirs : Nat → Int32} {f_reached : Int32} {f_length : Int32} {f_begins : Int32} {f_sort : Int32} {f_value : Int32} {f_word : Int64} {f_wrongAt : Int32} {f_laterFault : Int32} {f_laterPlace : Int32} {a_told : Nat → Int32} {a_read : Nat → Int32} {f_farHut : Int32} {f_farSinger : Int32} {f_good : Int32} {f_land : Int32} {f_huts : Int32} {f_singers : Int32} {f_evening : Int32} {a_at : Nat → Int32} {a_knows : Nat → Int32} {a_climbed : Nat → Int32} {a_snow : Nat → Int32} {a_level : Nat → Int32} {f_begun : Int32} {f_minute : Int32} {f_avalanches : Int32} {a_run : Nat → Int32} {a_covers : Nat → Int32} {a_routes : Nat → Int32} {a_longest : Nat → Int32} {a_steep : Nat → Int32} {a_laid : Nat → Int32} {a_far : Nat → Int32} {f_sight : Int32} {a_runs : Nat → Int32} {f_choir : Int32} {f_voices : Int32} {a_rest : Nat → Int64} {a_wins : Nat → Int32} {f_seed : Int32} {a_other : Nat → Int32} {a_kept : Nat → Int32} {post : Int32 → (Int32) → (Int32) → (Int32) → (Nat → Int64) → Prop} {x2 : Int32} {x3 : Int32} {x4 : Int32} {x5 : Int32} {ls : Array Slot} {H : Heap} {locs : List Loc}
    (zc : zC p s m args meth c cX11_order 7 RX11 (some .int))
    (hK : zK E s)
    (hM : mW E q f_code a_tape a_size a_fault a_faultPlace a_many a_lands a_evenings a_sights a_choirs f_reached f_length f_begins f_sort f_value f_word f_wrongAt f_laterFault f_laterPlace a_told a_read f_farHut f_farSinger f_good f_land f_huts f_singers f_evening a_at a_knows a_climbed a_snow a_level f_begun f_minute f_avalanches a_run a_covers a_routes a_longest a_steep a_laid a_far f_sight a_runs f_choir f_voices a_rest a_wins f_seed a_other a_kept H)
    (hS : va_S (mA q) s.heap H locs)
    (hl : lv_has ls 7 [(0, .ref q), (2, .int x2), (3, .int x3), (4, .int x4), (5, .int x5)])
    (hw : q_m_order_50 f_code a_many a_choirs f_choir f_voices a_rest x2 x3 x4 x5 post) :
    W p l e rm_m_order s m args below meth c H locs 0 0 (MQ below (zQi (S := (Int32) × (Int32) × (Int32) × (Nat → Int64)) (fun r u => post r u.1 u.2.1 u.2.2.1 u.2.2.2) (fun u H => mW E q u.1 a_tape a_size a_fault a_faultPlace a_many a_lands a_evenings a_sights a_choirs f_reached f_length f_begins f_sort f_value f_word f_wrongAt f_laterFault f_laterPlace a_told a_read f_farHut f_farSinger f_good f_land f_huts f_singers f_evening a_at a_knows a_climbed a_snow a_level f_begun f_minute f_avalanches a_run a_covers a_routes a_longest a_steep a_laid a_far f_sight a_runs u.2.1 u.2.2.1 u.2.2.2 a_wins f_seed a_other a_kept H) (mA q)) args s 0 0 (mA q)) (F0 m 50 ls []) := by
  have hx := zc.1
  have hb := zc.2.1
  refine hw (fun x3 x4 x5 => ∀ (H : Heap) (locs : List Loc) (ls : Array Slot), lv_has ls 7 [(0, .ref q), (2, .int x2), (3, .int x3), (4, .int x4), (5, .int x5)] → mW E q f_code a_tape a_size a_fault a_faultPlace a_many a_lands a_evenings a_sights a_choirs f_reached f_length f_begins f_sort f_value f_word f_wrongAt f_laterFault f_laterPlace a_told a_read f_farHut f_farSinger f_good f_land f_huts f_singers f_evening a_at a_knows a_climbed a_snow a_level f_begun f_minute f_avalanches a_run a_covers a_routes a_longest a_steep a_laid a_far f_sight a_runs f_choir f_voices a_rest a_wins f_seed a_other a_kept H → va_S (mA q) s.heap H locs → W p l e rm_m_order s m args below meth c H locs 0 0 (MQ below (zQi (S := (Int32) × (Int32) × (Int32) × (Nat → Int64)) (fun r u => post r u.1 u.2.1 u.2.2.1 u.2.2.2) (fun u H => mW E q u.1 a_tape a_size a_fault a_faultPlace a_many a_lands a_evenings a_sights a_choirs f_reached f_length f_begins f_sort f_value f_word f_wrongAt f_laterFault f_laterPlace a_told a_read f_farHut f_farSinger f_good f_land f_huts f_singers f_evening a_at a_knows a_climbed a_snow a_level f_begun f_minute f_avalanches a_run a_covers a_routes a_longest a_steep a_laid a_far f_sight a_runs u.2.1 u.2.2.1 u.2.2.2 a_wins f_seed a_other a_kept H) (mA q)) args s 0 0 (mA q)) (F0 m 50 ls [])) ?_ _ _ _ hl hM hS
  intro x3 x4 x5 hw H locs ls hl hM hS
  refine lv_iload hx hb dX11_order_50 (lv_at hl 4 rfl) ?_
  refine lv_iload_n hx hb dX11_order_52 rfl (lv_at hl 1 rfl) ?_
  refine lv_icmp_gt (tgt := 134) hx hb dX11_order_53 (by decide) (fun hc => ?_) (fun hc => ?_)
  · have hw := hw.1 hc
    refine lv_iload hx hb dX11_order_134 (lv_at hl 3 rfl) ?_
    exact zret_iw ⟨f_code, f_choir, f_voices, a_rest⟩ zc hS hw hM dX11_order_136
  · have hw := hw.2 hc
    refine lv_iconst (v := (0 : Int32)) hx hb dX11_order_56 (by decide) ?_
    refine lv_istore (lv' := [(6, .int (0 : Int32)), (0, .ref q), (2, .int x2), (3, .int x3), (4, .int x4), (5, .int x5)]) hx hb dX11_order_57 hl (by decide) rfl (fun ls hl => ?_)
    exact t_m_order_59 zc hK hM hS (fun _ _ _ H locs ls h hl hM hS => h H locs ls hl hM hS) (lv_sub hl [1, 2, 3, 4, 5, 0] rfl) hw
set_option maxRecDepth 20000 in
theorem t_m_order_0 {p : Program} {l : Launch} {e : Env} {s : State} {m : MethodId} {args : Array Value} {below : List Frame} {meth : Method} {c : Code} {E : zE} {q : Nat} {f_code : Int32} {a_tape : Nat → Int32} {a_size : Nat → Int32} {a_fault : Nat → Int32} {a_faultPlace : Nat → Int32} {a_many : Nat → Int32} {a_lands : Nat → Int32} {a_evenings : Nat → Int32} {a_sights : Nat → Int32} {a_choirs : Nat → Int32} {f_reached : Int32} {f_length : Int32} {f_begins : Int32} {f_sort : Int32} {f_value : Int32} {f_word : Int64} {f_wrongAt : Int32} {f_laterFault : Int32} {f_laterPlace : Int32} {a_told : Nat → Int32} {a_read : Nat → Int32} {f_farHut : Int32} {f_farSinger : Int32} {f_good : Int32} {f_land : Int32} {f_huts : Int32} {f_singers : Int32} {f_evening : Int32} {a_at : Nat → Int32} {a_knows : Nat → Int32} {a_climbed : Nat → Int32} {a_snow : Nat → Int32} {a_level : Nat → Int32} {f_begun : Int32} {f_minute : Int32} {f_avalanches : Int32} {a_run : Nat → Int32} {a_covers : Nat → Int32} {a_routes : Nat → Int32} {a_longest : Nat → Int32} {a_steep : Nat → Int32} {a_laid : Nat → Int32} {a_far : Nat → Int32} {f_sight : Int32} {a_runs : Nat → Int32} {f_choir : Int32} {f_voices : Int32} {a_rest : Nat → Int64} {a_wins : Nat → Int32} {f_seed : Int32} {a_other : Nat → Int32} {a_kept : Nat → Int32} {post : Int32 → (Int32) → (Int32) → (Int32) → (Nat → Int64) → Prop} {x1 : Int32} {x2 : Int32} {ls : Array Slot} {H : Heap} {locs : List Loc}
    (zc : zC p s m args meth c cX11_order 7 RX11 (some .int))
    (hK : zK E s)
    (hM : mW E q f_code a_tape a_size a_fault a_faultPlace a_many a_lands a_evenings a_sights a_choirs f_reached f_length f_begins f_sort f_value f_word f_wrongAt f_laterFault f_laterPlace a_told a_read f_farHut f_farSinger f_good f_land f_huts f_singers f_evening a_at a_knows a_climbed a_snow a_level f_begun f_minute f_avalanches a_run a_covers a_routes a_longest a_steep a_laid a_far f_sight a_runs f_choir f_voices a_rest a_wins f_seed a_other a_kept H)
    (hS : va_S (mA q) s.heap H locs)
    (hl : lv_has ls 7 [(0, .ref q), (1, .int x1), (2, .int x2)])
    (hw : q_m_order_0 f_code a_many a_choirs f_choir f_voices a_rest x1 x2 post) :
    W p l e rm_m_order s m args below meth c H locs 0 0 (MQ below (zQi (S := (Int32) × (Int32) × (Int32) × (Nat → Int64)) (fun r u => post r u.1 u.2.1 u.2.2.1 u.2.2.2) (fun u H => mW E q u.1 a_tape a_size a_fault a_faultPlace a_many a_lands a_evenings a_sights a_choirs f_reached f_length f_begins f_sort f_value f_word f_wrongAt f_laterFault f_laterPlace a_told a_read f_farHut f_farSinger f_good f_land f_huts f_singers f_evening a_at a_knows a_climbed a_snow a_level f_begun f_minute f_avalanches a_run a_covers a_routes a_longest a_steep a_laid a_far f_sight a_runs u.2.1 u.2.2.1 u.2.2.2 a_wins f_seed a_other a_kept H) (mA q)) args s 0 0 (mA q)) (F0 m 0 ls []) := by
  have hx := zc.1
  have hb := zc.2.1
  refine lv_aload_n hx hb dX11_order_0 rfl (lv_at hl 0 rfl) ?_
  refine lv_iconst (v := (0 : Int32)) hx hb dX11_order_1 (by decide) ?_
  refine mp_11_97_0 zc hK hM hS dX11_order_2 (fun H locs hM hS => ?_)
  refine lv_aload_n hx hb dX11_order_5 rfl (lv_at hl 0 rfl) ?_
  refine lv_iload_n hx hb dX11_order_6 rfl (lv_at hl 1 rfl) ?_
  refine zVw_i [.int x1] [] zc ky_X11_hasChoir kz_X11_hasChoir km_11_491 (c_m_hasChoir l hw) (mPreV0 hK hM) hS rfl rfl hl.1 (Nat.le_of_ble_eq_true rfl) ⟨rfl, rfl⟩ ⟨Nat.le_of_ble_eq_true rfl, Nat.le_of_ble_eq_true rfl⟩ ⟨(Nat.zero_le _), (Nat.zero_le _)⟩ dX11_order_7 (fun r_1 u H locs hw hM hS => ?_)
  obtain ⟨f_choir_1, f_voices_1⟩ := u
  refine lv_if_eq (tgt := 40) hx hb dX11_order_10 (by decide) (fun hc => ?_) (fun hc => ?_)
  · have hw := hw.1 hc
    refine lv_iconst (v := (-1 : Int32)) hx hb dX11_order_40 (by decide) ?_
    exact zret_iw ⟨(0 : Int32), f_choir_1, f_voices_1, a_rest⟩ zc hS hw hM dX11_order_41
  · have hw := hw.2 hc
    refine lv_iload_n hx hb dX11_order_13 rfl (lv_at hl 2 rfl) ?_
    refine lv_iconst (v := (0 : Int32)) hx hb dX11_order_14 (by decide) ?_
    refine lv_aload_n hx hb dX11_order_15 rfl (lv_at hl 0 rfl) ?_
    refine mg_11_478_0 zc hK hM dX11_order_16 ?_
    refine lv_iconst (v := (1 : Int32)) hx hb dX11_order_19 (by decide) ?_
    refine lv_isub hx hb dX11_order_20 ?_
    refine zS_i [.int x2, .int (0 : Int32), .int (f_voices_1 - (1 : Int32))] [] zc ky_X11_in kz_X11_in km_11_109 (c_m_in l hw) (zPre0 _) rfl rfl hl.1 (Nat.le_of_ble_eq_true rfl) ⟨rfl, rfl⟩ ⟨Nat.le_of_ble_eq_true rfl, Nat.le_of_ble_eq_true rfl⟩ ⟨(Nat.zero_le _), (Nat.zero_le _)⟩ dX11_order_21 (fun r_2 hw => ?_)
    refine lv_if_eq (tgt := 40) hx hb dX11_order_24 (by decide) (fun hc => ?_) (fun hc => ?_)
    · have hw := hw.1 hc
      refine lv_iconst (v := (-1 : Int32)) hx hb dX11_order_40 (by decide) ?_
      exact zret_iw ⟨(0 : Int32), f_choir_1, f_voices_1, a_rest⟩ zc hS hw hM dX11_order_41
    · have hw := hw.2 hc
      refine lv_aload_n hx hb dX11_order_27 rfl (lv_at hl 0 rfl) ?_
      refine lv_aload_n hx hb dX11_order_28 rfl (lv_at hl 0 rfl) ?_
      refine zV_i [] [.ref q] zc ky_X11_stepOf kz_X11_stepOf km_11_494 (c_m_stepOf l hw) (mPreV0 hK hM) rfl rfl hl.1 (Nat.le_of_ble_eq_true rfl) ⟨rfl, rfl⟩ ⟨Nat.le_of_ble_eq_true rfl, Nat.le_of_ble_eq_true rfl⟩ ⟨(Nat.zero_le _), (Nat.zero_le _)⟩ dX11_order_29 (fun r_3 hw => ?_)
      refine zVw_l [.int r_3] [] zc ky_X11_findRest kz_X11_findRest km_11_487 (c_m_findRest l hw) (mPreV0 hK hM) hS rfl rfl hl.1 (Nat.le_of_ble_eq_true rfl) ⟨rfl, rfl⟩ ⟨Nat.le_of_ble_eq_true rfl, Nat.le_of_ble_eq_true rfl⟩ ⟨(Nat.zero_le _), (Nat.zero_le _)⟩ dX11_order_32 (fun r_4 a_rest_1 H locs hw hM hS => ?_)
      refine lv_lconst (v := (0 : Int64)) hx hb dX11_order_35 (by decide) ?_
      refine W.lcmp hx hb dX11_order_36 ?_
      refine lv_if_ne (tgt := 42) hx hb dX11_order_37 (by decide) (fun hc => ?_) (fun hc => ?_)
      · have hw := hw.1 hc
        refine lv_iconst (v := (0 : Int32)) hx hb dX11_order_42 (by decide) ?_
        refine lv_istore_n (lv' := [(3, .int (0 : Int32)), (0, .ref q), (1, .int x1), (2, .int x2)]) hx hb dX11_order_43 rfl hl (by decide) rfl (fun ls hl => ?_)
        refine lv_iconst (v := (-1 : Int32)) hx hb dX11_order_44 (by decide) ?_
        refine lv_istore (lv' := [(4, .int (-1 : Int32)), (3, .int (0 : Int32)), (0, .ref q), (1, .int x1), (2, .int x2)]) hx hb dX11_order_45 hl (by decide) rfl (fun ls hl => ?_)
        refine lv_iconst (v := (0 : Int32)) hx hb dX11_order_47 (by decide) ?_
        refine lv_istore (lv' := [(5, .int (0 : Int32)), (4, .int (-1 : Int32)), (3, .int (0 : Int32)), (0, .ref q), (1, .int x1), (2, .int x2)]) hx hb dX11_order_48 hl (by decide) rfl (fun ls hl => ?_)
        exact t_m_order_50 zc hK hM hS  (lv_sub hl [3, 5, 2, 1, 0] rfl) hw
      · have hw := hw.2 hc
        refine lv_iconst (v := (-1 : Int32)) hx hb dX11_order_40 (by decide) ?_
        exact zret_iw ⟨(0 : Int32), f_choir_1, f_voices_1, a_rest_1⟩ zc hS hw hM dX11_order_41
set_option maxRecDepth 20000 in
theorem c_m_order (l : Launch) {E : zE} {q : Nat} {f_code : Int32} {a_tape : Nat → Int32} {a_size : Nat → Int32} {a_fault : Nat → Int32} {a_faultPlace : Nat → Int32} {a_many : Nat → Int32} {a_lands : Nat → Int32} {a_evenings : Nat → Int32} {a_sights : Nat → Int32} {a_choirs : Nat → Int32} {f_reached : Int32} {f_length : Int32} {f_begins : Int32} {f_sort : Int32} {f_value : Int32} {f_word : Int64} {f_wrongAt : Int32} {f_laterFault : Int32} {f_laterPlace : Int32} {a_told : Nat → Int32} {a_read : Nat → Int32} {f_farHut : Int32} {f_farSinger : Int32} {f_good : Int32} {f_land : Int32} {f_huts : Int32} {f_singers : Int32} {f_evening : Int32} {a_at : Nat → Int32} {a_knows : Nat → Int32} {a_climbed : Nat → Int32} {a_snow : Nat → Int32} {a_level : Nat → Int32} {f_begun : Int32} {f_minute : Int32} {f_avalanches : Int32} {a_run : Nat → Int32} {a_covers : Nat → Int32} {a_routes : Nat → Int32} {a_longest : Nat → Int32} {a_steep : Nat → Int32} {a_laid : Nat → Int32} {a_far : Nat → Int32} {f_sight : Int32} {a_runs : Nat → Int32} {f_choir : Int32} {f_voices : Int32} {a_rest : Nat → Int64} {a_wins : Nat → Int32} {f_seed : Int32} {a_other : Nat → Int32} {a_kept : Nat → Int32} {x1 : Int32} {x2 : Int32} {post : Int32 → (Int32) → (Int32) → (Int32) → (Nat → Int64) → Prop} (hw : q_m_order_0 f_code a_many a_choirs f_choir f_voices a_rest x1 x2 post) : Met l yX11_order (Cond.code yX11_order cX11_order 7 (some .int) :: zb) rm_m_order (va_Pc [.ref q, .int x1, .int x2] (fun U => mW E q f_code a_tape a_size a_fault a_faultPlace a_many a_lands a_evenings a_sights a_choirs f_reached f_length f_begins f_sort f_value f_word f_wrongAt f_laterFault f_laterPlace a_told a_read f_farHut f_farSinger f_good f_land f_huts f_singers f_evening a_at a_knows a_climbed a_snow a_level f_begun f_minute f_avalanches a_run a_covers a_routes a_longest a_steep a_laid a_far f_sight a_runs f_choir f_voices a_rest a_wins f_seed a_other a_kept U.heap ∧ zK E U)) (zQi (S := (Int32) × (Int32) × (Int32) × (Nat → Int64)) (fun r u => post r u.1 u.2.1 u.2.2.1 u.2.2.2) (fun u H => mW E q u.1 a_tape a_size a_fault a_faultPlace a_many a_lands a_evenings a_sights a_choirs f_reached f_length f_begins f_sort f_value f_word f_wrongAt f_laterFault f_laterPlace a_told a_read f_farHut f_farSinger f_good f_land f_huts f_singers f_evening a_at a_knows a_climbed a_snow a_level f_begun f_minute f_avalanches a_run a_covers a_routes a_longest a_steep a_laid a_far f_sight a_runs u.2.1 u.2.2.1 u.2.2.2 a_wins f_seed a_other a_kept H) (mA q)) 0 0 (mA q) := by
  refine Met.ofW (cc := cX11_order) (maxL := 7) (ret := (some .int)) (by decide) rfl ?_
  intro p e s m args below meth c s₁ B hml hv
  obtain ⟨rfl, hM, hK⟩ := hv
  have zc := zc_of B hml
  have hl := lv_entry ([.ref q, .int x1, .int x2]) (n := 7) (Nat.le_of_ble_eq_true rfl)
  rw [lg_entry_eq]
  generalize (lg_sl ([.ref q, .int x1, .int x2]) ++ List.replicate (7 - (lg_sl ([.ref q, .int x1, .int x2])).length) Slot.unset).toArray = ls at hl ⊢
  have hl : lv_has ls 7 [(0, .ref q), (1, .int x1), (2, .int x2)] := hl
  exact t_m_order_0 zc hK hM va_S.rf (lv_sub hl [0, 1, 2] rfl) hw
-- m_won
abbrev rm_m_won : Room := { frames := 0, cells := 0, slots := 0, locals := 0 }
def q_m_won_0 (a_wins : Nat → Int32) (x1 : Int32) (x2 : Int32) (post : Int32 → Prop) : Prop :=
  (x1 < 0 → (post (0 : Int32))) ∧ (¬ x1 < 0 → ((x2 < 0 → (post (0 : Int32))) ∧ (¬ x2 < 0 → (vp_in (((61 : Int32) * x1) + x2) 3721 ∧ (((a_wins (Int32.toNatClampNeg (((61 : Int32) * x1) + x2))) = 0 → (post (0 : Int32))) ∧ (¬ (a_wins (Int32.toNatClampNeg (((61 : Int32) * x1) + x2))) = 0 → (post (1 : Int32))))))))
set_option maxRecDepth 20000 in
theorem t_m_won_0 {p : Program} {l : Launch} {e : Env} {s : State} {m : MethodId} {args : Array Value} {below : List Frame} {meth : Method} {c : Code} {E : zE} {q : Nat} {f_code : Int32} {a_tape : Nat → Int32} {a_size : Nat → Int32} {a_fault : Nat → Int32} {a_faultPlace : Nat → Int32} {a_many : Nat → Int32} {a_lands : Nat → Int32} {a_evenings : Nat → Int32} {a_sights : Nat → Int32} {a_choirs : Nat → Int32} {f_reached : Int32} {f_length : Int32} {f_begins : Int32} {f_sort : Int32} {f_value : Int32} {f_word : Int64} {f_wrongAt : Int32} {f_laterFault : Int32} {f_laterPlace : Int32} {a_told : Nat → Int32} {a_read : Nat → Int32} {f_farHut : Int32} {f_farSinger : Int32} {f_good : Int32} {f_land : Int32} {f_huts : Int32} {f_singers : Int32} {f_evening : Int32} {a_at : Nat → Int32} {a_knows : Nat → Int32} {a_climbed : Nat → Int32} {a_snow : Nat → Int32} {a_level : Nat → Int32} {f_begun : Int32} {f_minute : Int32} {f_avalanches : Int32} {a_run : Nat → Int32} {a_covers : Nat → Int32} {a_routes : Nat → Int32} {a_longest : Nat → Int32} {a_steep : Nat → Int32} {a_laid : Nat → Int32} {a_far : Nat → Int32} {f_sight : Int32} {a_runs : Nat → Int32} {f_choir : Int32} {f_voices : Int32} {a_rest : Nat → Int64} {a_wins : Nat → Int32} {f_seed : Int32} {a_other : Nat → Int32} {a_kept : Nat → Int32} {post : Int32 → Prop} {x1 : Int32} {x2 : Int32} {ls : Array Slot}
    (zc : zC p s m args meth c cX11_won 3 RX11 (some .boolean))
    (hK : zK E s)
    (hM : mW E q f_code a_tape a_size a_fault a_faultPlace a_many a_lands a_evenings a_sights a_choirs f_reached f_length f_begins f_sort f_value f_word f_wrongAt f_laterFault f_laterPlace a_told a_read f_farHut f_farSinger f_good f_land f_huts f_singers f_evening a_at a_knows a_climbed a_snow a_level f_begun f_minute f_avalanches a_run a_covers a_routes a_longest a_steep a_laid a_far f_sight a_runs f_choir f_voices a_rest a_wins f_seed a_other a_kept s.heap)
    (hl : lv_has ls 3 [(0, .ref q), (1, .int x1), (2, .int x2)])
    (hw : q_m_won_0 a_wins x1 x2 post) :
    W p l e rm_m_won s m args below meth c s.heap [] 0 0 (MQ below (vp_Si post) args s 0 0 (fun _ => False)) (F0 m 0 ls []) := by
  have hx := zc.1
  have hb := zc.2.1
  refine lv_iload_n hx hb dX11_won_0 rfl (lv_at hl 1 rfl) ?_
  refine lv_if_lt (tgt := 26) hx hb dX11_won_1 (by decide) (fun hc => ?_) (fun hc => ?_)
  · have hw := hw.1 hc
    refine lv_iconst (v := (0 : Int32)) hx hb dX11_won_26 (by decide) ?_
    exact zret_z zc rfl hw dX11_won_27
  · have hw := hw.2 hc
    refine lv_iload_n hx hb dX11_won_4 rfl (lv_at hl 2 rfl) ?_
    refine lv_if_lt (tgt := 26) hx hb dX11_won_5 (by decide) (fun hc => ?_) (fun hc => ?_)
    · have hw := hw.1 hc
      refine lv_iconst (v := (0 : Int32)) hx hb dX11_won_26 (by decide) ?_
      exact zret_z zc rfl hw dX11_won_27
    · have hw := hw.2 hc
      refine lv_aload_n hx hb dX11_won_8 rfl (lv_at hl 0 rfl) ?_
      refine mg_11_88_0 zc hK hM dX11_won_9 ?_
      refine lv_bipush (v := (61 : Int32)) hx hb dX11_won_12 (by decide) ?_
      refine lv_iload_n hx hb dX11_won_14 rfl (lv_at hl 1 rfl) ?_
      refine lv_imul hx hb dX11_won_15 ?_
      refine lv_iload_n hx hb dX11_won_16 rfl (lv_at hl 2 rfl) ?_
      refine lv_iadd hx hb dX11_won_17 ?_
      refine mld_26 zc hK hM hw.1 dX11_won_18 ?_
      have hw := hw.2
      refine lv_if_eq (tgt := 26) hx hb dX11_won_19 (by decide) (fun hc => ?_) (fun hc => ?_)
      · have hw := hw.1 hc
        refine lv_iconst (v := (0 : Int32)) hx hb dX11_won_26 (by decide) ?_
        exact zret_z zc rfl hw dX11_won_27
      · have hw := hw.2 hc
        refine lv_iconst (v := (1 : Int32)) hx hb dX11_won_22 (by decide) ?_
        refine lv_goto (tgt := 27) hx hb dX11_won_23 (by decide) ?_
        exact zret_z zc rfl hw dX11_won_27
set_option maxRecDepth 20000 in
theorem c_m_won (l : Launch) {E : zE} {q : Nat} {f_code : Int32} {a_tape : Nat → Int32} {a_size : Nat → Int32} {a_fault : Nat → Int32} {a_faultPlace : Nat → Int32} {a_many : Nat → Int32} {a_lands : Nat → Int32} {a_evenings : Nat → Int32} {a_sights : Nat → Int32} {a_choirs : Nat → Int32} {f_reached : Int32} {f_length : Int32} {f_begins : Int32} {f_sort : Int32} {f_value : Int32} {f_word : Int64} {f_wrongAt : Int32} {f_laterFault : Int32} {f_laterPlace : Int32} {a_told : Nat → Int32} {a_read : Nat → Int32} {f_farHut : Int32} {f_farSinger : Int32} {f_good : Int32} {f_land : Int32} {f_huts : Int32} {f_singers : Int32} {f_evening : Int32} {a_at : Nat → Int32} {a_knows : Nat → Int32} {a_climbed : Nat → Int32} {a_snow : Nat → Int32} {a_level : Nat → Int32} {f_begun : Int32} {f_minute : Int32} {f_avalanches : Int32} {a_run : Nat → Int32} {a_covers : Nat → Int32} {a_routes : Nat → Int32} {a_longest : Nat → Int32} {a_steep : Nat → Int32} {a_laid : Nat → Int32} {a_far : Nat → Int32} {f_sight : Int32} {a_runs : Nat → Int32} {f_choir : Int32} {f_voices : Int32} {a_rest : Nat → Int64} {a_wins : Nat → Int32} {f_seed : Int32} {a_other : Nat → Int32} {a_kept : Nat → Int32} {x1 : Int32} {x2 : Int32} {post : Int32 → Prop} (hw : q_m_won_0 a_wins x1 x2 post) : Met l yX11_won (Cond.code yX11_won cX11_won 3 (some .boolean) :: zb) rm_m_won (va_Pc [.ref q, .int x1, .int x2] (fun U => mW E q f_code a_tape a_size a_fault a_faultPlace a_many a_lands a_evenings a_sights a_choirs f_reached f_length f_begins f_sort f_value f_word f_wrongAt f_laterFault f_laterPlace a_told a_read f_farHut f_farSinger f_good f_land f_huts f_singers f_evening a_at a_knows a_climbed a_snow a_level f_begun f_minute f_avalanches a_run a_covers a_routes a_longest a_steep a_laid a_far f_sight a_runs f_choir f_voices a_rest a_wins f_seed a_other a_kept U.heap ∧ zK E U)) (vp_Si post) 0 0 (fun _ => False) := by
  refine Met.ofW (cc := cX11_won) (maxL := 3) (ret := (some .boolean)) (by decide) rfl ?_
  intro p e s m args below meth c s₁ B hml hv
  obtain ⟨rfl, hM, hK⟩ := hv
  have zc := zc_of B hml
  have hl := lv_entry ([.ref q, .int x1, .int x2]) (n := 3) (Nat.le_of_ble_eq_true rfl)
  rw [lg_entry_eq]
  generalize (lg_sl ([.ref q, .int x1, .int x2]) ++ List.replicate (3 - (lg_sl ([.ref q, .int x1, .int x2])).length) Slot.unset).toArray = ls at hl ⊢
  have hl : lv_has ls 3 [(0, .ref q), (1, .int x1), (2, .int x2)] := hl
  exact t_m_won_0 zc hK hM (lv_sub hl [0, 1, 2] rfl) hw
-- m_isGood
abbrev rm_m_isGood : Room := { frames := 1, cells := 0, slots := 0, locals := 22 }
def q_m_isGood_0 (a_wins : Nat → Int32) (x1 : Int32) (x2 : Int32) (x3 : Int32) (x4 : Int32) (post : Int32 → Prop) : Prop :=
  (x1 < x3 → (post (0 : Int32))) ∧ (¬ x1 < x3 → ((x2 < x4 → (post (0 : Int32))) ∧ (¬ x2 < x4 → (q_m_won_0 a_wins (x1 - x3) (x2 - x4) (fun r_1 => (¬ r_1 = 0 → (post (0 : Int32))) ∧ (r_1 = 0 → (post (1 : Int32))))))))
set_option maxRecDepth 20000 in
theorem t_m_isGood_0 {p : Program} {l : Launch} {e : Env} {s : State} {m : MethodId} {args : Array Value} {below : List Frame} {meth : Method} {c : Code} {E : zE} {q : Nat} {f_code : Int32} {a_tape : Nat → Int32} {a_size : Nat → Int32} {a_fault : Nat → Int32} {a_faultPlace : Nat → Int32} {a_many : Nat → Int32} {a_lands : Nat → Int32} {a_evenings : Nat → Int32} {a_sights : Nat → Int32} {a_choirs : Nat → Int32} {f_reached : Int32} {f_length : Int32} {f_begins : Int32} {f_sort : Int32} {f_value : Int32} {f_word : Int64} {f_wrongAt : Int32} {f_laterFault : Int32} {f_laterPlace : Int32} {a_told : Nat → Int32} {a_read : Nat → Int32} {f_farHut : Int32} {f_farSinger : Int32} {f_good : Int32} {f_land : Int32} {f_huts : Int32} {f_singers : Int32} {f_evening : Int32} {a_at : Nat → Int32} {a_knows : Nat → Int32} {a_climbed : Nat → Int32} {a_snow : Nat → Int32} {a_level : Nat → Int32} {f_begun : Int32} {f_minute : Int32} {f_avalanches : Int32} {a_run : Nat → Int32} {a_covers : Nat → Int32} {a_routes : Nat → Int32} {a_longest : Nat → Int32} {a_steep : Nat → Int32} {a_laid : Nat → Int32} {a_far : Nat → Int32} {f_sight : Int32} {a_runs : Nat → Int32} {f_choir : Int32} {f_voices : Int32} {a_rest : Nat → Int64} {a_wins : Nat → Int32} {f_seed : Int32} {a_other : Nat → Int32} {a_kept : Nat → Int32} {post : Int32 → Prop} {x1 : Int32} {x2 : Int32} {x3 : Int32} {x4 : Int32} {ls : Array Slot}
    (zc : zC p s m args meth c cX11_isGood 5 RX11 (some .boolean))
    (hK : zK E s)
    (hM : mW E q f_code a_tape a_size a_fault a_faultPlace a_many a_lands a_evenings a_sights a_choirs f_reached f_length f_begins f_sort f_value f_word f_wrongAt f_laterFault f_laterPlace a_told a_read f_farHut f_farSinger f_good f_land f_huts f_singers f_evening a_at a_knows a_climbed a_snow a_level f_begun f_minute f_avalanches a_run a_covers a_routes a_longest a_steep a_laid a_far f_sight a_runs f_choir f_voices a_rest a_wins f_seed a_other a_kept s.heap)
    (hl : lv_has ls 5 [(0, .ref q), (1, .int x1), (2, .int x2), (3, .int x3), (4, .int x4)])
    (hw : q_m_isGood_0 a_wins x1 x2 x3 x4 post) :
    W p l e rm_m_isGood s m args below meth c s.heap [] 0 0 (MQ below (vp_Si post) args s 0 0 (fun _ => False)) (F0 m 0 ls []) := by
  have hx := zc.1
  have hb := zc.2.1
  refine lv_iload_n hx hb dX11_isGood_0 rfl (lv_at hl 1 rfl) ?_
  refine lv_iload_n hx hb dX11_isGood_1 rfl (lv_at hl 3 rfl) ?_
  refine lv_icmp_lt (tgt := 29) hx hb dX11_isGood_2 (by decide) (fun hc => ?_) (fun hc => ?_)
  · have hw := hw.1 hc
    refine lv_iconst (v := (0 : Int32)) hx hb dX11_isGood_29 (by decide) ?_
    exact zret_z zc rfl hw dX11_isGood_30
  · have hw := hw.2 hc
    refine lv_iload_n hx hb dX11_isGood_5 rfl (lv_at hl 2 rfl) ?_
    refine lv_iload hx hb dX11_isGood_6 (lv_at hl 4 rfl) ?_
    refine lv_icmp_lt (tgt := 29) hx hb dX11_isGood_8 (by decide) (fun hc => ?_) (fun hc => ?_)
    · have hw := hw.1 hc
      refine lv_iconst (v := (0 : Int32)) hx hb dX11_isGood_29 (by decide) ?_
      exact zret_z zc rfl hw dX11_isGood_30
    · have hw := hw.2 hc
      refine lv_aload_n hx hb dX11_isGood_11 rfl (lv_at hl 0 rfl) ?_
      refine lv_iload_n hx hb dX11_isGood_12 rfl (lv_at hl 1 rfl) ?_
      refine lv_iload_n hx hb dX11_isGood_13 rfl (lv_at hl 3 rfl) ?_
      refine lv_isub hx hb dX11_isGood_14 ?_
      refine lv_iload_n hx hb dX11_isGood_15 rfl (lv_at hl 2 rfl) ?_
      refine lv_iload hx hb dX11_isGood_16 (lv_at hl 4 rfl) ?_
      refine lv_isub hx hb dX11_isGood_18 ?_
      refine zV_i [.int (x1 - x3), .int (x2 - x4)] [] zc ky_X11_won kz_X11_won km_11_505 (c_m_won l hw) (mPreV0 hK hM) rfl rfl hl.1 (Nat.le_of_ble_eq_true rfl) ⟨rfl, rfl⟩ ⟨Nat.le_of_ble_eq_true rfl, Nat.le_of_ble_eq_true rfl⟩ ⟨(Nat.zero_le _), (Nat.zero_le _)⟩ dX11_isGood_19 (fun r_1 hw => ?_)
      refine lv_if_ne (tgt := 29) hx hb dX11_isGood_22 (by decide) (fun hc => ?_) (fun hc => ?_)
      · have hw := hw.1 hc
        refine lv_iconst (v := (0 : Int32)) hx hb dX11_isGood_29 (by decide) ?_
        exact zret_z zc rfl hw dX11_isGood_30
      · have hw := hw.2 hc
        refine lv_iconst (v := (1 : Int32)) hx hb dX11_isGood_25 (by decide) ?_
        refine lv_goto (tgt := 30) hx hb dX11_isGood_26 (by decide) ?_
        exact zret_z zc rfl hw dX11_isGood_30
set_option maxRecDepth 20000 in
theorem c_m_isGood (l : Launch) {E : zE} {q : Nat} {f_code : Int32} {a_tape : Nat → Int32} {a_size : Nat → Int32} {a_fault : Nat → Int32} {a_faultPlace : Nat → Int32} {a_many : Nat → Int32} {a_lands : Nat → Int32} {a_evenings : Nat → Int32} {a_sights : Nat → Int32} {a_choirs : Nat → Int32} {f_reached : Int32} {f_length : Int32} {f_begins : Int32} {f_sort : Int32} {f_value : Int32} {f_word : Int64} {f_wrongAt : Int32} {f_laterFault : Int32} {f_laterPlace : Int32} {a_told : Nat → Int32} {a_read : Nat → Int32} {f_farHut : Int32} {f_farSinger : Int32} {f_good : Int32} {f_land : Int32} {f_huts : Int32} {f_singers : Int32} {f_evening : Int32} {a_at : Nat → Int32} {a_knows : Nat → Int32} {a_climbed : Nat → Int32} {a_snow : Nat → Int32} {a_level : Nat → Int32} {f_begun : Int32} {f_minute : Int32} {f_avalanches : Int32} {a_run : Nat → Int32} {a_covers : Nat → Int32} {a_routes : Nat → Int32} {a_longest : Nat → Int32} {a_steep : Nat → Int32} {a_laid : Nat → Int32} {a_far : Nat → Int32} {f_sight : Int32} {a_runs : Nat → Int32} {f_choir : Int32} {f_voices : Int32} {a_rest : Nat → Int64} {a_wins : Nat → Int32} {f_seed : Int32} {a_other : Nat → Int32} {a_kept : Nat → Int32} {x1 : Int32} {x2 : Int32} {x3 : Int32} {x4 : Int32} {post : Int32 → Prop} (hw : q_m_isGood_0 a_wins x1 x2 x3 x4 post) : Met l yX11_isGood (Cond.code yX11_isGood cX11_isGood 5 (some .boolean) :: zb) rm_m_isGood (va_Pc [.ref q, .int x1, .int x2, .int x3, .int x4] (fun U => mW E q f_code a_tape a_size a_fault a_faultPlace a_many a_lands a_evenings a_sights a_choirs f_reached f_length f_begins f_sort f_value f_word f_wrongAt f_laterFault f_laterPlace a_told a_read f_farHut f_farSinger f_good f_land f_huts f_singers f_evening a_at a_knows a_climbed a_snow a_level f_begun f_minute f_avalanches a_run a_covers a_routes a_longest a_steep a_laid a_far f_sight a_runs f_choir f_voices a_rest a_wins f_seed a_other a_kept U.heap ∧ zK E U)) (vp_Si post) 0 0 (fun _ => False) := by
  refine Met.ofW (cc := cX11_isGood) (maxL := 5) (ret := (some .boolean)) (by decide) rfl ?_
  intro p e s m args below meth c s₁ B hml hv
  obtain ⟨rfl, hM, hK⟩ := hv
  have zc := zc_of B hml
  have hl := lv_entry ([.ref q, .int x1, .int x2, .int x3, .int x4]) (n := 5) (Nat.le_of_ble_eq_true rfl)
  rw [lg_entry_eq]
  generalize (lg_sl ([.ref q, .int x1, .int x2, .int x3, .int x4]) ++ List.replicate (5 - (lg_sl ([.ref q, .int x1, .int x2, .int x3, .int x4])).length) Slot.unset).toArray = ls at hl ⊢
  have hl : lv_has ls 5 [(0, .ref q), (1, .int x1), (2, .int x2), (3, .int x3), (4, .int x4)] := hl
  exact t_m_isGood_0 zc hK hM (lv_sub hl [0, 1, 2, 3, 4] rfl) hw
-- m_firstTake
abbrev rm_m_firstTake : Room := { frames := 2, cells := 0, slots := 0, locals := 46 }
def q_m_firstTake_16 (a_wins : Nat → Int32) (x1 : Int32) (x2 : Int32) (x3 : Int32) (x4 : Int32) (post : Int32 → Prop) : Prop :=
  ∀ P16 : Int32 → Prop, (∀ (x4 : Int32), ((x3 < x4 → (post (-1 : Int32))) ∧ (¬ x3 < x4 → (q_m_isGood_0 a_wins x1 x2 (1 : Int32) x4 (fun r_1 => (r_1 = 0 → (∀ v_1 : Int32, v_1 = x4 + (1 : Int32) → (P16 v_1))) ∧ (¬ r_1 = 0 → (post ((10 : Int32) + x4))))))) → P16 x4) → P16 x4
def q_m_firstTake_0 (a_wins : Nat → Int32) (x1 : Int32) (x2 : Int32) (x3 : Int32) (post : Int32 → Prop) : Prop :=
  q_m_isGood_0 a_wins x1 x2 (0 : Int32) (2 : Int32) (fun r_1 => (r_1 = 0 → (q_m_firstTake_16 a_wins x1 x2 x3 (1 : Int32) post)) ∧ (¬ r_1 = 0 → (post (2 : Int32))))
set_option maxRecDepth 20000 in
theorem t_m_firstTake_16 {p : Program} {l : Launch} {e : Env} {s : State} {m : MethodId} {args : Array Value} {below : List Frame} {meth : Method} {c : Code} {E : zE} {q : Nat} {f_code : Int32} {a_tape : Nat → Int32} {a_size : Nat → Int32} {a_fault : Nat → Int32} {a_faultPlace : Nat → Int32} {a_many : Nat → Int32} {a_lands : Nat → Int32} {a_evenings : Nat → Int32} {a_sights : Nat → Int32} {a_choirs : Nat → Int32} {f_reached : Int32} {f_length : Int32} {f_begins : Int32} {f_sort : Int32} {f_value : Int32} {f_word : Int64} {f_wrongAt : Int32} {f_laterFault : Int32} {f_laterPlace : Int32} {a_told : Nat → Int32} {a_read : Nat → Int32} {f_farHut : Int32} {f_farSinger : Int32} {f_good : Int32} {f_land : Int32} {f_huts : Int32} {f_singers : Int32} {f_evening : Int32} {a_at : Nat → Int32} {a_knows : Nat → Int32} {a_climbed : Nat → Int32} {a_snow : Nat → Int32} {a_level : Nat → Int32} {f_begun : Int32} {f_minute : Int32} {f_avalanches : Int32} {a_run : Nat → Int32} {a_covers : Nat → Int32} {a_routes : Nat → Int32} {a_longest : Nat → Int32} {a_steep : Nat → Int32} {a_laid : Nat → Int32} {a_far : Nat → Int32} {f_sight : Int32} {a_runs : Nat → Int32} {f_choir : Int32} {f_voices : Int32} {a_rest : Nat → Int64} {a_wins : Nat → Int32} {f_seed : Int32} {a_other : Nat → Int32} {a_kept : Nat → Int32} {post : Int32 → Prop} {x1 : Int32} {x2 : Int32} {x3 : Int32} {x4 : Int32} {ls : Array Slot}
    (zc : zC p s m args meth c cX11_firstTake 5 RX11 (some .int))
    (hK : zK E s)
    (hM : mW E q f_code a_tape a_size a_fault a_faultPlace a_many a_lands a_evenings a_sights a_choirs f_reached f_length f_begins f_sort f_value f_word f_wrongAt f_laterFault f_laterPlace a_told a_read f_farHut f_farSinger f_good f_land f_huts f_singers f_evening a_at a_knows a_climbed a_snow a_level f_begun f_minute f_avalanches a_run a_covers a_routes a_longest a_steep a_laid a_far f_sight a_runs f_choir f_voices a_rest a_wins f_seed a_other a_kept s.heap)
    (hl : lv_has ls 5 [(0, .ref q), (1, .int x1), (2, .int x2), (3, .int x3), (4, .int x4)])
    (hw : q_m_firstTake_16 a_wins x1 x2 x3 x4 post) :
    W p l e rm_m_firstTake s m args below meth c s.heap [] 0 0 (MQ below (vp_Si post) args s 0 0 (fun _ => False)) (F0 m 16 ls []) := by
  have hx := zc.1
  have hb := zc.2.1
  refine hw (fun x4 => ∀ (ls : Array Slot), lv_has ls 5 [(0, .ref q), (1, .int x1), (2, .int x2), (3, .int x3), (4, .int x4)] → W p l e rm_m_firstTake s m args below meth c s.heap [] 0 0 (MQ below (vp_Si post) args s 0 0 (fun _ => False)) (F0 m 16 ls [])) ?_ _ hl
  intro x4 hw ls hl
  refine lv_iload hx hb dX11_firstTake_16 (lv_at hl 4 rfl) ?_
  refine lv_iload_n hx hb dX11_firstTake_18 rfl (lv_at hl 3 rfl) ?_
  refine lv_icmp_gt (tgt := 46) hx hb dX11_firstTake_19 (by decide) (fun hc => ?_) (fun hc => ?_)
  · have hw := hw.1 hc
    refine lv_iconst (v := (-1 : Int32)) hx hb dX11_firstTake_46 (by decide) ?_
    exact zret_i zc hw dX11_firstTake_47
  · have hw := hw.2 hc
    refine lv_aload_n hx hb dX11_firstTake_22 rfl (lv_at hl 0 rfl) ?_
    refine lv_iload_n hx hb dX11_firstTake_23 rfl (lv_at hl 1 rfl) ?_
    refine lv_iload_n hx hb dX11_firstTake_24 rfl (lv_at hl 2 rfl) ?_
    refine lv_iconst (v := (1 : Int32)) hx hb dX11_firstTake_25 (by decide) ?_
    refine lv_iload hx hb dX11_firstTake_26 (lv_at hl 4 rfl) ?_
    refine zV_i [.int x1, .int x2, .int (1 : Int32), .int x4] [] zc ky_X11_isGood kz_X11_isGood km_11_508 (c_m_isGood l hw) (mPreV0 hK hM) rfl rfl hl.1 (Nat.le_of_ble_eq_true rfl) ⟨rfl, rfl⟩ ⟨Nat.le_of_ble_eq_true rfl, Nat.le_of_ble_eq_true rfl⟩ ⟨(Nat.zero_le _), (Nat.zero_le _)⟩ dX11_firstTake_28 (fun r_1 hw => ?_)
    refine lv_if_eq (tgt := 40) hx hb dX11_firstTake_31 (by decide) (fun hc => ?_) (fun hc => ?_)
    · have hw := hw.1 hc
      obtain ⟨v_1, ev_1⟩ : ∃ y : Int32, y = x4 + (1 : Int32) := ⟨_, rfl⟩
      have hw := hw v_1 ev_1
      refine lv_iinc (v := v_1) (k := 4) (lv' := [(4, .int v_1), (0, .ref q), (1, .int x1), (2, .int x2), (3, .int x3)]) hx hb dX11_firstTake_40 hl rfl (by rw [ev_1]; rfl) (by decide) rfl (fun ls hl => ?_)
      refine lv_goto (tgt := 16) hx hb dX11_firstTake_43 (by decide) ?_
      exact hw _ (lv_sub hl [1, 2, 3, 4, 0] rfl)
    · have hw := hw.2 hc
      refine lv_bipush (v := (10 : Int32)) hx hb dX11_firstTake_34 (by decide) ?_
      refine lv_iload hx hb dX11_firstTake_36 (lv_at hl 4 rfl) ?_
      refine lv_iadd hx hb dX11_firstTake_38 ?_
      exact zret_i zc hw dX11_firstTake_39
set_option maxRecDepth 20000 in
theorem t_m_firstTake_0 {p : Program} {l : Launch} {e : Env} {s : State} {m : MethodId} {args : Array Value} {below : List Frame} {meth : Method} {c : Code} {E : zE} {q : Nat} {f_code : Int32} {a_tape : Nat → Int32} {a_size : Nat → Int32} {a_fault : Nat → Int32} {a_faultPlace : Nat → Int32} {a_many : Nat → Int32} {a_lands : Nat → Int32} {a_evenings : Nat → Int32} {a_sights : Nat → Int32} {a_choirs : Nat → Int32} {f_reached : Int32} {f_length : Int32} {f_begins : Int32} {f_sort : Int32} {f_value : Int32} {f_word : Int64} {f_wrongAt : Int32} {f_laterFault : Int32} {f_laterPlace : Int32} {a_told : Nat → Int32} {a_read : Nat → Int32} {f_farHut : Int32} {f_farSinger : Int32} {f_good : Int32} {f_land : Int32} {f_huts : Int32} {f_singers : Int32} {f_evening : Int32} {a_at : Nat → Int32} {a_knows : Nat → Int32} {a_climbed : Nat → Int32} {a_snow : Nat → Int32} {a_level : Nat → Int32} {f_begun : Int32} {f_minute : Int32} {f_avalanches : Int32} {a_run : Nat → Int32} {a_covers : Nat → Int32} {a_routes : Nat → Int32} {a_longest : Nat → Int32} {a_steep : Nat → Int32} {a_laid : Nat → Int32} {a_far : Nat → Int32} {f_sight : Int32} {a_runs : Nat → Int32} {f_choir : Int32} {f_voices : Int32} {a_rest : Nat → Int64} {a_wins : Nat → Int32} {f_seed : Int32} {a_other : Nat → Int32} {a_kept : Nat → Int32} {post : Int32 → Prop} {x1 : Int32} {x2 : Int32} {x3 : Int32} {ls : Array Slot}
    (zc : zC p s m args meth c cX11_firstTake 5 RX11 (some .int))
    (hK : zK E s)
    (hM : mW E q f_code a_tape a_size a_fault a_faultPlace a_many a_lands a_evenings a_sights a_choirs f_reached f_length f_begins f_sort f_value f_word f_wrongAt f_laterFault f_laterPlace a_told a_read f_farHut f_farSinger f_good f_land f_huts f_singers f_evening a_at a_knows a_climbed a_snow a_level f_begun f_minute f_avalanches a_run a_covers a_routes a_longest a_steep a_laid a_far f_sight a_runs f_choir f_voices a_rest a_wins f_seed a_other a_kept s.heap)
    (hl : lv_has ls 5 [(0, .ref q), (1, .int x1), (2, .int x2), (3, .int x3)])
    (hw : q_m_firstTake_0 a_wins x1 x2 x3 post) :
    W p l e rm_m_firstTake s m args below meth c s.heap [] 0 0 (MQ below (vp_Si post) args s 0 0 (fun _ => False)) (F0 m 0 ls []) := by
  have hx := zc.1
  have hb := zc.2.1
  refine lv_aload_n hx hb dX11_firstTake_0 rfl (lv_at hl 0 rfl) ?_
  refine lv_iload_n hx hb dX11_firstTake_1 rfl (lv_at hl 1 rfl) ?_
  refine lv_iload_n hx hb dX11_firstTake_2 rfl (lv_at hl 2 rfl) ?_
  refine lv_iconst (v := (0 : Int32)) hx hb dX11_firstTake_3 (by decide) ?_
  refine lv_iconst (v := (2 : Int32)) hx hb dX11_firstTake_4 (by decide) ?_
  refine zV_i [.int x1, .int x2, .int (0 : Int32), .int (2 : Int32)] [] zc ky_X11_isGood kz_X11_isGood km_11_508 (c_m_isGood l hw) (mPreV0 hK hM) rfl rfl hl.1 (Nat.le_of_ble_eq_true rfl) ⟨rfl, rfl⟩ ⟨Nat.le_of_ble_eq_true rfl, Nat.le_of_ble_eq_true rfl⟩ ⟨(Nat.zero_le _), (Nat.zero_le _)⟩ dX11_firstTake_5 (fun r_1 hw => ?_)
  refine lv_if_eq (tgt := 13) hx hb dX11_firstTake_8 (by decide) (fun hc => ?_) (fun hc => ?_)
  · have hw := hw.1 hc
    refine lv_iconst (v := (1 : Int32)) hx hb dX11_firstTake_13 (by decide) ?_
    refine lv_istore (lv' := [(4, .int (1 : Int32)), (0, .ref q), (1, .int x1), (2, .int x2), (3, .int x3)]) hx hb dX11_firstTake_14 hl (by decide) rfl (fun ls hl => ?_)
    exact t_m_firstTake_16 zc hK hM  (lv_sub hl [1, 2, 3, 4, 0] rfl) hw
  · have hw := hw.2 hc
    refine lv_iconst (v := (2 : Int32)) hx hb dX11_firstTake_11 (by decide) ?_
    exact zret_i zc hw dX11_firstTake_12
set_option maxRecDepth 20000 in
theorem c_m_firstTake (l : Launch) {E : zE} {q : Nat} {f_code : Int32} {a_tape : Nat → Int32} {a_size : Nat → Int32} {a_fault : Nat → Int32} {a_faultPlace : Nat → Int32} {a_many : Nat → Int32} {a_lands : Nat → Int32} {a_evenings : Nat → Int32} {a_sights : Nat → Int32} {a_choirs : Nat → Int32} {f_reached : Int32} {f_length : Int32} {f_begins : Int32} {f_sort : Int32} {f_value : Int32} {f_word : Int64} {f_wrongAt : Int32} {f_laterFault : Int32} {f_laterPlace : Int32} {a_told : Nat → Int32} {a_read : Nat → Int32} {f_farHut : Int32} {f_farSinger : Int32} {f_good : Int32} {f_land : Int32} {f_huts : Int32} {f_singers : Int32} {f_evening : Int32} {a_at : Nat → Int32} {a_knows : Nat → Int32} {a_climbed : Nat → Int32} {a_snow : Nat → Int32} {a_level : Nat → Int32} {f_begun : Int32} {f_minute : Int32} {f_avalanches : Int32} {a_run : Nat → Int32} {a_covers : Nat → Int32} {a_routes : Nat → Int32} {a_longest : Nat → Int32} {a_steep : Nat → Int32} {a_laid : Nat → Int32} {a_far : Nat → Int32} {f_sight : Int32} {a_runs : Nat → Int32} {f_choir : Int32} {f_voices : Int32} {a_rest : Nat → Int64} {a_wins : Nat → Int32} {f_seed : Int32} {a_other : Nat → Int32} {a_kept : Nat → Int32} {x1 : Int32} {x2 : Int32} {x3 : Int32} {post : Int32 → Prop} (hw : q_m_firstTake_0 a_wins x1 x2 x3 post) : Met l yX11_firstTake (Cond.code yX11_firstTake cX11_firstTake 5 (some .int) :: zb) rm_m_firstTake (va_Pc [.ref q, .int x1, .int x2, .int x3] (fun U => mW E q f_code a_tape a_size a_fault a_faultPlace a_many a_lands a_evenings a_sights a_choirs f_reached f_length f_begins f_sort f_value f_word f_wrongAt f_laterFault f_laterPlace a_told a_read f_farHut f_farSinger f_good f_land f_huts f_singers f_evening a_at a_knows a_climbed a_snow a_level f_begun f_minute f_avalanches a_run a_covers a_routes a_longest a_steep a_laid a_far f_sight a_runs f_choir f_voices a_rest a_wins f_seed a_other a_kept U.heap ∧ zK E U)) (vp_Si post) 0 0 (fun _ => False) := by
  refine Met.ofW (cc := cX11_firstTake) (maxL := 5) (ret := (some .int)) (by decide) rfl ?_
  intro p e s m args below meth c s₁ B hml hv
  obtain ⟨rfl, hM, hK⟩ := hv
  have zc := zc_of B hml
  have hl := lv_entry ([.ref q, .int x1, .int x2, .int x3]) (n := 5) (Nat.le_of_ble_eq_true rfl)
  rw [lg_entry_eq]
  generalize (lg_sl ([.ref q, .int x1, .int x2, .int x3]) ++ List.replicate (5 - (lg_sl ([.ref q, .int x1, .int x2, .int x3])).length) Slot.unset).toArray = ls at hl ⊢
  have hl : lv_has ls 5 [(0, .ref q), (1, .int x1), (2, .int x2), (3, .int x3)] := hl
  exact t_m_firstTake_0 zc hK hM (lv_sub hl [0, 1, 2, 3] rfl) hw
-- m_trade
abbrev rm_m_trade : Room := { frames := 3, cells := 0, slots := 0, locals := 70 }
def q_m_trade_86 (P41 : Int32 → (Nat → Int32) → Prop) (P50 : Int32 → (Nat → Int32) → Prop) (f_code : Int32) (a_wins : Nat → Int32) (x1 : Int32) (x2 : Int32) (x3 : Int32) (x4 : Int32) (x5 : Int32) (x6 : Int32) (y0 : Int32) (y1 : Int32) (post : Int32 → (Int32) → (Nat → Int32) → Prop) : Prop :=
  vp_in y0 3721 ∧ (∀ a_wins_1 : Nat → Int32, a_wins_1 = upd a_wins (Int32.toNatClampNeg y0) (vp_nar .boolean y1) → (∀ v_1 : Int32, v_1 = x6 + (1 : Int32) → (P50 v_1 a_wins_1)))
def q_m_trade_50 (P41 : Int32 → (Nat → Int32) → Prop) (f_code : Int32) (a_wins : Nat → Int32) (x1 : Int32) (x2 : Int32) (x3 : Int32) (x4 : Int32) (x5 : Int32) (x6 : Int32) (post : Int32 → (Int32) → (Nat → Int32) → Prop) : Prop :=
  ∀ P50 : Int32 → (Nat → Int32) → Prop, (∀ (x6 : Int32) (a_wins : Nat → Int32), ((x2 < x6 → (∀ v_1 : Int32, v_1 = x5 + (1 : Int32) → (P41 v_1 a_wins))) ∧ (¬ x2 < x6 → (q_m_firstTake_0 a_wins x5 x6 x3 (fun r_1 => (r_1 = (-1 : Int32) → (q_m_trade_86 P41 P50 f_code a_wins x1 x2 x3 x4 x5 x6 (((61 : Int32) * x5) + x6) (0 : Int32) post)) ∧ (¬ r_1 = (-1 : Int32) → (q_m_trade_86 P41 P50 f_code a_wins x1 x2 x3 x4 x5 x6 (((61 : Int32) * x5) + x6) (1 : Int32) post)))))) → P50 x6 a_wins) → P50 x6 a_wins
def q_m_trade_41 (f_code : Int32) (a_wins : Nat → Int32) (x1 : Int32) (x2 : Int32) (x3 : Int32) (x4 : Int32) (x5 : Int32) (post : Int32 → (Int32) → (Nat → Int32) → Prop) : Prop :=
  ∀ P41 : Int32 → (Nat → Int32) → Prop, (∀ (x5 : Int32) (a_wins : Nat → Int32), ((x1 < x5 → ((x4 = 0 → (vp_in (((61 : Int32) * x1) + x2) 3721 ∧ (((a_wins (Int32.toNatClampNeg (((61 : Int32) * x1) + x2))) = 0 → (post (0 : Int32) f_code a_wins)) ∧ (¬ (a_wins (Int32.toNatClampNeg (((61 : Int32) * x1) + x2))) = 0 → (post (1 : Int32) f_code a_wins))))) ∧ (¬ x4 = 0 → (q_m_firstTake_0 a_wins x1 x2 x3 (fun r_1 => post r_1 f_code a_wins))))) ∧ (¬ x1 < x5 → (q_m_trade_50 P41 f_code a_wins x1 x2 x3 x4 x5 (0 : Int32) post))) → P41 x5 a_wins) → P41 x5 a_wins
def q_m_trade_0 (f_code : Int32) (a_wins : Nat → Int32) (x1 : Int32) (x2 : Int32) (x3 : Int32) (x4 : Int32) (post : Int32 → (Int32) → (Nat → Int32) → Prop) : Prop :=
  q_m_in_0 x1 (0 : Int32) (60 : Int32) (fun r_1 => (r_1 = 0 → (post (-2 : Int32) (0 : Int32) a_wins)) ∧ (¬ r_1 = 0 → (q_m_in_0 x2 (0 : Int32) (60 : Int32) (fun r_2 => (r_2 = 0 → (post (-2 : Int32) (0 : Int32) a_wins)) ∧ (¬ r_2 = 0 → (q_m_in_0 x3 (1 : Int32) (9 : Int32) (fun r_3 => (¬ r_3 = 0 → (q_m_trade_41 (0 : Int32) a_wins x1 x2 x3 x4 (0 : Int32) post)) ∧ (r_3 = 0 → (post (-2 : Int32) (0 : Int32) a_wins)))))))))
set_option maxRecDepth 20000 in
theorem t_m_trade_86 {p : Program} {l : Launch} {e : Env} {s : State} {m : MethodId} {args : Array Value} {below : List Frame} {meth : Method} {c : Code} {E : zE} {q : Nat} {f_code : Int32} {a_tape : Nat → Int32} {a_size : Nat → Int32} {a_fault : Nat → Int32} {a_faultPlace : Nat → Int32} {a_many : Nat → Int32} {a_lands : Nat → Int32} {a_evenings : Nat → Int32} {a_sights : Nat → Int32} {a_choirs : Nat → Int32} {f_reached : Int32} {f_length : Int32} {f_begins : Int32} {f_sort : Int32} {f_value : Int32} {f_word : Int64} {f_wrongAt : Int32} {f_laterFault : Int32} {f_laterPlace : Int32} {a_told : Nat → Int32} {a_read : Nat → Int32} {f_farHut : Int32} {f_farSinger : Int32} {f_good : Int32} {f_land : Int32} {f_huts : Int32} {f_singers : Int32} {f_evening : Int32} {a_at : Nat → Int32} {a_knows : Nat → Int32} {a_climbed : Nat → Int32} {a_snow : Nat → Int32} {a_level : Nat → Int32} {f_begun : Int32} {f_minute : Int32} {f_avalanches : Int32} {a_run : Nat → Int32} {a_covers : Nat → Int32} {a_routes : Nat → Int32} {a_longest : Nat → Int32} {a_steep : Nat → Int32} {a_laid : Nat → Int32} {a_far : Nat → Int32} {f_sight : Int32} {a_runs : Nat → Int32} {f_choir : Int32} {f_voices : Int32} {a_rest : Nat → Int64} {a_wins : Nat → Int32} {f_seed : Int32} {a_other : Nat → Int32} {a_kept : Nat → Int32} {P41 : Int32 → (Nat → Int32) → Prop} {P50 : Int32 → (Nat → Int32) → Prop} {post : Int32 → (Int32) → (Nat → Int32) → Prop} {x1 : Int32} {x2 : Int32} {x3 : Int32} {x4 : Int32} {x5 : Int32} {x6 : Int32} {y0 : Int32} {y1 : Int32} {ls : Array Slot} {H : Heap} {locs : List Loc}
    (zc : zC p s m args meth c cX11_trade 7 RX11 (some .int))
    (hK : zK E s)
    (hM : mW E q f_code a_tape a_size a_fault a_faultPlace a_many a_lands a_evenings a_sights a_choirs f_reached f_length f_begins f_sort f_value f_word f_wrongAt f_laterFault f_laterPlace a_told a_read f_farHut f_farSinger f_good f_land f_huts f_singers f_evening a_at a_knows a_climbed a_snow a_level f_begun f_minute f_avalanches a_run a_covers a_routes a_longest a_steep a_laid a_far f_sight a_runs f_choir f_voices a_rest a_wins f_seed a_other a_kept H)
    (hS : va_S (mA q) s.heap H locs)
    (hP41 : ∀ (x5 : Int32) (a_wins : Nat → Int32) (H : Heap) (locs : List Loc) (ls : Array Slot), P41 x5 a_wins → lv_has ls 7 [(0, .ref q), (1, .int x1), (2, .int x2), (3, .int x3), (4, .int x4), (5, .int x5)] → mW E q f_code a_tape a_size a_fault a_faultPlace a_many a_lands a_evenings a_sights a_choirs f_reached f_length f_begins f_sort f_value f_word f_wrongAt f_laterFault f_laterPlace a_told a_read f_farHut f_farSinger f_good f_land f_huts f_singers f_evening a_at a_knows a_climbed a_snow a_level f_begun f_minute f_avalanches a_run a_covers a_routes a_longest a_steep a_laid a_far f_sight a_runs f_choir f_voices a_rest a_wins f_seed a_other a_kept H → va_S (mA q) s.heap H locs → W p l e rm_m_trade s m args below meth c H locs 0 0 (MQ below (zQi (S := (Int32) × (Nat → Int32)) (fun r u => post r u.1 u.2) (fun u H => mW E q u.1 a_tape a_size a_fault a_faultPlace a_many a_lands a_evenings a_sights a_choirs f_reached f_length f_begins f_sort f_value f_word f_wrongAt f_laterFault f_laterPlace a_told a_read f_farHut f_farSinger f_good f_land f_huts f_singers f_evening a_at a_knows a_climbed a_snow a_level f_begun f_minute f_avalanches a_run a_covers a_routes a_longest a_steep a_laid a_far f_sight a_runs f_choir f_voices a_rest u.2 f_seed a_other a_kept H) (mA q)) args s 0 0 (mA q)) (F0 m 41 ls []))
    (hP50 : ∀ (x6 : Int32) (a_wins : Nat → Int32) (H : Heap) (locs : List Loc) (ls : Array Slot), P50 x6 a_wins → lv_has ls 7 [(0, .ref q), (1, .int x1), (2, .int x2), (3, .int x3), (4, .int x4), (5, .int x5), (6, .int x6)] → mW E q f_code a_tape a_size a_fault a_faultPlace a_many a_lands a_evenings a_sights a_choirs f_reached f_length f_begins f_sort f_value f_word f_wrongAt f_laterFault f_laterPlace a_told a_read f_farHut f_farSinger f_good f_land f_huts f_singers f_evening a_at a_knows a_climbed a_snow a_level f_begun f_minute f_avalanches a_run a_covers a_routes a_longest a_steep a_laid a_far f_sight a_runs f_choir f_voices a_rest a_wins f_seed a_other a_kept H → va_S (mA q) s.heap H locs → W p l e rm_m_trade s m args below meth c H locs 0 0 (MQ below (zQi (S := (Int32) × (Nat → Int32)) (fun r u => post r u.1 u.2) (fun u H => mW E q u.1 a_tape a_size a_fault a_faultPlace a_many a_lands a_evenings a_sights a_choirs f_reached f_length f_begins f_sort f_value f_word f_wrongAt f_laterFault f_laterPlace a_told a_read f_farHut f_farSinger f_good f_land f_huts f_singers f_evening a_at a_knows a_climbed a_snow a_level f_begun f_minute f_avalanches a_run a_covers a_routes a_longest a_steep a_laid a_far f_sight a_runs f_choir f_voices a_rest u.2 f_seed a_other a_kept H) (mA q)) args s 0 0 (mA q)) (F0 m 50 ls []))
    (hl : lv_has ls 7 [(0, .ref q), (1, .int x1), (2, .int x2), (3, .int x3), (4, .int x4), (5, .int x5), (6, .int x6)])
    (hw : q_m_trade_86 P41 P50 f_code a_wins x1 x2 x3 x4 x5 x6 y0 y1 post) :
    W p l e rm_m_trade s m args below meth c H locs 0 0 (MQ below (zQi (S := (Int32) × (Nat → Int32)) (fun r u => post r u.1 u.2) (fun u H => mW E q u.1 a_tape a_size a_fault a_faultPlace a_many a_lands a_evenings a_sights a_choirs f_reached f_length f_begins f_sort f_value f_word f_wrongAt f_laterFault f_laterPlace a_told a_read f_farHut f_farSinger f_good f_land f_huts f_singers f_evening a_at a_knows a_climbed a_snow a_level f_begun f_minute f_avalanches a_run a_covers a_routes a_longest a_steep a_laid a_far f_sight a_runs f_choir f_voices a_rest u.2 f_seed a_other a_kept H) (mA q)) args s 0 0 (mA q)) (F0 m 86 ls [.int y1, .int y0, .ref (q + 26)]) := by
  have hx := zc.1
  have hb := zc.2.1
  refine mst_26 zc hK hM hS hw.1 dX11_trade_86 (fun a_wins_1 H locs ea_wins_1 hM hS => ?_)
  have hw := hw.2 a_wins_1 ea_wins_1
  obtain ⟨v_1, ev_1⟩ : ∃ y : Int32, y = x6 + (1 : Int32) := ⟨_, rfl⟩
  have hw := hw v_1 ev_1
  refine lv_iinc (v := v_1) (k := 6) (lv' := [(6, .int v_1), (0, .ref q), (1, .int x1), (2, .int x2), (3, .int x3), (4, .int x4), (5, .int x5)]) hx hb dX11_trade_87 hl rfl (by rw [ev_1]; rfl) (by decide) rfl (fun ls hl => ?_)
  refine lv_goto (tgt := 50) hx hb dX11_trade_90 (by decide) ?_
  exact hP50 _ _ _ _ _ hw (lv_sub hl [1, 2, 3, 4, 5, 6, 0] rfl) hM hS
set_option maxRecDepth 20000 in
theorem t_m_trade_50 {p : Program} {l : Launch} {e : Env} {s : State} {m : MethodId} {args : Array Value} {below : List Frame} {meth : Method} {c : Code} {E : zE} {q : Nat} {f_code : Int32} {a_tape : Nat → Int32} {a_size : Nat → Int32} {a_fault : Nat → Int32} {a_faultPlace : Nat → Int32} {a_many : Nat → Int32} {a_lands : Nat → Int32} {a_evenings : Nat → Int32} {a_sights : Nat → Int32} {a_choirs : Nat → Int32} {f_reached : Int32} {f_length : Int32} {f_begins : Int32} {f_sort : Int32} {f_value : Int32} {f_word : Int64} {f_wrongAt : Int32} {f_laterFault : Int32} {f_laterPlace : Int32} {a_told : Nat → Int32} {a_read : Nat → Int32} {f_farHut : Int32} {f_farSinger : Int32} {f_good : Int32} {f_land : Int32} {f_huts : Int32} {f_singers : Int32} {f_evening : Int32} {a_at : Nat → Int32} {a_knows : Nat → Int32} {a_climbed : Nat → Int32} {a_snow : Nat → Int32} {a_level : Nat → Int32} {f_begun : Int32} {f_minute : Int32} {f_avalanches : Int32} {a_run : Nat → Int32} {a_covers : Nat → Int32} {a_routes : Nat → Int32} {a_longest : Nat → Int32} {a_steep : Nat → Int32} {a_laid : Nat → Int32} {a_far : Nat → Int32} {f_sight : Int32} {a_runs : Nat → Int32} {f_choir : Int32} {f_voices : Int32} {a_rest : Nat → Int64} {a_wins : Nat → Int32} {f_seed : Int32} {a_other : Nat → Int32} {a_kept : Nat → Int32} {P41 : Int32 → (Nat → Int32) → Prop} {post : Int32 → (Int32) → (Nat → Int32) → Prop} {x1 : Int32} {x2 : Int32} {x3 : Int32} {x4 : Int32} {x5 : Int32} {x6 : Int32} {ls : Array Slot} {H : Heap} {locs : List Loc}
    (zc : zC p s m args meth c cX11_trade 7 RX11 (some .int))
    (hK : zK E s)
    (hM : mW E q f_code a_tape a_size a_fault a_faultPlace a_many a_lands a_evenings a_sights a_choirs f_reached f_length f_begins f_sort f_value f_word f_wrongAt f_laterFault f_laterPlace a_told a_read f_farHut f_farSinger f_good f_land f_huts f_singers f_evening a_at a_knows a_climbed a_snow a_level f_begun f_minute f_avalanches a_run a_covers a_routes a_longest a_steep a_laid a_far f_sight a_runs f_choir f_voices a_rest a_wins f_seed a_other a_kept H)
    (hS : va_S (mA q) s.heap H locs)
    (hP41 : ∀ (x5 : Int32) (a_wins : Nat → Int32) (H : Heap) (locs : List Loc) (ls : Array Slot), P41 x5 a_wins → lv_has ls 7 [(0, .ref q), (1, .int x1), (2, .int x2), (3, .int x3), (4, .int x4), (5, .int x5)] → mW E q f_code a_tape a_size a_fault a_faultPlace a_many a_lands a_evenings a_sights a_choirs f_reached f_length f_begins f_sort f_value f_word f_wrongAt f_laterFault f_laterPlace a_told a_read f_farHut f_farSinger f_good f_land f_huts f_singers f_evening a_at a_knows a_climbed a_snow a_level f_begun f_minute f_avalanches a_run a_covers a_routes a_longest a_steep a_laid a_far f_sight a_runs f_choir f_voices a_rest a_wins f_seed a_other a_kept H → va_S (mA q) s.heap H locs → W p l e rm_m_trade s m args below meth c H locs 0 0 (MQ below (zQi (S := (Int32) × (Nat → Int32)) (fun r u => post r u.1 u.2) (fun u H => mW E q u.1 a_tape a_size a_fault a_faultPlace a_many a_lands a_evenings a_sights a_choirs f_reached f_length f_begins f_sort f_value f_word f_wrongAt f_laterFault f_laterPlace a_told a_read f_farHut f_farSinger f_good f_land f_huts f_singers f_evening a_at a_knows a_climbed a_snow a_level f_begun f_minute f_avalanches a_run a_covers a_routes a_longest a_steep a_laid a_far f_sight a_runs f_choir f_voices a_rest u.2 f_seed a_other a_kept H) (mA q)) args s 0 0 (mA q)) (F0 m 41 ls []))
    (hl : lv_has ls 7 [(0, .ref q), (1, .int x1), (2, .int x2), (3, .int x3), (4, .int x4), (5, .int x5), (6, .int x6)])
    (hw : q_m_trade_50 P41 f_code a_wins x1 x2 x3 x4 x5 x6 post) :
    W p l e rm_m_trade s m args below meth c H locs 0 0 (MQ below (zQi (S := (Int32) × (Nat → Int32)) (fun r u => post r u.1 u.2) (fun u H => mW E q u.1 a_tape a_size a_fault a_faultPlace a_many a_lands a_evenings a_sights a_choirs f_reached f_length f_begins f_sort f_value f_word f_wrongAt f_laterFault f_laterPlace a_told a_read f_farHut f_farSinger f_good f_land f_huts f_singers f_evening a_at a_knows a_climbed a_snow a_level f_begun f_minute f_avalanches a_run a_covers a_routes a_longest a_steep a_laid a_far f_sight a_runs f_choir f_voices a_rest u.2 f_seed a_other a_kept H) (mA q)) args s 0 0 (mA q)) (F0 m 50 ls []) := by
  have hx := zc.1
  have hb := zc.2.1
  refine hw (fun x6 a_wins => ∀ (H : Heap) (locs : List Loc) (ls : Array Slot), lv_has ls 7 [(0, .ref q), (1, .int x1), (2, .int x2), (3, .int x3), (4, .int x4), (5, .int x5), (6, .int x6)] → mW E q f_code a_tape a_size a_fault a_faultPlace a_many a_lands a_evenings a_sights a_choirs f_reached f_length f_begins f_sort f_value f_word f_wrongAt f_laterFault f_laterPlace a_told a_read f_farHut f_farSinger f_good f_land f_huts f_singers f_evening a_at a_knows a_climbed a_snow a_level f_begun f_minute f_avalanches a_run a_covers a_routes a_longest a_steep a_laid a_far f_sight a_runs f_choir f_voices a_rest a_wins f_seed a_other a_kept H → va_S (mA q) s.heap H locs → W p l e rm_m_trade s m args below meth c H locs 0 0 (MQ below (zQi (S := (Int32) × (Nat → Int32)) (fun r u => post r u.1 u.2) (fun u H => mW E q u.1 a_tape a_size a_fault a_faultPlace a_many a_lands a_evenings a_sights a_choirs f_reached f_length f_begins f_sort f_value f_word f_wrongAt f_laterFault f_laterPlace a_told a_read f_farHut f_farSinger f_good f_land f_huts f_singers f_evening a_at a_knows a_climbed a_snow a_level f_begun f_minute f_avalanches a_run a_covers a_routes a_longest a_steep a_laid a_far f_sight a_runs f_choir f_voices a_rest u.2 f_seed a_other a_kept H) (mA q)) args s 0 0 (mA q)) (F0 m 50 ls [])) ?_ _ _ _ hl hM hS
  intro x6 a_wins hw H locs ls hl hM hS
  refine lv_iload hx hb dX11_trade_50 (lv_at hl 6 rfl) ?_
  refine lv_iload_n hx hb dX11_trade_52 rfl (lv_at hl 2 rfl) ?_
  refine lv_icmp_gt (tgt := 93) hx hb dX11_trade_53 (by decide) (fun hc => ?_) (fun hc => ?_)
  · have hw := hw.1 hc
    obtain ⟨v_1, ev_1⟩ : ∃ y : Int32, y = x5 + (1 : Int32) := ⟨_, rfl⟩
    have hw := hw v_1 ev_1
    refine lv_iinc (v := v_1) (k := 5) (lv' := [(5, .int v_1), (0, .ref q), (1, .int x1), (2, .int x2), (3, .int x3), (4, .int x4), (6, .int x6)]) hx hb dX11_trade_93 hl rfl (by rw [ev_1]; rfl) (by decide) rfl (fun ls hl => ?_)
    refine lv_goto (tgt := 41) hx hb dX11_trade_96 (by decide) ?_
    exact hP41 _ _ _ _ _ hw (lv_sub hl [1, 2, 3, 4, 5, 0] rfl) hM hS
  · have hw := hw.2 hc
    refine lv_aload_n hx hb dX11_trade_56 rfl (lv_at hl 0 rfl) ?_
    refine mg_11_88_0 zc hK hM dX11_trade_57 ?_
    refine lv_bipush (v := (61 : Int32)) hx hb dX11_trade_60 (by decide) ?_
    refine lv_iload hx hb dX11_trade_62 (lv_at hl 5 rfl) ?_
    refine lv_imul hx hb dX11_trade_64 ?_
    refine lv_iload hx hb dX11_trade_65 (lv_at hl 6 rfl) ?_
    refine lv_iadd hx hb dX11_trade_67 ?_
    refine lv_aload_n hx hb dX11_trade_68 rfl (lv_at hl 0 rfl) ?_
    refine lv_iload hx hb dX11_trade_69 (lv_at hl 5 rfl) ?_
    refine lv_iload hx hb dX11_trade_71 (lv_at hl 6 rfl) ?_
    refine lv_iload_n hx hb dX11_trade_73 rfl (lv_at hl 3 rfl) ?_
    refine zV_i [.int x5, .int x6, .int x3] [.int (((61 : Int32) * x5) + x6), .ref (q + 26)] zc ky_X11_firstTake kz_X11_firstTake km_11_511 (c_m_firstTake l hw) (mPreV0 hK hM) rfl rfl hl.1 (Nat.le_of_ble_eq_true rfl) ⟨rfl, rfl⟩ ⟨Nat.le_of_ble_eq_true rfl, Nat.le_of_ble_eq_true rfl⟩ ⟨(Nat.zero_le _), (Nat.zero_le _)⟩ dX11_trade_74 (fun r_1 hw => ?_)
    refine lv_iconst (v := (-1 : Int32)) hx hb dX11_trade_77 (by decide) ?_
    refine lv_icmp_eq (tgt := 85) hx hb dX11_trade_78 (by decide) (fun hc => ?_) (fun hc => ?_)
    · have hw := hw.1 hc
      refine lv_iconst (v := (0 : Int32)) hx hb dX11_trade_85 (by decide) ?_
      exact t_m_trade_86 zc hK hM hS hP41 (fun _ _ H locs ls h hl hM hS => h H locs ls hl hM hS) (lv_sub hl [0, 1, 2, 3, 4, 5, 6] rfl) hw
    · have hw := hw.2 hc
      refine lv_iconst (v := (1 : Int32)) hx hb dX11_trade_81 (by decide) ?_
      refine lv_goto (tgt := 86) hx hb dX11_trade_82 (by decide) ?_
      exact t_m_trade_86 zc hK hM hS hP41 (fun _ _ H locs ls h hl hM hS => h H locs ls hl hM hS) (lv_sub hl [0, 1, 2, 3, 4, 5, 6] rfl) hw
set_option maxRecDepth 20000 in
theorem t_m_trade_41 {p : Program} {l : Launch} {e : Env} {s : State} {m : MethodId} {args : Array Value} {below : List Frame} {meth : Method} {c : Code} {E : zE} {q : Nat} {f_code : Int32} {a_tape : Nat → Int32} {a_size : Nat → Int32} {a_fault : Nat → Int32} {a_faultPlace : Nat → Int32} {a_many : Nat → Int32} {a_lands : Nat → Int32} {a_evenings : Nat → Int32} {a_sights : Nat → Int32} {a_choirs : Nat → Int32} {f_reached : Int32} {f_length : Int32} {f_begins : Int32} {f_sort : Int32} {f_value : Int32} {f_word : Int64} {f_wrongAt : Int32} {f_laterFault : Int32} {f_laterPlace : Int32} {a_told : Nat → Int32} {a_read : Nat → Int32} {f_farHut : Int32} {f_farSinger : Int32} {f_good : Int32} {f_land : Int32} {f_huts : Int32} {f_singers : Int32} {f_evening : Int32} {a_at : Nat → Int32} {a_knows : Nat → Int32} {a_climbed : Nat → Int32} {a_snow : Nat → Int32} {a_level : Nat → Int32} {f_begun : Int32} {f_minute : Int32} {f_avalanches : Int32} {a_run : Nat → Int32} {a_covers : Nat → Int32} {a_routes : Nat → Int32} {a_longest : Nat → Int32} {a_steep : Nat → Int32} {a_laid : Nat → Int32} {a_far : Nat → Int32} {f_sight : Int32} {a_runs : Nat → Int32} {f_choir : Int32} {f_voices : Int32} {a_rest : Nat → Int64} {a_wins : Nat → Int32} {f_seed : Int32} {a_other : Nat → Int32} {a_kept : Nat → Int32} {post : Int32 → (Int32) → (Nat → Int32) → Prop} {x1 : Int32} {x2 : Int32} {x3 : Int32} {x4 : Int32} {x5 : Int32} {ls : Array Slot} {H : Heap} {locs : List Loc}
    (zc : zC p s m args meth c cX11_trade 7 RX11 (some .int))
    (hK : zK E s)
    (hM : mW E q f_code a_tape a_size a_fault a_faultPlace a_many a_lands a_evenings a_sights a_choirs f_reached f_length f_begins f_sort f_value f_word f_wrongAt f_laterFault f_laterPlace a_told a_read f_farHut f_farSinger f_good f_land f_huts f_singers f_evening a_at a_knows a_climbed a_snow a_level f_begun f_minute f_avalanches a_run a_covers a_routes a_longest a_steep a_laid a_far f_sight a_runs f_choir f_voices a_rest a_wins f_seed a_other a_kept H)
    (hS : va_S (mA q) s.heap H locs)
    (hl : lv_has ls 7 [(0, .ref q), (1, .int x1), (2, .int x2), (3, .int x3), (4, .int x4), (5, .int x5)])
    (hw : q_m_trade_41 f_code a_wins x1 x2 x3 x4 x5 post) :
    W p l e rm_m_trade s m args below meth c H locs 0 0 (MQ below (zQi (S := (Int32) × (Nat → Int32)) (fun r u => post r u.1 u.2) (fun u H => mW E q u.1 a_tape a_size a_fault a_faultPlace a_many a_lands a_evenings a_sights a_choirs f_reached f_length f_begins f_sort f_value f_word f_wrongAt f_laterFault f_laterPlace a_told a_read f_farHut f_farSinger f_good f_land f_huts f_singers f_evening a_at a_knows a_climbed a_snow a_level f_begun f_minute f_avalanches a_run a_covers a_routes a_longest a_steep a_laid a_far f_sight a_runs f_choir f_voices a_rest u.2 f_seed a_other a_kept H) (mA q)) args s 0 0 (mA q)) (F0 m 41 ls []) := by
  have hx := zc.1
  have hb := zc.2.1
  refine hw (fun x5 a_wins => ∀ (H : Heap) (locs : List Loc) (ls : Array Slot), lv_has ls 7 [(0, .ref q), (1, .int x1), (2, .int x2), (3, .int x3), (4, .int x4), (5, .int x5)] → mW E q f_code a_tape a_size a_fault a_faultPlace a_many a_lands a_evenings a_sights a_choirs f_reached f_length f_begins f_sort f_value f_word f_wrongAt f_laterFault f_laterPlace a_told a_read f_farHut f_farSinger f_good f_land f_huts f_singers f_evening a_at a_knows a_climbed a_snow a_level f_begun f_minute f_avalanches a_run a_covers a_routes a_longest a_steep a_laid a_far f_sight a_runs f_choir f_voices a_rest a_wins f_seed a_other a_kept H → va_S (mA q) s.heap H locs → W p l e rm_m_trade s m args below meth c H locs 0 0 (MQ below (zQi (S := (Int32) × (Nat → Int32)) (fun r u => post r u.1 u.2) (fun u H => mW E q u.1 a_tape a_size a_fault a_faultPlace a_many a_lands a_evenings a_sights a_choirs f_reached f_length f_begins f_sort f_value f_word f_wrongAt f_laterFault f_laterPlace a_told a_read f_farHut f_farSinger f_good f_land f_huts f_singers f_evening a_at a_knows a_climbed a_snow a_level f_begun f_minute f_avalanches a_run a_covers a_routes a_longest a_steep a_laid a_far f_sight a_runs f_choir f_voices a_rest u.2 f_seed a_other a_kept H) (mA q)) args s 0 0 (mA q)) (F0 m 41 ls [])) ?_ _ _ _ hl hM hS
  intro x5 a_wins hw H locs ls hl hM hS
  refine lv_iload hx hb dX11_trade_41 (lv_at hl 5 rfl) ?_
  refine lv_iload_n hx hb dX11_trade_43 rfl (lv_at hl 1 rfl) ?_
  refine lv_icmp_gt (tgt := 99) hx hb dX11_trade_44 (by decide) (fun hc => ?_) (fun hc => ?_)
  · have hw := hw.1 hc
    refine lv_iload hx hb dX11_trade_99 (lv_at hl 4 rfl) ?_
    refine lv_if_eq (tgt := 114) hx hb dX11_trade_101 (by decide) (fun hc => ?_) (fun hc => ?_)
    · have hw := hw.1 hc
      refine lv_aload_n hx hb dX11_trade_114 rfl (lv_at hl 0 rfl) ?_
      refine mg_11_88_0 zc hK hM dX11_trade_115 ?_
      refine lv_bipush (v := (61 : Int32)) hx hb dX11_trade_118 (by decide) ?_
      refine lv_iload_n hx hb dX11_trade_120 rfl (lv_at hl 1 rfl) ?_
      refine lv_imul hx hb dX11_trade_121 ?_
      refine lv_iload_n hx hb dX11_trade_122 rfl (lv_at hl 2 rfl) ?_
      refine lv_iadd hx hb dX11_trade_123 ?_
      refine mld_26 zc hK hM hw.1 dX11_trade_124 ?_
      have hw := hw.2
      refine lv_if_eq (tgt := 132) hx hb dX11_trade_125 (by decide) (fun hc => ?_) (fun hc => ?_)
      · have hw := hw.1 hc
        refine lv_iconst (v := (0 : Int32)) hx hb dX11_trade_132 (by decide) ?_
        exact zret_iw ⟨f_code, a_wins⟩ zc hS hw hM dX11_trade_133
      · have hw := hw.2 hc
        refine lv_iconst (v := (1 : Int32)) hx hb dX11_trade_128 (by decide) ?_
        refine lv_goto (tgt := 133) hx hb dX11_trade_129 (by decide) ?_
        exact zret_iw ⟨f_code, a_wins⟩ zc hS hw hM dX11_trade_133
    · have hw := hw.2 hc
      refine lv_aload_n hx hb dX11_trade_104 rfl (lv_at hl 0 rfl) ?_
      refine lv_iload_n hx hb dX11_trade_105 rfl (lv_at hl 1 rfl) ?_
      refine lv_iload_n hx hb dX11_trade_106 rfl (lv_at hl 2 rfl) ?_
      refine lv_iload_n hx hb dX11_trade_107 rfl (lv_at hl 3 rfl) ?_
      refine zV_i [.int x1, .int x2, .int x3] [] zc ky_X11_firstTake kz_X11_firstTake km_11_511 (c_m_firstTake l hw) (mPreV0 hK hM) rfl rfl hl.1 (Nat.le_of_ble_eq_true rfl) ⟨rfl, rfl⟩ ⟨Nat.le_of_ble_eq_true rfl, Nat.le_of_ble_eq_true rfl⟩ ⟨(Nat.zero_le _), (Nat.zero_le _)⟩ dX11_trade_108 (fun r_1 hw => ?_)
      refine lv_goto (tgt := 133) hx hb dX11_trade_111 (by decide) ?_
      exact zret_iw ⟨f_code, a_wins⟩ zc hS hw hM dX11_trade_133
  · have hw := hw.2 hc
    refine lv_iconst (v := (0 : Int32)) hx hb dX11_trade_47 (by decide) ?_
    refine lv_istore (lv' := [(6, .int (0 : Int32)), (0, .ref q), (1, .int x1), (2, .int x2), (3, .int x3), (4, .int x4), (5, .int x5)]) hx hb dX11_trade_48 hl (by decide) rfl (fun ls hl => ?_)
    exact t_m_trade_50 zc hK hM hS (fun _ _ H locs ls h hl hM hS => h H locs ls hl hM hS) (lv_sub hl [1, 2, 3, 4, 5, 6, 0] rfl) hw
set_option maxRecDepth 20000 in
theorem t_m_trade_0 {p : Program} {l : Launch} {e : Env} {s : State} {m : MethodId} {args : Array Value} {below : List Frame} {meth : Method} {c : Code} {E : zE} {q : Nat} {f_code : Int32} {a_tape : Nat → Int32} {a_size : Nat → Int32} {a_fault : Nat → Int32} {a_faultPlace : Nat → Int32} {a_many : Nat → Int32} {a_lands : Nat → Int32} {a_evenings : Nat → Int32} {a_sights : Nat → Int32} {a_choirs : Nat → Int32} {f_reached : Int32} {f_length : Int32} {f_begins : Int32} {f_sort : Int32} {f_value : Int32} {f_word : Int64} {f_wrongAt : Int32} {f_laterFault : Int32} {f_laterPlace : Int32} {a_told : Nat → Int32} {a_read : Nat → Int32} {f_farHut : Int32} {f_farSinger : Int32} {f_good : Int32} {f_land : Int32} {f_huts : Int32} {f_singers : Int32} {f_evening : Int32} {a_at : Nat → Int32} {a_knows : Nat → Int32} {a_climbed : Nat → Int32} {a_snow : Nat → Int32} {a_level : Nat → Int32} {f_begun : Int32} {f_minute : Int32} {f_avalanches : Int32} {a_run : Nat → Int32} {a_covers : Nat → Int32} {a_routes : Nat → Int32} {a_longest : Nat → Int32} {a_steep : Nat → Int32} {a_laid : Nat → Int32} {a_far : Nat → Int32} {f_sight : Int32} {a_runs : Nat → Int32} {f_choir : Int32} {f_voices : Int32} {a_rest : Nat → Int64} {a_wins : Nat → Int32} {f_seed : Int32} {a_other : Nat → Int32} {a_kept : Nat → Int32} {post : Int32 → (Int32) → (Nat → Int32) → Prop} {x1 : Int32} {x2 : Int32} {x3 : Int32} {x4 : Int32} {ls : Array Slot} {H : Heap} {locs : List Loc}
    (zc : zC p s m args meth c cX11_trade 7 RX11 (some .int))
    (hK : zK E s)
    (hM : mW E q f_code a_tape a_size a_fault a_faultPlace a_many a_lands a_evenings a_sights a_choirs f_reached f_length f_begins f_sort f_value f_word f_wrongAt f_laterFault f_laterPlace a_told a_read f_farHut f_farSinger f_good f_land f_huts f_singers f_evening a_at a_knows a_climbed a_snow a_level f_begun f_minute f_avalanches a_run a_covers a_routes a_longest a_steep a_laid a_far f_sight a_runs f_choir f_voices a_rest a_wins f_seed a_other a_kept H)
    (hS : va_S (mA q) s.heap H locs)
    (hl : lv_has ls 7 [(0, .ref q), (1, .int x1), (2, .int x2), (3, .int x3), (4, .int x4)])
    (hw : q_m_trade_0 f_code a_wins x1 x2 x3 x4 post) :
    W p l e rm_m_trade s m args below meth c H locs 0 0 (MQ below (zQi (S := (Int32) × (Nat → Int32)) (fun r u => post r u.1 u.2) (fun u H => mW E q u.1 a_tape a_size a_fault a_faultPlace a_many a_lands a_evenings a_sights a_choirs f_reached f_length f_begins f_sort f_value f_word f_wrongAt f_laterFault f_laterPlace a_told a_read f_farHut f_farSinger f_good f_land f_huts f_singers f_evening a_at a_knows a_climbed a_snow a_level f_begun f_minute f_avalanches a_run a_covers a_routes a_longest a_steep a_laid a_far f_sight a_runs f_choir f_voices a_rest u.2 f_seed a_other a_kept H) (mA q)) args s 0 0 (mA q)) (F0 m 0 ls []) := by
  have hx := zc.1
  have hb := zc.2.1
  refine lv_aload_n hx hb dX11_trade_0 rfl (lv_at hl 0 rfl) ?_
  refine lv_iconst (v := (0 : Int32)) hx hb dX11_trade_1 (by decide) ?_
  refine mp_11_97_0 zc hK hM hS dX11_trade_2 (fun H locs hM hS => ?_)
  refine lv_iload_n hx hb dX11_trade_5 rfl (lv_at hl 1 rfl) ?_
  refine lv_iconst (v := (0 : Int32)) hx hb dX11_trade_6 (by decide) ?_
  refine lv_bipush (v := (60 : Int32)) hx hb dX11_trade_7 (by decide) ?_
  refine zS_i [.int x1, .int (0 : Int32), .int (60 : Int32)] [] zc ky_X11_in kz_X11_in km_11_109 (c_m_in l hw) (zPre0 _) rfl rfl hl.1 (Nat.le_of_ble_eq_true rfl) ⟨rfl, rfl⟩ ⟨Nat.le_of_ble_eq_true rfl, Nat.le_of_ble_eq_true rfl⟩ ⟨(Nat.zero_le _), (Nat.zero_le _)⟩ dX11_trade_9 (fun r_1 hw => ?_)
  refine lv_if_eq (tgt := 35) hx hb dX11_trade_12 (by decide) (fun hc => ?_) (fun hc => ?_)
  · have hw := hw.1 hc
    refine lv_bipush (v := (-2 : Int32)) hx hb dX11_trade_35 (by decide) ?_
    exact zret_iw ⟨(0 : Int32), a_wins⟩ zc hS hw hM dX11_trade_37
  · have hw := hw.2 hc
    refine lv_iload_n hx hb dX11_trade_15 rfl (lv_at hl 2 rfl) ?_
    refine lv_iconst (v := (0 : Int32)) hx hb dX11_trade_16 (by decide) ?_
    refine lv_bipush (v := (60 : Int32)) hx hb dX11_trade_17 (by decide) ?_
    refine zS_i [.int x2, .int (0 : Int32), .int (60 : Int32)] [] zc ky_X11_in kz_X11_in km_11_109 (c_m_in l hw) (zPre0 _) rfl rfl hl.1 (Nat.le_of_ble_eq_true rfl) ⟨rfl, rfl⟩ ⟨Nat.le_of_ble_eq_true rfl, Nat.le_of_ble_eq_true rfl⟩ ⟨(Nat.zero_le _), (Nat.zero_le _)⟩ dX11_trade_19 (fun r_2 hw => ?_)
    refine lv_if_eq (tgt := 35) hx hb dX11_trade_22 (by decide) (fun hc => ?_) (fun hc => ?_)
    · have hw := hw.1 hc
      refine lv_bipush (v := (-2 : Int32)) hx hb dX11_trade_35 (by decide) ?_
      exact zret_iw ⟨(0 : Int32), a_wins⟩ zc hS hw hM dX11_trade_37
    · have hw := hw.2 hc
      refine lv_iload_n hx hb dX11_trade_25 rfl (lv_at hl 3 rfl) ?_
      refine lv_iconst (v := (1 : Int32)) hx hb dX11_trade_26 (by decide) ?_
      refine lv_bipush (v := (9 : Int32)) hx hb dX11_trade_27 (by decide) ?_
      refine zS_i [.int x3, .int (1 : Int32), .int (9 : Int32)] [] zc ky_X11_in kz_X11_in km_11_109 (c_m_in l hw) (zPre0 _) rfl rfl hl.1 (Nat.le_of_ble_eq_true rfl) ⟨rfl, rfl⟩ ⟨Nat.le_of_ble_eq_true rfl, Nat.le_of_ble_eq_true rfl⟩ ⟨(Nat.zero_le _), (Nat.zero_le _)⟩ dX11_trade_29 (fun r_3 hw => ?_)
      refine lv_if_ne (tgt := 38) hx hb dX11_trade_32 (by decide) (fun hc => ?_) (fun hc => ?_)
      · have hw := hw.1 hc
        refine lv_iconst (v := (0 : Int32)) hx hb dX11_trade_38 (by decide) ?_
        refine lv_istore (lv' := [(5, .int (0 : Int32)), (0, .ref q), (1, .int x1), (2, .int x2), (3, .int x3), (4, .int x4)]) hx hb dX11_trade_39 hl (by decide) rfl (fun ls hl => ?_)
        exact t_m_trade_41 zc hK hM hS  (lv_sub hl [1, 2, 3, 4, 5, 0] rfl) hw
      · have hw := hw.2 hc
        refine lv_bipush (v := (-2 : Int32)) hx hb dX11_trade_35 (by decide) ?_
        exact zret_iw ⟨(0 : Int32), a_wins⟩ zc hS hw hM dX11_trade_37
set_option maxRecDepth 20000 in
theorem c_m_trade (l : Launch) {E : zE} {q : Nat} {f_code : Int32} {a_tape : Nat → Int32} {a_size : Nat → Int32} {a_fault : Nat → Int32} {a_faultPlace : Nat → Int32} {a_many : Nat → Int32} {a_lands : Nat → Int32} {a_evenings : Nat → Int32} {a_sights : Nat → Int32} {a_choirs : Nat → Int32} {f_reached : Int32} {f_length : Int32} {f_begins : Int32} {f_sort : Int32} {f_value : Int32} {f_word : Int64} {f_wrongAt : Int32} {f_laterFault : Int32} {f_laterPlace : Int32} {a_told : Nat → Int32} {a_read : Nat → Int32} {f_farHut : Int32} {f_farSinger : Int32} {f_good : Int32} {f_land : Int32} {f_huts : Int32} {f_singers : Int32} {f_evening : Int32} {a_at : Nat → Int32} {a_knows : Nat → Int32} {a_climbed : Nat → Int32} {a_snow : Nat → Int32} {a_level : Nat → Int32} {f_begun : Int32} {f_minute : Int32} {f_avalanches : Int32} {a_run : Nat → Int32} {a_covers : Nat → Int32} {a_routes : Nat → Int32} {a_longest : Nat → Int32} {a_steep : Nat → Int32} {a_laid : Nat → Int32} {a_far : Nat → Int32} {f_sight : Int32} {a_runs : Nat → Int32} {f_choir : Int32} {f_voices : Int32} {a_rest : Nat → Int64} {a_wins : Nat → Int32} {f_seed : Int32} {a_other : Nat → Int32} {a_kept : Nat → Int32} {x1 : Int32} {x2 : Int32} {x3 : Int32} {x4 : Int32} {post : Int32 → (Int32) → (Nat → Int32) → Prop} (hw : q_m_trade_0 f_code a_wins x1 x2 x3 x4 post) : Met l yX11_trade (Cond.code yX11_trade cX11_trade 7 (some .int) :: zb) rm_m_trade (va_Pc [.ref q, .int x1, .int x2, .int x3, .int x4] (fun U => mW E q f_code a_tape a_size a_fault a_faultPlace a_many a_lands a_evenings a_sights a_choirs f_reached f_length f_begins f_sort f_value f_word f_wrongAt f_laterFault f_laterPlace a_told a_read f_farHut f_farSinger f_good f_land f_huts f_singers f_evening a_at a_knows a_climbed a_snow a_level f_begun f_minute f_avalanches a_run a_covers a_routes a_longest a_steep a_laid a_far f_sight a_runs f_choir f_voices a_rest a_wins f_seed a_other a_kept U.heap ∧ zK E U)) (zQi (S := (Int32) × (Nat → Int32)) (fun r u => post r u.1 u.2) (fun u H => mW E q u.1 a_tape a_size a_fault a_faultPlace a_many a_lands a_evenings a_sights a_choirs f_reached f_length f_begins f_sort f_value f_word f_wrongAt f_laterFault f_laterPlace a_told a_read f_farHut f_farSinger f_good f_land f_huts f_singers f_evening a_at a_knows a_climbed a_snow a_level f_begun f_minute f_avalanches a_run a_covers a_routes a_longest a_steep a_laid a_far f_sight a_runs f_choir f_voices a_rest u.2 f_seed a_other a_kept H) (mA q)) 0 0 (mA q) := by
  refine Met.ofW (cc := cX11_trade) (maxL := 7) (ret := (some .int)) (by decide) rfl ?_
  intro p e s m args below meth c s₁ B hml hv
  obtain ⟨rfl, hM, hK⟩ := hv
  have zc := zc_of B hml
  have hl := lv_entry ([.ref q, .int x1, .int x2, .int x3, .int x4]) (n := 7) (Nat.le_of_ble_eq_true rfl)
  rw [lg_entry_eq]
  generalize (lg_sl ([.ref q, .int x1, .int x2, .int x3, .int x4]) ++ List.replicate (7 - (lg_sl ([.ref q, .int x1, .int x2, .int x3, .int x4])).length) Slot.unset).toArray = ls at hl ⊢
  have hl : lv_has ls 7 [(0, .ref q), (1, .int x1), (2, .int x2), (3, .int x3), (4, .int x4)] := hl
  exact t_m_trade_0 zc hK hM va_S.rf (lv_sub hl [0, 1, 2, 3, 4] rfl) hw
end
section
-- m_odds
abbrev rm_m_odds : Room := { frames := 7, cells := 0, slots := 0, locals := 156 }
def q_m_odds_136 (f_code : Int32) (a_many : Nat → Int32) (a_lands : Nat → Int32) (a_evenings : Nat → Int32) (f_land : Int32) (f_huts : Int32) (f_singers : Int32) (f_evening : Int32) (a_at : Nat → Int32) (a_knows : Nat → Int32) (a_climbed : Nat → Int32) (a_snow : Nat → Int32) (a_level : Nat → Int32) (f_begun : Int32) (f_minute : Int32) (f_avalanches : Int32) (x3 : Int32) (x4 : Int32) (x5 : Int64) (x7 : Int64) (x9 : Int32) (post : Int64 → (Int32) → (Int32) → (Int32) → (Int32) → (Int32) → (Nat → Int32) → (Nat → Int32) → (Nat → Int32) → (Nat → Int32) → (Nat → Int32) → (Int32) → (Int32) → (Int32) → Prop) : Prop :=
  ∀ P136 : Int64 → Int64 → Int32 → Prop, (∀ (x5 : Int64) (x7 : Int64) (x9 : Int32), ((f_avalanches ≤ x9 → ((¬ x3 = 0 → (post x7 f_code f_land f_huts f_singers f_evening a_at a_knows a_climbed a_snow a_level f_begun f_minute f_avalanches)) ∧ (x3 = 0 → (post x5 f_code f_land f_huts f_singers f_evening a_at a_knows a_climbed a_snow a_level f_begun f_minute f_avalanches)))) ∧ (¬ f_avalanches ≤ x9 → (q_m_of_0 a_lands f_land (6 : Int32) (fun r_1 => ¬ x4 = 0 ∧ (∀ v_1 : Int64, v_1 = (x5 * (Int32.toInt64 (r_1 / x4))) → (¬ x4 = 0 ∧ (∀ v_2 : Int64, v_2 = (x7 * (Int32.toInt64 ((10 : Int32) / x4))) → (∀ v_3 : Int32, v_3 = x9 + (1 : Int32) → (P136 v_1 v_2 v_3))))))))) → P136 x5 x7 x9) → P136 x5 x7 x9
def q_m_odds_125 (f_code : Int32) (a_many : Nat → Int32) (a_lands : Nat → Int32) (a_evenings : Nat → Int32) (f_land : Int32) (f_huts : Int32) (f_singers : Int32) (f_evening : Int32) (a_at : Nat → Int32) (a_knows : Nat → Int32) (a_climbed : Nat → Int32) (a_snow : Nat → Int32) (a_level : Nat → Int32) (f_begun : Int32) (f_minute : Int32) (f_avalanches : Int32) (x3 : Int32) (y0 : Int32) (post : Int64 → (Int32) → (Int32) → (Int32) → (Int32) → (Int32) → (Nat → Int32) → (Nat → Int32) → (Nat → Int32) → (Nat → Int32) → (Nat → Int32) → (Int32) → (Int32) → (Int32) → Prop) : Prop :=
  q_m_odds_136 f_code a_many a_lands a_evenings f_land f_huts f_singers f_evening a_at a_knows a_climbed a_snow a_level f_begun f_minute f_avalanches x3 y0 (1 : Int64) (1 : Int64) (0 : Int32) post
def q_m_odds_90 (f_code : Int32) (a_many : Nat → Int32) (a_lands : Nat → Int32) (a_evenings : Nat → Int32) (f_land : Int32) (f_huts : Int32) (f_singers : Int32) (f_evening : Int32) (a_at : Nat → Int32) (a_knows : Nat → Int32) (a_climbed : Nat → Int32) (a_snow : Nat → Int32) (a_level : Nat → Int32) (f_begun : Int32) (f_minute : Int32) (f_avalanches : Int32) (x3 : Int32) (post : Int64 → (Int32) → (Int32) → (Int32) → (Int32) → (Int32) → (Nat → Int32) → (Nat → Int32) → (Nat → Int32) → (Nat → Int32) → (Nat → Int32) → (Int32) → (Int32) → (Int32) → Prop) : Prop :=
  q_m_odds_125 f_code a_many a_lands a_evenings f_land f_huts f_singers f_evening a_at a_knows a_climbed a_snow a_level f_begun f_minute f_avalanches x3 (10 : Int32) post
def q_m_odds_0 (f_code : Int32) (a_many : Nat → Int32) (a_lands : Nat → Int32) (a_evenings : Nat → Int32) (f_land : Int32) (f_huts : Int32) (f_singers : Int32) (f_evening : Int32) (a_at : Nat → Int32) (a_knows : Nat → Int32) (a_climbed : Nat → Int32) (a_snow : Nat → Int32) (a_level : Nat → Int32) (f_begun : Int32) (f_minute : Int32) (f_avalanches : Int32) (x1 : Int32) (x2 : Int32) (x3 : Int32) (post : Int64 → (Int32) → (Int32) → (Int32) → (Int32) → (Int32) → (Nat → Int32) → (Nat → Int32) → (Nat → Int32) → (Nat → Int32) → (Nat → Int32) → (Int32) → (Int32) → (Int32) → Prop) : Prop :=
  q_m_in_0 x3 (0 : Int32) (2 : Int32) (fun r_1 => (r_1 = 0 → (post (-1 : Int64) (0 : Int32) f_land f_huts f_singers f_evening a_at a_knows a_climbed a_snow a_level f_begun f_minute f_avalanches)) ∧ (¬ r_1 = 0 → (q_m_layAll_0 a_many a_lands f_land f_huts f_singers f_evening x1 x2 (fun r_2 f_land_1 f_huts_1 f_singers_1 f_evening_1 => (¬ r_2 = 0 → (q_m_deeds_0 a_evenings f_evening_1 (fun r_3 => q_m_play_0 a_lands a_evenings f_land_1 f_huts_1 f_singers_1 f_evening_1 a_at a_knows a_climbed a_snow a_level f_begun f_minute f_avalanches r_3 (fun r_4 a_at_1 a_knows_1 a_climbed_1 a_snow_1 a_level_1 f_begun_1 f_minute_1 f_avalanches_1 => (¬ x3 = (2 : Int32) → ((f_avalanches_1 ≤ (18 : Int32) → (q_m_of_0 a_lands f_land_1 (6 : Int32) (fun r_5 => (r_5 = 0 → (q_m_odds_90 (0 : Int32) a_many a_lands a_evenings f_land_1 f_huts_1 f_singers_1 f_evening_1 a_at_1 a_knows_1 a_climbed_1 a_snow_1 a_level_1 f_begun_1 f_minute_1 f_avalanches_1 x3 post)) ∧ (¬ r_5 = 0 → (q_m_of_0 a_lands f_land_1 (6 : Int32) (fun r_6 => (¬ r_6 = (10 : Int32) → (q_m_of_0 a_lands f_land_1 (6 : Int32) (fun r_7 => (¬ r_7 = (5 : Int32) → (q_m_of_0 a_lands f_land_1 (6 : Int32) (fun r_8 => (¬ (r_8 - r_8 / (2 : Int32) * (2 : Int32)) = 0 → (q_m_odds_125 (0 : Int32) a_many a_lands a_evenings f_land_1 f_huts_1 f_singers_1 f_evening_1 a_at_1 a_knows_1 a_climbed_1 a_snow_1 a_level_1 f_begun_1 f_minute_1 f_avalanches_1 x3 (1 : Int32) post)) ∧ ((r_8 - r_8 / (2 : Int32) * (2 : Int32)) = 0 → (q_m_odds_125 (0 : Int32) a_many a_lands a_evenings f_land_1 f_huts_1 f_singers_1 f_evening_1 a_at_1 a_knows_1 a_climbed_1 a_snow_1 a_level_1 f_begun_1 f_minute_1 f_avalanches_1 x3 (2 : Int32) post))))) ∧ (r_7 = (5 : Int32) → (q_m_odds_125 (0 : Int32) a_many a_lands a_evenings f_land_1 f_huts_1 f_singers_1 f_evening_1 a_at_1 a_knows_1 a_climbed_1 a_snow_1 a_level_1 f_begun_1 f_minute_1 f_avalanches_1 x3 (5 : Int32) post))))) ∧ (r_6 = (10 : Int32) → (q_m_odds_90 (0 : Int32) a_many a_lands a_evenings f_land_1 f_huts_1 f_singers_1 f_evening_1 a_at_1 a_knows_1 a_climbed_1 a_snow_1 a_level_1 f_begun_1 f_minute_1 f_avalanches_1 x3 post)))))))) ∧ (¬ f_avalanches_1 ≤ (18 : Int32) → (post (-1 : Int64) (0 : Int32) f_land_1 f_huts_1 f_singers_1 f_evening_1 a_at_1 a_knows_1 a_climbed_1 a_snow_1 a_level_1 f_begun_1 f_minute_1 f_avalanches_1)))) ∧ (x3 = (2 : Int32) → (q_m_of_0 a_lands f_land_1 (6 : Int32) (fun r_9 => post (Int32.toInt64 (f_avalanches_1 * ((10 : Int32) - r_9))) (0 : Int32) f_land_1 f_huts_1 f_singers_1 f_evening_1 a_at_1 a_knows_1 a_climbed_1 a_snow_1 a_level_1 f_begun_1 f_minute_1 f_avalanches_1))))))) ∧ (r_2 = 0 → (post (-1 : Int64) (0 : Int32) f_land_1 f_huts_1 f_singers_1 f_evening_1 a_at a_knows a_climbed a_snow a_level f_begun f_minute f_avalanches))))))
set_option maxRecDepth 20000 in
theorem t_m_odds_136 {p : Program} {l : Launch} {e : Env} {s : State} {m : MethodId} {args : Array Value} {below : List Frame} {meth : Method} {c : Code} {E : zE} {q : Nat} {f_code : Int32} {a_tape : Nat → Int32} {a_size : Nat → Int32} {a_fault : Nat → Int32} {a_faultPlace : Nat → Int32} {a_many : Nat → Int32} {a_lands : Nat → Int32} {a_evenings : Nat → Int32} {a_sights : Nat → Int32} {a_choirs : Nat → Int32} {f_reached : Int32} {f_length : Int32} {f_begins : Int32} {f_sort : Int32} {f_value : Int32} {f_word : Int64} {f_wrongAt : Int32} {f_laterFault : Int32} {f_laterPlace : Int32} {a_told : Nat → Int32} {a_read : Nat → Int32} {f_farHut : Int32} {f_farSinger : Int32} {f_good : Int32} {f_land : Int32} {f_huts : Int32} {f_singers : Int32} {f_evening : Int32} {a_at : Nat → Int32} {a_knows : Nat → Int32} {a_climbed : Nat → Int32} {a_snow : Nat → Int32} {a_level : Nat → Int32} {f_begun : Int32} {f_minute : Int32} {f_avalanches : Int32} {a_run : Nat → Int32} {a_covers : Nat → Int32} {a_routes : Nat → Int32} {a_longest : Nat → Int32} {a_steep : Nat → Int32} {a_laid : Nat → Int32} {a_far : Nat → Int32} {f_sight : Int32} {a_runs : Nat → Int32} {f_choir : Int32} {f_voices : Int32} {a_rest : Nat → Int64} {a_wins : Nat → Int32} {f_seed : Int32} {a_other : Nat → Int32} {a_kept : Nat → Int32} {post : Int64 → (Int32) → (Int32) → (Int32) → (Int32) → (Int32) → (Nat → Int32) → (Nat → Int32) → (Nat → Int32) → (Nat → Int32) → (Nat → Int32) → (Int32) → (Int32) → (Int32) → Prop} {x3 : Int32} {x4 : Int32} {x5 : Int64} {x7 : Int64} {x9 : Int32} {ls : Array Slot} {H : Heap} {locs : List Loc}
    (zc : zC p s m args meth c cX11_odds 10 RX11 (some .long))
    (hK : zK E s)
    (hM : mW E q f_code a_tape a_size a_fault a_faultPlace a_many a_lands a_evenings a_sights a_choirs f_reached f_length f_begins f_sort f_value f_word f_wrongAt f_laterFault f_laterPlace a_told a_read f_farHut f_farSinger f_good f_land f_huts f_singers f_evening a_at a_knows a_climbed a_snow a_level f_begun f_minute f_avalanches a_run a_covers a_routes a_longest a_steep a_laid a_far f_sight a_runs f_choir f_voices a_rest a_wins f_seed a_other a_kept H)
    (hS : va_S (mA q) s.heap H locs)
    (hl : lv_has ls 10 [(0, .ref q), (3, .int x3), (4, .int x4), (5, .long x5), (7, .long x7), (9, .int x9)])
    (hw : q_m_odds_136 f_code a_many a_lands a_evenings f_land f_huts f_singers f_evening a_at a_knows a_climbed a_snow a_level f_begun f_minute f_avalanches x3 x4 x5 x7 x9 post) :
    W p l e rm_m_odds s m args below meth c H locs 0 0 (MQ below (zQl (S := (Int32) × (Int32) × (Int32) × (Int32) × (Int32) × (Nat → Int32) × (Nat → Int32) × (Nat → Int32) × (Nat → Int32) × (Nat → Int32) × (Int32) × (Int32) × (Int32)) (fun r u => post r u.1 u.2.1 u.2.2.1 u.2.2.2.1 u.2.2.2.2.1 u.2.2.2.2.2.1 u.2.2.2.2.2.2.1 u.2.2.2.2.2.2.2.1 u.2.2.2.2.2.2.2.2.1 u.2.2.2.2.2.2.2.2.2.1 u.2.2.2.2.2.2.2.2.2.2.1 u.2.2.2.2.2.2.2.2.2.2.2.1 u.2.2.2.2.2.2.2.2.2.2.2.2) (fun u H => mW E q u.1 a_tape a_size a_fault a_faultPlace a_many a_lands a_evenings a_sights a_choirs f_reached f_length f_begins f_sort f_value f_word f_wrongAt f_laterFault f_laterPlace a_told a_read f_farHut f_farSinger f_good u.2.1 u.2.2.1 u.2.2.2.1 u.2.2.2.2.1 u.2.2.2.2.2.1 u.2.2.2.2.2.2.1 u.2.2.2.2.2.2.2.1 u.2.2.2.2.2.2.2.2.1 u.2.2.2.2.2.2.2.2.2.1 u.2.2.2.2.2.2.2.2.2.2.1 u.2.2.2.2.2.2.2.2.2.2.2.1 u.2.2.2.2.2.2.2.2.2.2.2.2 a_run a_covers a_routes a_longest a_steep a_laid a_far f_sight a_runs f_choir f_voices a_rest a_wins f_seed a_other a_kept H) (mA q)) args s 0 0 (mA q)) (F0 m 136 ls []) := by
  have hx := zc.1
  have hb := zc.2.1
  refine hw (fun x5 x7 x9 => ∀ (H : Heap) (locs : List Loc) (ls : Array Slot), lv_has ls 10 [(0, .ref q), (3, .int x3), (4, .int x4), (5, .long x5), (7, .long x7), (9, .int x9)] → mW E q f_code a_tape a_size a_fault a_faultPlace a_many a_lands a_evenings a_sights a_choirs f_reached f_length f_begins f_sort f_value f_word f_wrongAt f_laterFault f_laterPlace a_told a_read f_farHut f_farSinger f_good f_land f_huts f_singers f_evening a_at a_knows a_climbed a_snow a_level f_begun f_minute f_avalanches a_run a_covers a_routes a_longest a_steep a_laid a_far f_sight a_runs f_choir f_voices a_rest a_wins f_seed a_other a_kept H → va_S (mA q) s.heap H locs → W p l e rm_m_odds s m args below meth c H locs 0 0 (MQ below (zQl (S := (Int32) × (Int32) × (Int32) × (Int32) × (Int32) × (Nat → Int32) × (Nat → Int32) × (Nat → Int32) × (Nat → Int32) × (Nat → Int32) × (Int32) × (Int32) × (Int32)) (fun r u => post r u.1 u.2.1 u.2.2.1 u.2.2.2.1 u.2.2.2.2.1 u.2.2.2.2.2.1 u.2.2.2.2.2.2.1 u.2.2.2.2.2.2.2.1 u.2.2.2.2.2.2.2.2.1 u.2.2.2.2.2.2.2.2.2.1 u.2.2.2.2.2.2.2.2.2.2.1 u.2.2.2.2.2.2.2.2.2.2.2.1 u.2.2.2.2.2.2.2.2.2.2.2.2) (fun u H => mW E q u.1 a_tape a_size a_fault a_faultPlace a_many a_lands a_evenings a_sights a_choirs f_reached f_length f_begins f_sort f_value f_word f_wrongAt f_laterFault f_laterPlace a_told a_read f_farHut f_farSinger f_good u.2.1 u.2.2.1 u.2.2.2.1 u.2.2.2.2.1 u.2.2.2.2.2.1 u.2.2.2.2.2.2.1 u.2.2.2.2.2.2.2.1 u.2.2.2.2.2.2.2.2.1 u.2.2.2.2.2.2.2.2.2.1 u.2.2.2.2.2.2.2.2.2.2.1 u.2.2.2.2.2.2.2.2.2.2.2.1 u.2.2.2.2.2.2.2.2.2.2.2.2 a_run a_covers a_routes a_longest a_steep a_laid a_far f_sight a_runs f_choir f_voices a_rest a_wins f_seed a_other a_kept H) (mA q)) args s 0 0 (mA q)) (F0 m 136 ls [])) ?_ _ _ _ hl hM hS
  intro x5 x7 x9 hw H locs ls hl hM hS
  refine lv_iload hx hb dX11_odds_136 (lv_at hl 5 rfl) ?_
  refine lv_aload_n hx hb dX11_odds_138 rfl (lv_at hl 0 rfl) ?_
  refine mg_11_346_0 zc hK hM dX11_odds_139 ?_
  refine lv_icmp_ge (tgt := 177) hx hb dX11_odds_142 (by decide) (fun hc => ?_) (fun hc => ?_)
  · have hw := hw.1 hc
    refine lv_iload_n hx hb dX11_odds_177 rfl (lv_at hl 1 rfl) ?_
    refine lv_if_ne (tgt := 186) hx hb dX11_odds_178 (by decide) (fun hc => ?_) (fun hc => ?_)
    · have hw := hw.1 hc
      refine lv_lload hx hb dX11_odds_186 (lv_at hl 4 rfl) ?_
      exact zret_lw ⟨f_code, f_land, f_huts, f_singers, f_evening, a_at, a_knows, a_climbed, a_snow, a_level, f_begun, f_minute, f_avalanches⟩ zc hS hw hM dX11_odds_188
    · have hw := hw.2 hc
      refine lv_lload hx hb dX11_odds_181 (lv_at hl 3 rfl) ?_
      refine lv_goto (tgt := 188) hx hb dX11_odds_183 (by decide) ?_
      exact zret_lw ⟨f_code, f_land, f_huts, f_singers, f_evening, a_at, a_knows, a_climbed, a_snow, a_level, f_begun, f_minute, f_avalanches⟩ zc hS hw hM dX11_odds_188
  · have hw := hw.2 hc
    refine lv_lload hx hb dX11_odds_145 (lv_at hl 3 rfl) ?_
    refine lv_aload_n hx hb dX11_odds_147 rfl (lv_at hl 0 rfl) ?_
    refine lv_bipush (v := (6 : Int32)) hx hb dX11_odds_148 (by decide) ?_
    refine zV_i [.int (6 : Int32)] [.long x5] zc ky_X11_of kz_X11_of km_11_303 (c_m_of l hw) (mPreV0 hK hM) rfl rfl hl.1 (Nat.le_of_ble_eq_true rfl) ⟨rfl, rfl⟩ ⟨Nat.le_of_ble_eq_true rfl, Nat.le_of_ble_eq_true rfl⟩ ⟨(Nat.zero_le _), (Nat.zero_le _)⟩ dX11_odds_150 (fun r_1 hw => ?_)
    refine lv_iload hx hb dX11_odds_153 (lv_at hl 2 rfl) ?_
    refine lv_idiv hx hb dX11_odds_155 hw.1 ?_
    have hw := hw.2
    refine lv_i2l hx hb dX11_odds_156 rfl ?_
    refine lv_lmul hx hb dX11_odds_157 ?_
    refine lv_topl (fun v_1 ev_1 => ?_)
    have hw := hw v_1 ev_1
    refine lv_lstore (lv' := [(5, .long v_1), (0, .ref q), (3, .int x3), (4, .int x4), (7, .long x7), (9, .int x9)]) hx hb dX11_odds_158 hl (by decide) rfl (fun ls hl => ?_)
    refine lv_lload hx hb dX11_odds_160 (lv_at hl 4 rfl) ?_
    refine lv_bipush (v := (10 : Int32)) hx hb dX11_odds_162 (by decide) ?_
    refine lv_iload hx hb dX11_odds_164 (lv_at hl 3 rfl) ?_
    refine lv_idiv hx hb dX11_odds_166 hw.1 ?_
    have hw := hw.2
    refine lv_i2l hx hb dX11_odds_167 rfl ?_
    refine lv_lmul hx hb dX11_odds_168 ?_
    refine lv_topl (fun v_2 ev_2 => ?_)
    have hw := hw v_2 ev_2
    refine lv_lstore (lv' := [(7, .long v_2), (5, .long v_1), (0, .ref q), (3, .int x3), (4, .int x4), (9, .int x9)]) hx hb dX11_odds_169 hl (by decide) rfl (fun ls hl => ?_)
    obtain ⟨v_3, ev_3⟩ : ∃ y : Int32, y = x9 + (1 : Int32) := ⟨_, rfl⟩
    have hw := hw v_3 ev_3
    refine lv_iinc (v := v_3) (k := 5) (lv' := [(9, .int v_3), (7, .long v_2), (5, .long v_1), (0, .ref q), (3, .int x3), (4, .int x4)]) hx hb dX11_odds_171 hl rfl (by rw [ev_3]; rfl) (by decide) rfl (fun ls hl => ?_)
    refine lv_goto (tgt := 136) hx hb dX11_odds_174 (by decide) ?_
    exact hw _ _ _ (lv_sub hl [3, 4, 5, 2, 1, 0] rfl) hM hS
set_option maxRecDepth 20000 in
theorem t_m_odds_125 {p : Program} {l : Launch} {e : Env} {s : State} {m : MethodId} {args : Array Value} {below : List Frame} {meth : Method} {c : Code} {E : zE} {q : Nat} {f_code : Int32} {a_tape : Nat → Int32} {a_size : Nat → Int32} {a_fault : Nat → Int32} {a_faultPlace : Nat → Int32} {a_many : Nat → Int32} {a_lands : Nat → Int32} {a_evenings : Nat → Int32} {a_sights : Nat → Int32} {a_choirs : Nat → Int32} {f_reached : Int32} {f_length : Int32} {f_begins : Int32} {f_sort : Int32} {f_value : Int32} {f_word : Int64} {f_wrongAt : Int32} {f_laterFault : Int32} {f_laterPlace : Int32} {a_told : Nat → Int32} {a_read : Nat → Int32} {f_farHut : Int32} {f_farSinger : Int32} {f_good : Int32} {f_land : Int32} {f_huts : Int32} {f_singers : Int32} {f_evening : Int32} {a_at : Nat → Int32} {a_knows : Nat → Int32} {a_climbed : Nat → Int32} {a_snow : Nat → Int32} {a_level : Nat → Int32} {f_begun : Int32} {f_minute : Int32} {f_avalanches : Int32} {a_run : Nat → Int32} {a_covers : Nat → Int32} {a_routes : Nat → Int32} {a_longest : Nat → Int32} {a_steep : Nat → Int32} {a_laid : Nat → Int32} {a_far : Nat → Int32} {f_sight : Int32} {a_runs : Nat → Int32} {f_choir : Int32} {f_voices : Int32} {a_rest : Nat → Int64} {a_wins : Nat → Int32} {f_seed : Int32} {a_other : Nat → Int32} {a_kept : Nat → Int32} {post : Int64 → (Int32) → (Int32) → (Int32) → (Int32) → (Int32) → (Nat → Int32) → (Nat → Int32) → (Nat → Int32) → (Nat → Int32) → (Nat → Int32) → (Int32) → (Int32) → (Int32) → Prop} {x3 : Int32} {y0 : Int32} {ls : Array Slot} {H : Heap} {locs : List Loc}
    (zc : zC p s m args meth c cX11_odds 10 RX11 (some .long))
    (hK : zK E s)
    (hM : mW E q f_code a_tape a_size a_fault a_faultPlace a_many a_lands a_evenings a_sights a_choirs f_reached f_length f_begins f_sort f_value f_word f_wrongAt f_laterFault f_laterPlace a_told a_read f_farHut f_farSinger f_good f_land f_huts f_singers f_evening a_at a_knows a_climbed a_snow a_level f_begun f_minute f_avalanches a_run a_covers a_routes a_longest a_steep a_laid a_far f_sight a_runs f_choir f_voices a_rest a_wins f_seed a_other a_kept H)
    (hS : va_S (mA q) s.heap H locs)
    (hl : lv_has ls 10 [(0, .ref q), (3, .int x3)])
    (hw : q_m_odds_125 f_code a_many a_lands a_evenings f_land f_huts f_singers f_evening a_at a_knows a_climbed a_snow a_level f_begun f_minute f_avalanches x3 y0 post) :
    W p l e rm_m_odds s m args below meth c H locs 0 0 (MQ below (zQl (S := (Int32) × (Int32) × (Int32) × (Int32) × (Int32) × (Nat → Int32) × (Nat → Int32) × (Nat → Int32) × (Nat → Int32) × (Nat → Int32) × (Int32) × (Int32) × (Int32)) (fun r u => post r u.1 u.2.1 u.2.2.1 u.2.2.2.1 u.2.2.2.2.1 u.2.2.2.2.2.1 u.2.2.2.2.2.2.1 u.2.2.2.2.2.2.2.1 u.2.2.2.2.2.2.2.2.1 u.2.2.2.2.2.2.2.2.2.1 u.2.2.2.2.2.2.2.2.2.2.1 u.2.2.2.2.2.2.2.2.2.2.2.1 u.2.2.2.2.2.2.2.2.2.2.2.2) (fun u H => mW E q u.1 a_tape a_size a_fault a_faultPlace a_many a_lands a_evenings a_sights a_choirs f_reached f_length f_begins f_sort f_value f_word f_wrongAt f_laterFault f_laterPlace a_told a_read f_farHut f_farSinger f_good u.2.1 u.2.2.1 u.2.2.2.1 u.2.2.2.2.1 u.2.2.2.2.2.1 u.2.2.2.2.2.2.1 u.2.2.2.2.2.2.2.1 u.2.2.2.2.2.2.2.2.1 u.2.2.2.2.2.2.2.2.2.1 u.2.2.2.2.2.2.2.2.2.2.1 u.2.2.2.2.2.2.2.2.2.2.2.1 u.2.2.2.2.2.2.2.2.2.2.2.2 a_run a_covers a_routes a_longest a_steep a_laid a_far f_sight a_runs f_choir f_voices a_rest a_wins f_seed a_other a_kept H) (mA q)) args s 0 0 (mA q)) (F0 m 125 ls [.int y0]) := by
  have hx := zc.1
  have hb := zc.2.1
  refine lv_istore (lv' := [(4, .int y0), (0, .ref q), (3, .int x3)]) hx hb dX11_odds_125 hl (by decide) rfl (fun ls hl => ?_)
  refine lv_lconst (v := (1 : Int64)) hx hb dX11_odds_127 (by decide) ?_
  refine lv_lstore (lv' := [(5, .long (1 : Int64)), (4, .int y0), (0, .ref q), (3, .int x3)]) hx hb dX11_odds_128 hl (by decide) rfl (fun ls hl => ?_)
  refine lv_lconst (v := (1 : Int64)) hx hb dX11_odds_130 (by decide) ?_
  refine lv_lstore (lv' := [(7, .long (1 : Int64)), (5, .long (1 : Int64)), (4, .int y0), (0, .ref q), (3, .int x3)]) hx hb dX11_odds_131 hl (by decide) rfl (fun ls hl => ?_)
  refine lv_iconst (v := (0 : Int32)) hx hb dX11_odds_133 (by decide) ?_
  refine lv_istore (lv' := [(9, .int (0 : Int32)), (7, .long (1 : Int64)), (5, .long (1 : Int64)), (4, .int y0), (0, .ref q), (3, .int x3)]) hx hb dX11_odds_134 hl (by decide) rfl (fun ls hl => ?_)
  exact t_m_odds_136 zc hK hM hS  (lv_sub hl [4, 5, 3, 2, 1, 0] rfl) hw
set_option maxRecDepth 20000 in
theorem t_m_odds_90 {p : Program} {l : Launch} {e : Env} {s : State} {m : MethodId} {args : Array Value} {below : List Frame} {meth : Method} {c : Code} {E : zE} {q : Nat} {f_code : Int32} {a_tape : Nat → Int32} {a_size : Nat → Int32} {a_fault : Nat → Int32} {a_faultPlace : Nat → Int32} {a_many : Nat → Int32} {a_lands : Nat → Int32} {a_evenings : Nat → Int32} {a_sights : Nat → Int32} {a_choirs : Nat → Int32} {f_reached : Int32} {f_length : Int32} {f_begins : Int32} {f_sort : Int32} {f_value : Int32} {f_word : Int64} {f_wrongAt : Int32} {f_laterFault : Int32} {f_laterPlace : Int32} {a_told : Nat → Int32} {a_read : Nat → Int32} {f_farHut : Int32} {f_farSinger : Int32} {f_good : Int32} {f_land : Int32} {f_huts : Int32} {f_singers : Int32} {f_evening : Int32} {a_at : Nat → Int32} {a_knows : Nat → Int32} {a_climbed : Nat → Int32} {a_snow : Nat → Int32} {a_level : Nat → Int32} {f_begun : Int32} {f_minute : Int32} {f_avalanches : Int32} {a_run : Nat → Int32} {a_covers : Nat → Int32} {a_routes : Nat → Int32} {a_longest : Nat → Int32} {a_steep : Nat → Int32} {a_laid : Nat → Int32} {a_far : Nat → Int32} {f_sight : Int32} {a_runs : Nat → Int32} {f_choir : Int32} {f_voices : Int32} {a_rest : Nat → Int64} {a_wins : Nat → Int32} {f_seed : Int32} {a_other : Nat → Int32} {a_kept : Nat → Int32} {post : Int64 → (Int32) → (Int32) → (Int32) → (Int32) → (Int32) → (Nat → Int32) → (Nat → Int32) → (Nat → Int32) → (Nat → Int32) → (Nat → Int32) → (Int32) → (Int32) → (Int32) → Prop} {x3 : Int32} {ls : Array Slot} {H : Heap} {locs : List Loc}
    (zc : zC p s m args meth c cX11_odds 10 RX11 (some .long))
    (hK : zK E s)
    (hM : mW E q f_code a_tape a_size a_fault a_faultPlace a_many a_lands a_evenings a_sights a_choirs f_reached f_length f_begins f_sort f_value f_word f_wrongAt f_laterFault f_laterPlace a_told a_read f_farHut f_farSinger f_good f_land f_huts f_singers f_evening a_at a_knows a_climbed a_snow a_level f_begun f_minute f_avalanches a_run a_covers a_routes a_longest a_steep a_laid a_far f_sight a_runs f_choir f_voices a_rest a_wins f_seed a_other a_kept H)
    (hS : va_S (mA q) s.heap H locs)
    (hl : lv_has ls 10 [(0, .ref q), (3, .int x3)])
    (hw : q_m_odds_90 f_code a_many a_lands a_evenings f_land f_huts f_singers f_evening a_at a_knows a_climbed a_snow a_level f_begun f_minute f_avalanches x3 post) :
    W p l e rm_m_odds s m args below meth c H locs 0 0 (MQ below (zQl (S := (Int32) × (Int32) × (Int32) × (Int32) × (Int32) × (Nat → Int32) × (Nat → Int32) × (Nat → Int32) × (Nat → Int32) × (Nat → Int32) × (Int32) × (Int32) × (Int32)) (fun r u => post r u.1 u.2.1 u.2.2.1 u.2.2.2.1 u.2.2.2.2.1 u.2.2.2.2.2.1 u.2.2.2.2.2.2.1 u.2.2.2.2.2.2.2.1 u.2.2.2.2.2.2.2.2.1 u.2.2.2.2.2.2.2.2.2.1 u.2.2.2.2.2.2.2.2.2.2.1 u.2.2.2.2.2.2.2.2.2.2.2.1 u.2.2.2.2.2.2.2.2.2.2.2.2) (fun u H => mW E q u.1 a_tape a_size a_fault a_faultPlace a_many a_lands a_evenings a_sights a_choirs f_reached f_length f_begins f_sort f_value f_word f_wrongAt f_laterFault f_laterPlace a_told a_read f_farHut f_farSinger f_good u.2.1 u.2.2.1 u.2.2.2.1 u.2.2.2.2.1 u.2.2.2.2.2.1 u.2.2.2.2.2.2.1 u.2.2.2.2.2.2.2.1 u.2.2.2.2.2.2.2.2.1 u.2.2.2.2.2.2.2.2.2.1 u.2.2.2.2.2.2.2.2.2.2.1 u.2.2.2.2.2.2.2.2.2.2.2.1 u.2.2.2.2.2.2.2.2.2.2.2.2 a_run a_covers a_routes a_longest a_steep a_laid a_far f_sight a_runs f_choir f_voices a_rest a_wins f_seed a_other a_kept H) (mA q)) args s 0 0 (mA q)) (F0 m 90 ls []) := by
  have hx := zc.1
  have hb := zc.2.1
  refine lv_bipush (v := (10 : Int32)) hx hb dX11_odds_90 (by decide) ?_
  refine lv_goto (tgt := 125) hx hb dX11_odds_92 (by decide) ?_
  exact t_m_odds_125 zc hK hM hS  (lv_sub hl [0, 1] rfl) hw
set_option maxRecDepth 20000 in
theorem t_m_odds_0 {p : Program} {l : Launch} {e : Env} {s : State} {m : MethodId} {args : Array Value} {below : List Frame} {meth : Method} {c : Code} {E : zE} {q : Nat} {f_code : Int32} {a_tape : Nat → Int32} {a_size : Nat → Int32} {a_fault : Nat → Int32} {a_faultPlace : Nat → Int32} {a_many : Nat → Int32} {a_lands : Nat → Int32} {a_evenings : Nat → Int32} {a_sights : Nat → Int32} {a_choirs : Nat → Int32} {f_reached : Int32} {f_length : Int32} {f_begins : Int32} {f_sort : Int32} {f_value : Int32} {f_word : Int64} {f_wrongAt : Int32} {f_laterFault : Int32} {f_laterPlace : Int32} {a_told : Nat → Int32} {a_read : Nat → Int32} {f_farHut : Int32} {f_farSinger : Int32} {f_good : Int32} {f_land : Int32} {f_huts : Int32} {f_singers : Int32} {f_evening : Int32} {a_at : Nat → Int32} {a_knows : Nat → Int32} {a_climbed : Nat → Int32} {a_snow : Nat → Int32} {a_level : Nat → Int32} {f_begun : Int32} {f_minute : Int32} {f_avalanches : Int32} {a_run : Nat → Int32} {a_covers : Nat → Int32} {a_routes : Nat → Int32} {a_longest : Nat → Int32} {a_steep : Nat → Int32} {a_laid : Nat → Int32} {a_far : Nat → Int32} {f_sight : Int32} {a_runs : Nat → Int32} {f_choir : Int32} {f_voices : Int32} {a_rest : Nat → Int64} {a_wins : Nat → Int32} {f_seed : Int32} {a_other : Nat → Int32} {a_kept : Nat → Int32} {post : Int64 → (Int32) → (Int32) → (Int32) → (Int32) → (Int32) → (Nat → Int32) → (Nat → Int32) → (Nat → Int32) → (Nat → Int32) → (Nat → Int32) → (Int32) → (Int32) → (Int32) → Prop} {x1 : Int32} {x2 : Int32} {x3 : Int32} {ls : Array Slot} {H : Heap} {locs : List Loc}
    (zc : zC p s m args meth c cX11_odds 10 RX11 (some .long))
    (hK : zK E s)
    (hM : mW E q f_code a_tape a_size a_fault a_faultPlace a_many a_lands a_evenings a_sights a_choirs f_reached f_length f_begins f_sort f_value f_word f_wrongAt f_laterFault f_laterPlace a_told a_read f_farHut f_farSinger f_good f_land f_huts f_singers f_evening a_at a_knows a_climbed a_snow a_level f_begun f_minute f_avalanches a_run a_covers a_routes a_longest a_steep a_laid a_far f_sight a_runs f_choir f_voices a_rest a_wins f_seed a_other a_kept H)
    (hS : va_S (mA q) s.heap H locs)
    (hl : lv_has ls 10 [(0, .ref q), (1, .int x1), (2, .int x2), (3, .int x3)])
    (hw : q_m_odds_0 f_code a_many a_lands a_evenings f_land f_huts f_singers f_evening a_at a_knows a_climbed a_snow a_level f_begun f_minute f_avalanches x1 x2 x3 post) :
    W p l e rm_m_odds s m args below meth c H locs 0 0 (MQ below (zQl (S := (Int32) × (Int32) × (Int32) × (Int32) × (Int32) × (Nat → Int32) × (Nat → Int32) × (Nat → Int32) × (Nat → Int32) × (Nat → Int32) × (Int32) × (Int32) × (Int32)) (fun r u => post r u.1 u.2.1 u.2.2.1 u.2.2.2.1 u.2.2.2.2.1 u.2.2.2.2.2.1 u.2.2.2.2.2.2.1 u.2.2.2.2.2.2.2.1 u.2.2.2.2.2.2.2.2.1 u.2.2.2.2.2.2.2.2.2.1 u.2.2.2.2.2.2.2.2.2.2.1 u.2.2.2.2.2.2.2.2.2.2.2.1 u.2.2.2.2.2.2.2.2.2.2.2.2) (fun u H => mW E q u.1 a_tape a_size a_fault a_faultPlace a_many a_lands a_evenings a_sights a_choirs f_reached f_length f_begins f_sort f_value f_word f_wrongAt f_laterFault f_laterPlace a_told a_read f_farHut f_farSinger f_good u.2.1 u.2.2.1 u.2.2.2.1 u.2.2.2.2.1 u.2.2.2.2.2.1 u.2.2.2.2.2.2.1 u.2.2.2.2.2.2.2.1 u.2.2.2.2.2.2.2.2.1 u.2.2.2.2.2.2.2.2.2.1 u.2.2.2.2.2.2.2.2.2.2.1 u.2.2.2.2.2.2.2.2.2.2.2.1 u.2.2.2.2.2.2.2.2.2.2.2.2 a_run a_covers a_routes a_longest a_steep a_laid a_far f_sight a_runs f_choir f_voices a_rest a_wins f_seed a_other a_kept H) (mA q)) args s 0 0 (mA q)) (F0 m 0 ls []) := by
  have hx := zc.1
  have hb := zc.2.1
  refine lv_aload_n hx hb dX11_odds_0 rfl (lv_at hl 0 rfl) ?_
  refine lv_iconst (v := (0 : Int32)) hx hb dX11_odds_1 (by decide) ?_
  refine mp_11_97_0 zc hK hM hS dX11_odds_2 (fun H locs hM hS => ?_)
  refine lv_iload_n hx hb dX11_odds_5 rfl (lv_at hl 3 rfl) ?_
  refine lv_iconst (v := (0 : Int32)) hx hb dX11_odds_6 (by decide) ?_
  refine lv_iconst (v := (2 : Int32)) hx hb dX11_odds_7 (by decide) ?_
  refine zS_i [.int x3, .int (0 : Int32), .int (2 : Int32)] [] zc ky_X11_in kz_X11_in km_11_109 (c_m_in l hw) (zPre0 _) rfl rfl hl.1 (Nat.le_of_ble_eq_true rfl) ⟨rfl, rfl⟩ ⟨Nat.le_of_ble_eq_true rfl, Nat.le_of_ble_eq_true rfl⟩ ⟨(Nat.zero_le _), (Nat.zero_le _)⟩ dX11_odds_8 (fun r_1 hw => ?_)
  refine lv_if_eq (tgt := 23) hx hb dX11_odds_11 (by decide) (fun hc => ?_) (fun hc => ?_)
  · have hw := hw.1 hc
    refine lv_ldc2 (v := (-1 : Int64)) hx hb zc.2.2.2.1 (zc.2.2.2.2.1 _ kc_11_503) dX11_odds_23 ?_
    exact zret_lw ⟨(0 : Int32), f_land, f_huts, f_singers, f_evening, a_at, a_knows, a_climbed, a_snow, a_level, f_begun, f_minute, f_avalanches⟩ zc hS hw hM dX11_odds_26
  · have hw := hw.2 hc
    refine lv_aload_n hx hb dX11_odds_14 rfl (lv_at hl 0 rfl) ?_
    refine lv_iload_n hx hb dX11_odds_15 rfl (lv_at hl 1 rfl) ?_
    refine lv_iload_n hx hb dX11_odds_16 rfl (lv_at hl 2 rfl) ?_
    refine zVw_i [.int x1, .int x2] [] zc ky_X11_layAll kz_X11_layAll km_11_383 (c_m_layAll l hw) (mPreV0 hK hM) hS rfl rfl hl.1 (Nat.le_of_ble_eq_true rfl) ⟨rfl, rfl⟩ ⟨Nat.le_of_ble_eq_true rfl, Nat.le_of_ble_eq_true rfl⟩ ⟨(Nat.zero_le _), (Nat.zero_le _)⟩ dX11_odds_17 (fun r_2 u H locs hw hM hS => ?_)
    obtain ⟨f_land_1, f_huts_1, f_singers_1, f_evening_1⟩ := u
    refine lv_if_ne (tgt := 27) hx hb dX11_odds_20 (by decide) (fun hc => ?_) (fun hc => ?_)
    · have hw := hw.1 hc
      refine lv_aload_n hx hb dX11_odds_27 rfl (lv_at hl 0 rfl) ?_
      refine lv_aload_n hx hb dX11_odds_28 rfl (lv_at hl 0 rfl) ?_
      refine zV_i [] [.ref q] zc ky_X11_deeds kz_X11_deeds km_11_334 (c_m_deeds l hw) (mPreV0 hK hM) rfl rfl hl.1 (Nat.le_of_ble_eq_true rfl) ⟨rfl, rfl⟩ ⟨Nat.le_of_ble_eq_true rfl, Nat.le_of_ble_eq_true rfl⟩ ⟨(Nat.zero_le _), (Nat.zero_le _)⟩ dX11_odds_29 (fun r_3 hw => ?_)
      refine zVw_i [.int r_3] [] zc ky_X11_play kz_X11_play km_11_386 (c_m_play l hw) (mPreV0 hK hM) hS rfl rfl hl.1 (Nat.le_of_ble_eq_true rfl) ⟨rfl, rfl⟩ ⟨Nat.le_of_ble_eq_true rfl, Nat.le_of_ble_eq_true rfl⟩ ⟨(Nat.zero_le _), (Nat.zero_le _)⟩ dX11_odds_32 (fun r_4 u H locs hw hM hS => ?_)
      obtain ⟨a_at_1, a_knows_1, a_climbed_1, a_snow_1, a_level_1, f_begun_1, f_minute_1, f_avalanches_1⟩ := u
      refine lv_pop hx hb dX11_odds_35 rfl ?_
      refine lv_iload_n hx hb dX11_odds_36 rfl (lv_at hl 3 rfl) ?_
      refine lv_iconst (v := (2 : Int32)) hx hb dX11_odds_37 (by decide) ?_
      refine lv_icmp_ne (tgt := 57) hx hb dX11_odds_38 (by decide) (fun hc => ?_) (fun hc => ?_)
      · have hw := hw.1 hc
        refine lv_aload_n hx hb dX11_odds_57 rfl (lv_at hl 0 rfl) ?_
        refine mg_11_346_0 zc hK hM dX11_odds_58 ?_
        refine lv_bipush (v := (18 : Int32)) hx hb dX11_odds_61 (by decide) ?_
        refine lv_icmp_le (tgt := 70) hx hb dX11_odds_63 (by decide) (fun hc => ?_) (fun hc => ?_)
        · have hw := hw.1 hc
          refine lv_aload_n hx hb dX11_odds_70 rfl (lv_at hl 0 rfl) ?_
          refine lv_bipush (v := (6 : Int32)) hx hb dX11_odds_71 (by decide) ?_
          refine zV_i [.int (6 : Int32)] [] zc ky_X11_of kz_X11_of km_11_303 (c_m_of l hw) (mPreV0 hK hM) rfl rfl hl.1 (Nat.le_of_ble_eq_true rfl) ⟨rfl, rfl⟩ ⟨Nat.le_of_ble_eq_true rfl, Nat.le_of_ble_eq_true rfl⟩ ⟨(Nat.zero_le _), (Nat.zero_le _)⟩ dX11_odds_73 (fun r_5 hw => ?_)
          refine lv_if_eq (tgt := 90) hx hb dX11_odds_76 (by decide) (fun hc => ?_) (fun hc => ?_)
          · have hw := hw.1 hc
            exact t_m_odds_90 zc hK hM hS  (lv_sub hl [0, 3] rfl) hw
          · have hw := hw.2 hc
            refine lv_aload_n hx hb dX11_odds_79 rfl (lv_at hl 0 rfl) ?_
            refine lv_bipush (v := (6 : Int32)) hx hb dX11_odds_80 (by decide) ?_
            refine zV_i [.int (6 : Int32)] [] zc ky_X11_of kz_X11_of km_11_303 (c_m_of l hw) (mPreV0 hK hM) rfl rfl hl.1 (Nat.le_of_ble_eq_true rfl) ⟨rfl, rfl⟩ ⟨Nat.le_of_ble_eq_true rfl, Nat.le_of_ble_eq_true rfl⟩ ⟨(Nat.zero_le _), (Nat.zero_le _)⟩ dX11_odds_82 (fun r_6 hw => ?_)
            refine lv_bipush (v := (10 : Int32)) hx hb dX11_odds_85 (by decide) ?_
            refine lv_icmp_ne (tgt := 95) hx hb dX11_odds_87 (by decide) (fun hc => ?_) (fun hc => ?_)
            · have hw := hw.1 hc
              refine lv_aload_n hx hb dX11_odds_95 rfl (lv_at hl 0 rfl) ?_
              refine lv_bipush (v := (6 : Int32)) hx hb dX11_odds_96 (by decide) ?_
              refine zV_i [.int (6 : Int32)] [] zc ky_X11_of kz_X11_of km_11_303 (c_m_of l hw) (mPreV0 hK hM) rfl rfl hl.1 (Nat.le_of_ble_eq_true rfl) ⟨rfl, rfl⟩ ⟨Nat.le_of_ble_eq_true rfl, Nat.le_of_ble_eq_true rfl⟩ ⟨(Nat.zero_le _), (Nat.zero_le _)⟩ dX11_odds_98 (fun r_7 hw => ?_)
              refine lv_iconst (v := (5 : Int32)) hx hb dX11_odds_101 (by decide) ?_
              refine lv_icmp_ne (tgt := 109) hx hb dX11_odds_102 (by decide) (fun hc => ?_) (fun hc => ?_)
              · have hw := hw.1 hc
                refine lv_aload_n hx hb dX11_odds_109 rfl (lv_at hl 0 rfl) ?_
                refine lv_bipush (v := (6 : Int32)) hx hb dX11_odds_110 (by decide) ?_
                refine zV_i [.int (6 : Int32)] [] zc ky_X11_of kz_X11_of km_11_303 (c_m_of l hw) (mPreV0 hK hM) rfl rfl hl.1 (Nat.le_of_ble_eq_true rfl) ⟨rfl, rfl⟩ ⟨Nat.le_of_ble_eq_true rfl, Nat.le_of_ble_eq_true rfl⟩ ⟨(Nat.zero_le _), (Nat.zero_le _)⟩ dX11_odds_112 (fun r_8 hw => ?_)
                refine lv_iconst (v := (2 : Int32)) hx hb dX11_odds_115 (by decide) ?_
                refine lv_irem hx hb dX11_odds_116 (by decide) ?_
                refine lv_if_ne (tgt := 124) hx hb dX11_odds_117 (by decide) (fun hc => ?_) (fun hc => ?_)
                · have hw := hw.1 hc
                  refine lv_iconst (v := (1 : Int32)) hx hb dX11_odds_124 (by decide) ?_
                  exact t_m_odds_125 zc hK hM hS  (lv_sub hl [0, 3] rfl) hw
                · have hw := hw.2 hc
                  refine lv_iconst (v := (2 : Int32)) hx hb dX11_odds_120 (by decide) ?_
                  refine lv_goto (tgt := 125) hx hb dX11_odds_121 (by decide) ?_
                  exact t_m_odds_125 zc hK hM hS  (lv_sub hl [0, 3] rfl) hw
              · have hw := hw.2 hc
                refine lv_iconst (v := (5 : Int32)) hx hb dX11_odds_105 (by decide) ?_
                refine lv_goto (tgt := 125) hx hb dX11_odds_106 (by decide) ?_
                exact t_m_odds_125 zc hK hM hS  (lv_sub hl [0, 3] rfl) hw
            · have hw := hw.2 hc
              exact t_m_odds_90 zc hK hM hS  (lv_sub hl [0, 3] rfl) hw
        · have hw := hw.2 hc
          refine lv_ldc2 (v := (-1 : Int64)) hx hb zc.2.2.2.1 (zc.2.2.2.2.1 _ kc_11_503) dX11_odds_66 ?_
          exact zret_lw ⟨(0 : Int32), f_land_1, f_huts_1, f_singers_1, f_evening_1, a_at_1, a_knows_1, a_climbed_1, a_snow_1, a_level_1, f_begun_1, f_minute_1, f_avalanches_1⟩ zc hS hw hM dX11_odds_69
      · have hw := hw.2 hc
        refine lv_aload_n hx hb dX11_odds_41 rfl (lv_at hl 0 rfl) ?_
        refine mg_11_346_0 zc hK hM dX11_odds_42 ?_
        refine lv_bipush (v := (10 : Int32)) hx hb dX11_odds_45 (by decide) ?_
        refine lv_aload_n hx hb dX11_odds_47 rfl (lv_at hl 0 rfl) ?_
        refine lv_bipush (v := (6 : Int32)) hx hb dX11_odds_48 (by decide) ?_
        refine zV_i [.int (6 : Int32)] [.int (10 : Int32), .int f_avalanches_1] zc ky_X11_of kz_X11_of km_11_303 (c_m_of l hw) (mPreV0 hK hM) rfl rfl hl.1 (Nat.le_of_ble_eq_true rfl) ⟨rfl, rfl⟩ ⟨Nat.le_of_ble_eq_true rfl, Nat.le_of_ble_eq_true rfl⟩ ⟨(Nat.zero_le _), (Nat.zero_le _)⟩ dX11_odds_50 (fun r_9 hw => ?_)
        refine lv_isub hx hb dX11_odds_53 ?_
        refine lv_imul hx hb dX11_odds_54 ?_
        refine lv_i2l hx hb dX11_odds_55 rfl ?_
        exact zret_lw ⟨(0 : Int32), f_land_1, f_huts_1, f_singers_1, f_evening_1, a_at_1, a_knows_1, a_climbed_1, a_snow_1, a_level_1, f_begun_1, f_minute_1, f_avalanches_1⟩ zc hS hw hM dX11_odds_56
    · have hw := hw.2 hc
      refine lv_ldc2 (v := (-1 : Int64)) hx hb zc.2.2.2.1 (zc.2.2.2.2.1 _ kc_11_503) dX11_odds_23 ?_
      exact zret_lw ⟨(0 : Int32), f_land_1, f_huts_1, f_singers_1, f_evening_1, a_at, a_knows, a_climbed, a_snow, a_level, f_begun, f_minute, f_avalanches⟩ zc hS hw hM dX11_odds_26
set_option maxRecDepth 20000 in
theorem c_m_odds (l : Launch) {E : zE} {q : Nat} {f_code : Int32} {a_tape : Nat → Int32} {a_size : Nat → Int32} {a_fault : Nat → Int32} {a_faultPlace : Nat → Int32} {a_many : Nat → Int32} {a_lands : Nat → Int32} {a_evenings : Nat → Int32} {a_sights : Nat → Int32} {a_choirs : Nat → Int32} {f_reached : Int32} {f_length : Int32} {f_begins : Int32} {f_sort : Int32} {f_value : Int32} {f_word : Int64} {f_wrongAt : Int32} {f_laterFault : Int32} {f_laterPlace : Int32} {a_told : Nat → Int32} {a_read : Nat → Int32} {f_farHut : Int32} {f_farSinger : Int32} {f_good : Int32} {f_land : Int32} {f_huts : Int32} {f_singers : Int32} {f_evening : Int32} {a_at : Nat → Int32} {a_knows : Nat → Int32} {a_climbed : Nat → Int32} {a_snow : Nat → Int32} {a_level : Nat → Int32} {f_begun : Int32} {f_minute : Int32} {f_avalanches : Int32} {a_run : Nat → Int32} {a_covers : Nat → Int32} {a_routes : Nat → Int32} {a_longest : Nat → Int32} {a_steep : Nat → Int32} {a_laid : Nat → Int32} {a_far : Nat → Int32} {f_sight : Int32} {a_runs : Nat → Int32} {f_choir : Int32} {f_voices : Int32} {a_rest : Nat → Int64} {a_wins : Nat → Int32} {f_seed : Int32} {a_other : Nat → Int32} {a_kept : Nat → Int32} {x1 : Int32} {x2 : Int32} {x3 : Int32} {post : Int64 → (Int32) → (Int32) → (Int32) → (Int32) → (Int32) → (Nat → Int32) → (Nat → Int32) → (Nat → Int32) → (Nat → Int32) → (Nat → Int32) → (Int32) → (Int32) → (Int32) → Prop} (hw : q_m_odds_0 f_code a_many a_lands a_evenings f_land f_huts f_singers f_evening a_at a_knows a_climbed a_snow a_level f_begun f_minute f_avalanches x1 x2 x3 post) : Met l yX11_odds (Cond.code yX11_odds cX11_odds 10 (some .long) :: zb) rm_m_odds (va_Pc [.ref q, .int x1, .int x2, .int x3] (fun U => mW E q f_code a_tape a_size a_fault a_faultPlace a_many a_lands a_evenings a_sights a_choirs f_reached f_length f_begins f_sort f_value f_word f_wrongAt f_laterFault f_laterPlace a_told a_read f_farHut f_farSinger f_good f_land f_huts f_singers f_evening a_at a_knows a_climbed a_snow a_level f_begun f_minute f_avalanches a_run a_covers a_routes a_longest a_steep a_laid a_far f_sight a_runs f_choir f_voices a_rest a_wins f_seed a_other a_kept U.heap ∧ zK E U)) (zQl (S := (Int32) × (Int32) × (Int32) × (Int32) × (Int32) × (Nat → Int32) × (Nat → Int32) × (Nat → Int32) × (Nat → Int32) × (Nat → Int32) × (Int32) × (Int32) × (Int32)) (fun r u => post r u.1 u.2.1 u.2.2.1 u.2.2.2.1 u.2.2.2.2.1 u.2.2.2.2.2.1 u.2.2.2.2.2.2.1 u.2.2.2.2.2.2.2.1 u.2.2.2.2.2.2.2.2.1 u.2.2.2.2.2.2.2.2.2.1 u.2.2.2.2.2.2.2.2.2.2.1 u.2.2.2.2.2.2.2.2.2.2.2.1 u.2.2.2.2.2.2.2.2.2.2.2.2) (fun u H => mW E q u.1 a_tape a_size a_fault a_faultPlace a_many a_lands a_evenings a_sights a_choirs f_reached f_length f_begins f_sort f_value f_word f_wrongAt f_laterFault f_laterPlace a_told a_read f_farHut f_farSinger f_good u.2.1 u.2.2.1 u.2.2.2.1 u.2.2.2.2.1 u.2.2.2.2.2.1 u.2.2.2.2.2.2.1 u.2.2.2.2.2.2.2.1 u.2.2.2.2.2.2.2.2.1 u.2.2.2.2.2.2.2.2.2.1 u.2.2.2.2.2.2.2.2.2.2.1 u.2.2.2.2.2.2.2.2.2.2.2.1 u.2.2.2.2.2.2.2.2.2.2.2.2 a_run a_covers a_routes a_longest a_steep a_laid a_far f_sight a_runs f_choir f_voices a_rest a_wins f_seed a_other a_kept H) (mA q)) 0 0 (mA q) := by
  refine Met.ofW (cc := cX11_odds) (maxL := 10) (ret := (some .long)) (by decide) rfl ?_
  intro p e s m args below meth c s₁ B hml hv
  obtain ⟨rfl, hM, hK⟩ := hv
  have zc := zc_of B hml
  have hl := lv_entry ([.ref q, .int x1, .int x2, .int x3]) (n := 10) (Nat.le_of_ble_eq_true rfl)
  rw [lg_entry_eq]
  generalize (lg_sl ([.ref q, .int x1, .int x2, .int x3]) ++ List.replicate (10 - (lg_sl ([.ref q, .int x1, .int x2, .int x3])).length) Slot.unset).toArray = ls at hl ⊢
  have hl : lv_has ls 10 [(0, .ref q), (1, .int x1), (2, .int x2), (3, .int x3)] := hl
  exact t_m_odds_0 zc hK hM va_S.rf (lv_sub hl [0, 1, 2, 3] rfl) hw
-- m_draw
abbrev rm_m_draw : Room := { frames := 0, cells := 0, slots := 0, locals := 0 }
def q_m_draw_0 (f_seed : Int32) (x1 : Int32) (post : Int32 → (Int32) → Prop) : Prop :=
  ∀ v_1 : Int32, v_1 = ((f_seed * (1103515245 : Int32)) + (12345 : Int32)) → (¬ x1 = 0 ∧ (post ((Int32.toUInt32 v_1 >>> (Int32.toUInt32 (16 : Int32) &&& Int32.toUInt32 31)).toInt32 - (Int32.toUInt32 v_1 >>> (Int32.toUInt32 (16 : Int32) &&& Int32.toUInt32 31)).toInt32 / x1 * x1) v_1))
set_option maxRecDepth 20000 in
theorem t_m_draw_0 {p : Program} {l : Launch} {e : Env} {s : State} {m : MethodId} {args : Array Value} {below : List Frame} {meth : Method} {c : Code} {E : zE} {q : Nat} {f_code : Int32} {a_tape : Nat → Int32} {a_size : Nat → Int32} {a_fault : Nat → Int32} {a_faultPlace : Nat → Int32} {a_many : Nat → Int32} {a_lands : Nat → Int32} {a_evenings : Nat → Int32} {a_sights : Nat → Int32} {a_choirs : Nat → Int32} {f_reached : Int32} {f_length : Int32} {f_begins : Int32} {f_sort : Int32} {f_value : Int32} {f_word : Int64} {f_wrongAt : Int32} {f_laterFault : Int32} {f_laterPlace : Int32} {a_told : Nat → Int32} {a_read : Nat → Int32} {f_farHut : Int32} {f_farSinger : Int32} {f_good : Int32} {f_land : Int32} {f_huts : Int32} {f_singers : Int32} {f_evening : Int32} {a_at : Nat → Int32} {a_knows : Nat → Int32} {a_climbed : Nat → Int32} {a_snow : Nat → Int32} {a_level : Nat → Int32} {f_begun : Int32} {f_minute : Int32} {f_avalanches : Int32} {a_run : Nat → Int32} {a_covers : Nat → Int32} {a_routes : Nat → Int32} {a_longest : Nat → Int32} {a_steep : Nat → Int32} {a_laid : Nat → Int32} {a_far : Nat → Int32} {f_sight : Int32} {a_runs : Nat → Int32} {f_choir : Int32} {f_voices : Int32} {a_rest : Nat → Int64} {a_wins : Nat → Int32} {f_seed : Int32} {a_other : Nat → Int32} {a_kept : Nat → Int32} {post : Int32 → (Int32) → Prop} {x1 : Int32} {ls : Array Slot} {H : Heap} {locs : List Loc}
    (zc : zC p s m args meth c cX11_draw 2 RX11 (some .int))
    (hK : zK E s)
    (hM : mW E q f_code a_tape a_size a_fault a_faultPlace a_many a_lands a_evenings a_sights a_choirs f_reached f_length f_begins f_sort f_value f_word f_wrongAt f_laterFault f_laterPlace a_told a_read f_farHut f_farSinger f_good f_land f_huts f_singers f_evening a_at a_knows a_climbed a_snow a_level f_begun f_minute f_avalanches a_run a_covers a_routes a_longest a_steep a_laid a_far f_sight a_runs f_choir f_voices a_rest a_wins f_seed a_other a_kept H)
    (hS : va_S (mA q) s.heap H locs)
    (hl : lv_has ls 2 [(0, .ref q), (1, .int x1)])
    (hw : q_m_draw_0 f_seed x1 post) :
    W p l e rm_m_draw s m args below meth c H locs 0 0 (MQ below (zQi (S := (Int32)) (fun r u => post r u) (fun u H => mW E q f_code a_tape a_size a_fault a_faultPlace a_many a_lands a_evenings a_sights a_choirs f_reached f_length f_begins f_sort f_value f_word f_wrongAt f_laterFault f_laterPlace a_told a_read f_farHut f_farSinger f_good f_land f_huts f_singers f_evening a_at a_knows a_climbed a_snow a_level f_begun f_minute f_avalanches a_run a_covers a_routes a_longest a_steep a_laid a_far f_sight a_runs f_choir f_voices a_rest a_wins u a_other a_kept H) (mA q)) args s 0 0 (mA q)) (F0 m 0 ls []) := by
  have hx := zc.1
  have hb := zc.2.1
  refine lv_aload_n hx hb dX11_draw_0 rfl (lv_at hl 0 rfl) ?_
  refine lv_aload_n hx hb dX11_draw_1 rfl (lv_at hl 0 rfl) ?_
  refine mg_11_515_0 zc hK hM dX11_draw_2 ?_
  refine lv_ldcw (v := (1103515245 : Int32)) hx hb zc.2.2.2.1 (zc.2.2.2.2.1 _ kc_11_518) dX11_draw_5 ?_
  refine lv_imul hx hb dX11_draw_8 ?_
  refine lv_sipush (v := (12345 : Int32)) hx hb dX11_draw_9 (by decide) ?_
  refine lv_iadd hx hb dX11_draw_12 ?_
  refine lv_topi (fun v_1 ev_1 => ?_)
  have hw := hw v_1 ev_1
  refine mp_11_515_0 zc hK hM hS dX11_draw_13 (fun H locs hM hS => ?_)
  refine lv_aload_n hx hb dX11_draw_16 rfl (lv_at hl 0 rfl) ?_
  refine mg_11_515_0 zc hK hM dX11_draw_17 ?_
  refine lv_bipush (v := (16 : Int32)) hx hb dX11_draw_20 (by decide) ?_
  refine lv_iushr hx hb dX11_draw_22 rfl ?_
  refine lv_iload_n hx hb dX11_draw_23 rfl (lv_at hl 1 rfl) ?_
  refine lv_irem hx hb dX11_draw_24 hw.1 ?_
  have hw := hw.2
  exact zret_iw v_1 zc hS hw hM dX11_draw_25
set_option maxRecDepth 20000 in
theorem c_m_draw (l : Launch) {E : zE} {q : Nat} {f_code : Int32} {a_tape : Nat → Int32} {a_size : Nat → Int32} {a_fault : Nat → Int32} {a_faultPlace : Nat → Int32} {a_many : Nat → Int32} {a_lands : Nat → Int32} {a_evenings : Nat → Int32} {a_sights : Nat → Int32} {a_choirs : Nat → Int32} {f_reached : Int32} {f_length : Int32} {f_begins : Int32} {f_sort : Int32} {f_value : Int32} {f_word : Int64} {f_wrongAt : Int32} {f_laterFault : Int32} {f_laterPlace : Int32} {a_told : Nat → Int32} {a_read : Nat → Int32} {f_farHut : Int32} {f_farSinger : Int32} {f_good : Int32} {f_land : Int32} {f_huts : Int32} {f_singers : Int32} {f_evening : Int32} {a_at : Nat → Int32} {a_knows : Nat → Int32} {a_climbed : Nat → Int32} {a_snow : Nat → Int32} {a_level : Nat → Int32} {f_begun : Int32} {f_minute : Int32} {f_avalanches : Int32} {a_run : Nat → Int32} {a_covers : Nat → Int32} {a_routes : Nat → Int32} {a_longest : Nat → Int32} {a_steep : Nat → Int32} {a_laid : Nat → Int32} {a_far : Nat → Int32} {f_sight : Int32} {a_runs : Nat → Int32} {f_choir : Int32} {f_voices : Int32} {a_rest : Nat → Int64} {a_wins : Nat → Int32} {f_seed : Int32} {a_other : Nat → Int32} {a_kept : Nat → Int32} {x1 : Int32} {post : Int32 → (Int32) → Prop} (hw : q_m_draw_0 f_seed x1 post) : Met l yX11_draw (Cond.code yX11_draw cX11_draw 2 (some .int) :: zb) rm_m_draw (va_Pc [.ref q, .int x1] (fun U => mW E q f_code a_tape a_size a_fault a_faultPlace a_many a_lands a_evenings a_sights a_choirs f_reached f_length f_begins f_sort f_value f_word f_wrongAt f_laterFault f_laterPlace a_told a_read f_farHut f_farSinger f_good f_land f_huts f_singers f_evening a_at a_knows a_climbed a_snow a_level f_begun f_minute f_avalanches a_run a_covers a_routes a_longest a_steep a_laid a_far f_sight a_runs f_choir f_voices a_rest a_wins f_seed a_other a_kept U.heap ∧ zK E U)) (zQi (S := (Int32)) (fun r u => post r u) (fun u H => mW E q f_code a_tape a_size a_fault a_faultPlace a_many a_lands a_evenings a_sights a_choirs f_reached f_length f_begins f_sort f_value f_word f_wrongAt f_laterFault f_laterPlace a_told a_read f_farHut f_farSinger f_good f_land f_huts f_singers f_evening a_at a_knows a_climbed a_snow a_level f_begun f_minute f_avalanches a_run a_covers a_routes a_longest a_steep a_laid a_far f_sight a_runs f_choir f_voices a_rest a_wins u a_other a_kept H) (mA q)) 0 0 (mA q) := by
  refine Met.ofW (cc := cX11_draw) (maxL := 2) (ret := (some .int)) (by decide) rfl ?_
  intro p e s m args below meth c s₁ B hml hv
  obtain ⟨rfl, hM, hK⟩ := hv
  have zc := zc_of B hml
  have hl := lv_entry ([.ref q, .int x1]) (n := 2) (Nat.le_of_ble_eq_true rfl)
  rw [lg_entry_eq]
  generalize (lg_sl ([.ref q, .int x1]) ++ List.replicate (2 - (lg_sl ([.ref q, .int x1])).length) Slot.unset).toArray = ls at hl ⊢
  have hl : lv_has ls 2 [(0, .ref q), (1, .int x1)] := hl
  exact t_m_draw_0 zc hK hM va_S.rf (lv_sub hl [0, 1] rfl) hw
-- m_drawDeed
abbrev rm_m_drawDeed : Room := { frames := 5, cells := 0, slots := 0, locals := 111 }
def q_m_drawDeed_0 (a_lands : Nat → Int32) (f_land : Int32) (f_huts : Int32) (f_singers : Int32) (a_at : Nat → Int32) (a_knows : Nat → Int32) (a_climbed : Nat → Int32) (a_snow : Nat → Int32) (a_level : Nat → Int32) (f_begun : Int32) (f_minute : Int32) (f_avalanches : Int32) (f_seed : Int32) (post : (Nat → Int32) → (Nat → Int32) → (Nat → Int32) → (Nat → Int32) → (Int32) → (Int32) → (Int32) → (Int32) → Prop) : Prop :=
  q_m_draw_0 f_seed f_singers (fun r_1 f_seed_1 => q_m_draw_0 f_seed_1 (8 : Int32) (fun r_2 f_seed_2 => ((3 : Int32) ≤ r_2 → (q_m_draw_0 f_seed_2 (5 : Int32) (fun r_3 f_seed_3 => q_m_mayBegin_0 a_lands f_land a_at a_knows f_begun r_1 r_3 (fun r_4 => (r_4 = 0 → (q_m_maySing_0 a_lands f_land a_at a_knows f_begun r_1 r_3 (fun r_5 => (r_5 = 0 → (post a_at a_knows a_snow a_level f_begun f_minute f_avalanches f_seed_3)) ∧ (¬ r_5 = 0 → (q_m_sings_0 a_lands f_land f_singers a_at a_knows a_climbed a_snow a_level f_begun f_avalanches r_1 r_3 (0 : Int32) (fun a_knows_1 a_snow_1 a_level_1 f_begun_1 f_avalanches_1 => post a_at a_knows_1 a_snow_1 a_level_1 f_begun_1 f_minute f_avalanches_1 f_seed_3)))))) ∧ (¬ r_4 = 0 → (q_m_sounds_0 a_lands f_land f_singers a_at a_knows a_climbed a_level f_begun r_1 r_3 (fun a_knows_2 a_level_2 f_begun_2 => post a_at a_knows_2 a_snow a_level_2 f_begun_2 f_minute f_avalanches f_seed_3))))))) ∧ (¬ (3 : Int32) ≤ r_2 → (q_m_draw_0 f_seed_2 f_huts (fun r_6 f_seed_4 => q_m_walks_0 a_lands f_land f_huts a_at a_climbed a_snow f_minute r_1 r_6 (fun r_7 a_at_1 f_minute_1 => post a_at_1 a_knows a_snow a_level f_begun f_minute_1 f_avalanches f_seed_4))))))
set_option maxRecDepth 20000 in
theorem t_m_drawDeed_0 {p : Program} {l : Launch} {e : Env} {s : State} {m : MethodId} {args : Array Value} {below : List Frame} {meth : Method} {c : Code} {E : zE} {q : Nat} {f_code : Int32} {a_tape : Nat → Int32} {a_size : Nat → Int32} {a_fault : Nat → Int32} {a_faultPlace : Nat → Int32} {a_many : Nat → Int32} {a_lands : Nat → Int32} {a_evenings : Nat → Int32} {a_sights : Nat → Int32} {a_choirs : Nat → Int32} {f_reached : Int32} {f_length : Int32} {f_begins : Int32} {f_sort : Int32} {f_value : Int32} {f_word : Int64} {f_wrongAt : Int32} {f_laterFault : Int32} {f_laterPlace : Int32} {a_told : Nat → Int32} {a_read : Nat → Int32} {f_farHut : Int32} {f_farSinger : Int32} {f_good : Int32} {f_land : Int32} {f_huts : Int32} {f_singers : Int32} {f_evening : Int32} {a_at : Nat → Int32} {a_knows : Nat → Int32} {a_climbed : Nat → Int32} {a_snow : Nat → Int32} {a_level : Nat → Int32} {f_begun : Int32} {f_minute : Int32} {f_avalanches : Int32} {a_run : Nat → Int32} {a_covers : Nat → Int32} {a_routes : Nat → Int32} {a_longest : Nat → Int32} {a_steep : Nat → Int32} {a_laid : Nat → Int32} {a_far : Nat → Int32} {f_sight : Int32} {a_runs : Nat → Int32} {f_choir : Int32} {f_voices : Int32} {a_rest : Nat → Int64} {a_wins : Nat → Int32} {f_seed : Int32} {a_other : Nat → Int32} {a_kept : Nat → Int32} {post : (Nat → Int32) → (Nat → Int32) → (Nat → Int32) → (Nat → Int32) → (Int32) → (Int32) → (Int32) → (Int32) → Prop} {ls : Array Slot} {H : Heap} {locs : List Loc}
    (zc : zC p s m args meth c cX11_drawDeed 3 RX11 none)
    (hK : zK E s)
    (hM : mW E q f_code a_tape a_size a_fault a_faultPlace a_many a_lands a_evenings a_sights a_choirs f_reached f_length f_begins f_sort f_value f_word f_wrongAt f_laterFault f_laterPlace a_told a_read f_farHut f_farSinger f_good f_land f_huts f_singers f_evening a_at a_knows a_climbed a_snow a_level f_begun f_minute f_avalanches a_run a_covers a_routes a_longest a_steep a_laid a_far f_sight a_runs f_choir f_voices a_rest a_wins f_seed a_other a_kept H)
    (hS : va_S (mA q) s.heap H locs)
    (hl : lv_has ls 3 [(0, .ref q)])
    (hw : q_m_drawDeed_0 a_lands f_land f_huts f_singers a_at a_knows a_climbed a_snow a_level f_begun f_minute f_avalanches f_seed post) :
    W p l e rm_m_drawDeed s m args below meth c H locs 0 0 (MQ below (zQv (S := (Nat → Int32) × (Nat → Int32) × (Nat → Int32) × (Nat → Int32) × (Int32) × (Int32) × (Int32) × (Int32)) (fun u => post u.1 u.2.1 u.2.2.1 u.2.2.2.1 u.2.2.2.2.1 u.2.2.2.2.2.1 u.2.2.2.2.2.2.1 u.2.2.2.2.2.2.2) (fun u H => mW E q f_code a_tape a_size a_fault a_faultPlace a_many a_lands a_evenings a_sights a_choirs f_reached f_length f_begins f_sort f_value f_word f_wrongAt f_laterFault f_laterPlace a_told a_read f_farHut f_farSinger f_good f_land f_huts f_singers f_evening u.1 u.2.1 a_climbed u.2.2.1 u.2.2.2.1 u.2.2.2.2.1 u.2.2.2.2.2.1 u.2.2.2.2.2.2.1 a_run a_covers a_routes a_longest a_steep a_laid a_far f_sight a_runs f_choir f_voices a_rest a_wins u.2.2.2.2.2.2.2 a_other a_kept H) (mA q)) args s 0 0 (mA q)) (F0 m 0 ls []) := by
  have hx := zc.1
  have hb := zc.2.1
  refine lv_aload_n hx hb dX11_drawDeed_0 rfl (lv_at hl 0 rfl) ?_
  refine lv_aload_n hx hb dX11_drawDeed_1 rfl (lv_at hl 0 rfl) ?_
  refine mg_11_310_0 zc hK hM dX11_drawDeed_2 ?_
  refine zVw_i [.int f_singers] [] zc ky_X11_draw kz_X11_draw km_11_519 (c_m_draw l hw) (mPreV0 hK hM) hS rfl rfl hl.1 (Nat.le_of_ble_eq_true rfl) ⟨rfl, rfl⟩ ⟨Nat.le_of_ble_eq_true rfl, Nat.le_of_ble_eq_true rfl⟩ ⟨(Nat.zero_le _), (Nat.zero_le _)⟩ dX11_drawDeed_5 (fun r_1 f_seed_1 H locs hw hM hS => ?_)
  refine lv_istore_n (lv' := [(1, .int r_1), (0, .ref q)]) hx hb dX11_drawDeed_8 rfl hl (by decide) rfl (fun ls hl => ?_)
  refine lv_aload_n hx hb dX11_drawDeed_9 rfl (lv_at hl 1 rfl) ?_
  refine lv_bipush (v := (8 : Int32)) hx hb dX11_drawDeed_10 (by decide) ?_
  refine zVw_i [.int (8 : Int32)] [] zc ky_X11_draw kz_X11_draw km_11_519 (c_m_draw l hw) (mPreV0 hK hM) hS rfl rfl hl.1 (Nat.le_of_ble_eq_true rfl) ⟨rfl, rfl⟩ ⟨Nat.le_of_ble_eq_true rfl, Nat.le_of_ble_eq_true rfl⟩ ⟨(Nat.zero_le _), (Nat.zero_le _)⟩ dX11_drawDeed_12 (fun r_2 f_seed_2 H locs hw hM hS => ?_)
  refine lv_iconst (v := (3 : Int32)) hx hb dX11_drawDeed_15 (by decide) ?_
  refine lv_icmp_ge (tgt := 34) hx hb dX11_drawDeed_16 (by decide) (fun hc => ?_) (fun hc => ?_)
  · have hw := hw.1 hc
    refine lv_aload_n hx hb dX11_drawDeed_34 rfl (lv_at hl 1 rfl) ?_
    refine lv_iconst (v := (5 : Int32)) hx hb dX11_drawDeed_35 (by decide) ?_
    refine zVw_i [.int (5 : Int32)] [] zc ky_X11_draw kz_X11_draw km_11_519 (c_m_draw l hw) (mPreV0 hK hM) hS rfl rfl hl.1 (Nat.le_of_ble_eq_true rfl) ⟨rfl, rfl⟩ ⟨Nat.le_of_ble_eq_true rfl, Nat.le_of_ble_eq_true rfl⟩ ⟨(Nat.zero_le _), (Nat.zero_le _)⟩ dX11_drawDeed_36 (fun r_3 f_seed_3 H locs hw hM hS => ?_)
    refine lv_istore_n (lv' := [(2, .int r_3), (1, .int r_1), (0, .ref q)]) hx hb dX11_drawDeed_39 rfl hl (by decide) rfl (fun ls hl => ?_)
    refine lv_aload_n hx hb dX11_drawDeed_40 rfl (lv_at hl 2 rfl) ?_
    refine lv_iload_n hx hb dX11_drawDeed_41 rfl (lv_at hl 1 rfl) ?_
    refine lv_iload_n hx hb dX11_drawDeed_42 rfl (lv_at hl 0 rfl) ?_
    refine zV_i [.int r_1, .int r_3] [] zc ky_X11_mayBegin kz_X11_mayBegin km_11_364 (c_m_mayBegin l hw) (mPreV0 hK hM) rfl rfl hl.1 (Nat.le_of_ble_eq_true rfl) ⟨rfl, rfl⟩ ⟨Nat.le_of_ble_eq_true rfl, Nat.le_of_ble_eq_true rfl⟩ ⟨(Nat.zero_le _), (Nat.zero_le _)⟩ dX11_drawDeed_43 (fun r_4 hw => ?_)
    refine lv_if_eq (tgt := 58) hx hb dX11_drawDeed_46 (by decide) (fun hc => ?_) (fun hc => ?_)
    · have hw := hw.1 hc
      refine lv_aload_n hx hb dX11_drawDeed_58 rfl (lv_at hl 2 rfl) ?_
      refine lv_iload_n hx hb dX11_drawDeed_59 rfl (lv_at hl 1 rfl) ?_
      refine lv_iload_n hx hb dX11_drawDeed_60 rfl (lv_at hl 0 rfl) ?_
      refine zV_i [.int r_1, .int r_3] [] zc ky_X11_maySing kz_X11_maySing km_11_367 (c_m_maySing l hw) (mPreV0 hK hM) rfl rfl hl.1 (Nat.le_of_ble_eq_true rfl) ⟨rfl, rfl⟩ ⟨Nat.le_of_ble_eq_true rfl, Nat.le_of_ble_eq_true rfl⟩ ⟨(Nat.zero_le _), (Nat.zero_le _)⟩ dX11_drawDeed_61 (fun r_5 hw => ?_)
      refine lv_if_eq (tgt := 74) hx hb dX11_drawDeed_64 (by decide) (fun hc => ?_) (fun hc => ?_)
      · have hw := hw.1 hc
        exact zret_vw ⟨a_at, a_knows, a_snow, a_level, f_begun, f_minute, f_avalanches, f_seed_3⟩ zc hS hw hM dX11_drawDeed_74
      · have hw := hw.2 hc
        refine lv_aload_n hx hb dX11_drawDeed_67 rfl (lv_at hl 2 rfl) ?_
        refine lv_iload_n hx hb dX11_drawDeed_68 rfl (lv_at hl 1 rfl) ?_
        refine lv_iload_n hx hb dX11_drawDeed_69 rfl (lv_at hl 0 rfl) ?_
        refine lv_iconst (v := (0 : Int32)) hx hb dX11_drawDeed_70 (by decide) ?_
        refine zVw_v [.int r_1, .int r_3, .int (0 : Int32)] [] zc ky_X11_sings kz_X11_sings km_11_370 (c_m_sings l hw) (mPreV0 hK hM) hS rfl rfl hl.1 (Nat.le_of_ble_eq_true rfl) ⟨rfl, rfl⟩ ⟨Nat.le_of_ble_eq_true rfl, Nat.le_of_ble_eq_true rfl⟩ ⟨(Nat.zero_le _), (Nat.zero_le _)⟩ dX11_drawDeed_71 (fun u H locs hw hM hS => ?_)
        obtain ⟨a_knows_1, a_snow_1, a_level_1, f_begun_1, f_avalanches_1⟩ := u
        exact zret_vw ⟨a_at, a_knows_1, a_snow_1, a_level_1, f_begun_1, f_minute, f_avalanches_1, f_seed_3⟩ zc hS hw hM dX11_drawDeed_74
    · have hw := hw.2 hc
      refine lv_aload_n hx hb dX11_drawDeed_49 rfl (lv_at hl 2 rfl) ?_
      refine lv_iload_n hx hb dX11_drawDeed_50 rfl (lv_at hl 1 rfl) ?_
      refine lv_iload_n hx hb dX11_drawDeed_51 rfl (lv_at hl 0 rfl) ?_
      refine zVw_v [.int r_1, .int r_3] [] zc ky_X11_sounds kz_X11_sounds km_11_358 (c_m_sounds l hw) (mPreV0 hK hM) hS rfl rfl hl.1 (Nat.le_of_ble_eq_true rfl) ⟨rfl, rfl⟩ ⟨Nat.le_of_ble_eq_true rfl, Nat.le_of_ble_eq_true rfl⟩ ⟨(Nat.zero_le _), (Nat.zero_le _)⟩ dX11_drawDeed_52 (fun u H locs hw hM hS => ?_)
      obtain ⟨a_knows_2, a_level_2, f_begun_2⟩ := u
      refine lv_goto (tgt := 74) hx hb dX11_drawDeed_55 (by decide) ?_
      exact zret_vw ⟨a_at, a_knows_2, a_snow, a_level_2, f_begun_2, f_minute, f_avalanches, f_seed_3⟩ zc hS hw hM dX11_drawDeed_74
  · have hw := hw.2 hc
    refine lv_aload_n hx hb dX11_drawDeed_19 rfl (lv_at hl 1 rfl) ?_
    refine lv_iload_n hx hb dX11_drawDeed_20 rfl (lv_at hl 0 rfl) ?_
    refine lv_aload_n hx hb dX11_drawDeed_21 rfl (lv_at hl 1 rfl) ?_
    refine lv_aload_n hx hb dX11_drawDeed_22 rfl (lv_at hl 1 rfl) ?_
    refine mg_11_307_0 zc hK hM dX11_drawDeed_23 ?_
    refine zVw_i [.int f_huts] [.int r_1, .ref q] zc ky_X11_draw kz_X11_draw km_11_519 (c_m_draw l hw) (mPreV0 hK hM) hS rfl rfl hl.1 (Nat.le_of_ble_eq_true rfl) ⟨rfl, rfl⟩ ⟨Nat.le_of_ble_eq_true rfl, Nat.le_of_ble_eq_true rfl⟩ ⟨(Nat.zero_le _), (Nat.zero_le _)⟩ dX11_drawDeed_26 (fun r_6 f_seed_4 H locs hw hM hS => ?_)
    refine zVw_i [.int r_1, .int r_6] [] zc ky_X11_walks kz_X11_walks km_11_374 (c_m_walks l hw) (mPreV0 hK hM) hS rfl rfl hl.1 (Nat.le_of_ble_eq_true rfl) ⟨rfl, rfl⟩ ⟨Nat.le_of_ble_eq_true rfl, Nat.le_of_ble_eq_true rfl⟩ ⟨(Nat.zero_le _), (Nat.zero_le _)⟩ dX11_drawDeed_29 (fun r_7 u H locs hw hM hS => ?_)
    obtain ⟨a_at_1, f_minute_1⟩ := u
    refine lv_pop hx hb dX11_drawDeed_32 rfl ?_
    exact zret_vw ⟨a_at_1, a_knows, a_snow, a_level, f_begun, f_minute_1, f_avalanches, f_seed_4⟩ zc hS hw hM dX11_drawDeed_33
set_option maxRecDepth 20000 in
theorem c_m_drawDeed (l : Launch) {E : zE} {q : Nat} {f_code : Int32} {a_tape : Nat → Int32} {a_size : Nat → Int32} {a_fault : Nat → Int32} {a_faultPlace : Nat → Int32} {a_many : Nat → Int32} {a_lands : Nat → Int32} {a_evenings : Nat → Int32} {a_sights : Nat → Int32} {a_choirs : Nat → Int32} {f_reached : Int32} {f_length : Int32} {f_begins : Int32} {f_sort : Int32} {f_value : Int32} {f_word : Int64} {f_wrongAt : Int32} {f_laterFault : Int32} {f_laterPlace : Int32} {a_told : Nat → Int32} {a_read : Nat → Int32} {f_farHut : Int32} {f_farSinger : Int32} {f_good : Int32} {f_land : Int32} {f_huts : Int32} {f_singers : Int32} {f_evening : Int32} {a_at : Nat → Int32} {a_knows : Nat → Int32} {a_climbed : Nat → Int32} {a_snow : Nat → Int32} {a_level : Nat → Int32} {f_begun : Int32} {f_minute : Int32} {f_avalanches : Int32} {a_run : Nat → Int32} {a_covers : Nat → Int32} {a_routes : Nat → Int32} {a_longest : Nat → Int32} {a_steep : Nat → Int32} {a_laid : Nat → Int32} {a_far : Nat → Int32} {f_sight : Int32} {a_runs : Nat → Int32} {f_choir : Int32} {f_voices : Int32} {a_rest : Nat → Int64} {a_wins : Nat → Int32} {f_seed : Int32} {a_other : Nat → Int32} {a_kept : Nat → Int32} {post : (Nat → Int32) → (Nat → Int32) → (Nat → Int32) → (Nat → Int32) → (Int32) → (Int32) → (Int32) → (Int32) → Prop} (hw : q_m_drawDeed_0 a_lands f_land f_huts f_singers a_at a_knows a_climbed a_snow a_level f_begun f_minute f_avalanches f_seed post) : Met l yX11_drawDeed (Cond.code yX11_drawDeed cX11_drawDeed 3 none :: zb) rm_m_drawDeed (va_Pc [.ref q] (fun U => mW E q f_code a_tape a_size a_fault a_faultPlace a_many a_lands a_evenings a_sights a_choirs f_reached f_length f_begins f_sort f_value f_word f_wrongAt f_laterFault f_laterPlace a_told a_read f_farHut f_farSinger f_good f_land f_huts f_singers f_evening a_at a_knows a_climbed a_snow a_level f_begun f_minute f_avalanches a_run a_covers a_routes a_longest a_steep a_laid a_far f_sight a_runs f_choir f_voices a_rest a_wins f_seed a_other a_kept U.heap ∧ zK E U)) (zQv (S := (Nat → Int32) × (Nat → Int32) × (Nat → Int32) × (Nat → Int32) × (Int32) × (Int32) × (Int32) × (Int32)) (fun u => post u.1 u.2.1 u.2.2.1 u.2.2.2.1 u.2.2.2.2.1 u.2.2.2.2.2.1 u.2.2.2.2.2.2.1 u.2.2.2.2.2.2.2) (fun u H => mW E q f_code a_tape a_size a_fault a_faultPlace a_many a_lands a_evenings a_sights a_choirs f_reached f_length f_begins f_sort f_value f_word f_wrongAt f_laterFault f_laterPlace a_told a_read f_farHut f_farSinger f_good f_land f_huts f_singers f_evening u.1 u.2.1 a_climbed u.2.2.1 u.2.2.2.1 u.2.2.2.2.1 u.2.2.2.2.2.1 u.2.2.2.2.2.2.1 a_run a_covers a_routes a_longest a_steep a_laid a_far f_sight a_runs f_choir f_voices a_rest a_wins u.2.2.2.2.2.2.2 a_other a_kept H) (mA q)) 0 0 (mA q) := by
  refine Met.ofW (cc := cX11_drawDeed) (maxL := 3) (ret := none) (by decide) rfl ?_
  intro p e s m args below meth c s₁ B hml hv
  obtain ⟨rfl, hM, hK⟩ := hv
  have zc := zc_of B hml
  have hl := lv_entry ([.ref q]) (n := 3) (Nat.le_of_ble_eq_true rfl)
  rw [lg_entry_eq]
  generalize (lg_sl ([.ref q]) ++ List.replicate (3 - (lg_sl ([.ref q])).length) Slot.unset).toArray = ls at hl ⊢
  have hl : lv_has ls 3 [(0, .ref q)] := hl
  exact t_m_drawDeed_0 zc hK hM va_S.rf (lv_sub hl [0] rfl) hw
-- m_drawn
abbrev rm_m_drawn : Room := { frames := 6, cells := 0, slots := 0, locals := 135 }
def q_m_drawn_46 (f_code : Int32) (a_many : Nat → Int32) (a_lands : Nat → Int32) (f_land : Int32) (f_huts : Int32) (f_singers : Int32) (a_at : Nat → Int32) (a_knows : Nat → Int32) (a_climbed : Nat → Int32) (a_snow : Nat → Int32) (a_level : Nat → Int32) (f_begun : Int32) (f_minute : Int32) (f_avalanches : Int32) (f_seed : Int32) (x3 : Int32) (x4 : Int32) (x5 : Int32) (post : Int32 → (Int32) → (Int32) → (Int32) → (Int32) → (Nat → Int32) → (Nat → Int32) → (Nat → Int32) → (Nat → Int32) → (Nat → Int32) → (Int32) → (Int32) → (Int32) → (Int32) → Prop) : Prop :=
  ∀ P46 : Int32 → (Nat → Int32) → (Nat → Int32) → (Nat → Int32) → (Nat → Int32) → (Int32) → (Int32) → (Int32) → (Int32) → Prop, (∀ (x5 : Int32) (a_at : Nat → Int32) (a_knows : Nat → Int32) (a_snow : Nat → Int32) (a_level : Nat → Int32) (f_begun : Int32) (f_minute : Int32) (f_avalanches : Int32) (f_seed : Int32), ((x3 ≤ x5 → (q_m_ofState_0 a_lands f_land f_huts f_singers a_at a_knows a_climbed a_snow a_level f_begun f_minute f_avalanches x4 (fun r_1 => post r_1 f_code f_land f_huts f_singers a_at a_knows a_climbed a_snow a_level f_begun f_minute f_avalanches f_seed))) ∧ (¬ x3 ≤ x5 → (q_m_drawDeed_0 a_lands f_land f_huts f_singers a_at a_knows a_climbed a_snow a_level f_begun f_minute f_avalanches f_seed (fun a_at_1 a_knows_1 a_snow_1 a_level_1 f_begun_1 f_minute_1 f_avalanches_1 f_seed_1 => ∀ v_1 : Int32, v_1 = x5 + (1 : Int32) → (P46 v_1 a_at_1 a_knows_1 a_snow_1 a_level_1 f_begun_1 f_minute_1 f_avalanches_1 f_seed_1))))) → P46 x5 a_at a_knows a_snow a_level f_begun f_minute f_avalanches f_seed) → P46 x5 a_at a_knows a_snow a_level f_begun f_minute f_avalanches f_seed
def q_m_drawn_0 (f_code : Int32) (a_many : Nat → Int32) (a_lands : Nat → Int32) (f_land : Int32) (f_huts : Int32) (f_singers : Int32) (a_at : Nat → Int32) (a_knows : Nat → Int32) (a_climbed : Nat → Int32) (a_snow : Nat → Int32) (a_level : Nat → Int32) (f_begun : Int32) (f_minute : Int32) (f_avalanches : Int32) (f_seed : Int32) (x1 : Int32) (x2 : Int32) (x3 : Int32) (x4 : Int32) (post : Int32 → (Int32) → (Int32) → (Int32) → (Int32) → (Nat → Int32) → (Nat → Int32) → (Nat → Int32) → (Nat → Int32) → (Nat → Int32) → (Int32) → (Int32) → (Int32) → (Int32) → Prop) : Prop :=
  q_m_in_0 x3 (0 : Int32) (60 : Int32) (fun r_1 => (r_1 = 0 → (post (-1000 : Int32) (0 : Int32) f_land f_huts f_singers a_at a_knows a_climbed a_snow a_level f_begun f_minute f_avalanches f_seed)) ∧ (¬ r_1 = 0 → (q_m_hand_0 a_many a_lands f_land f_huts f_singers x1 (fun r_2 f_land_1 f_huts_1 f_singers_1 => (r_2 = 0 → (post (-1000 : Int32) (0 : Int32) f_land_1 f_huts_1 f_singers_1 a_at a_knows a_climbed a_snow a_level f_begun f_minute f_avalanches f_seed)) ∧ (¬ r_2 = 0 → ((¬ f_singers_1 = 0 → (q_m_begin_0 a_lands f_land_1 a_at a_knows a_climbed a_snow f_begun f_minute f_avalanches (fun a_at_1 a_knows_1 a_climbed_1 a_snow_1 f_begun_1 f_minute_1 f_avalanches_1 => q_m_drawn_46 (0 : Int32) a_many a_lands f_land_1 f_huts_1 f_singers_1 a_at_1 a_knows_1 a_climbed_1 a_snow_1 a_level f_begun_1 f_minute_1 f_avalanches_1 x2 x3 x4 (0 : Int32) post))) ∧ (f_singers_1 = 0 → (post (-1000 : Int32) (0 : Int32) f_land_1 f_huts_1 f_singers_1 a_at a_knows a_climbed a_snow a_level f_begun f_minute f_avalanches f_seed))))))))
set_option maxRecDepth 20000 in
theorem t_m_drawn_46 {p : Program} {l : Launch} {e : Env} {s : State} {m : MethodId} {args : Array Value} {below : List Frame} {meth : Method} {c : Code} {E : zE} {q : Nat} {f_code : Int32} {a_tape : Nat → Int32} {a_size : Nat → Int32} {a_fault : Nat → Int32} {a_faultPlace : Nat → Int32} {a_many : Nat → Int32} {a_lands : Nat → Int32} {a_evenings : Nat → Int32} {a_sights : Nat → Int32} {a_choirs : Nat → Int32} {f_reached : Int32} {f_length : Int32} {f_begins : Int32} {f_sort : Int32} {f_value : Int32} {f_word : Int64} {f_wrongAt : Int32} {f_laterFault : Int32} {f_laterPlace : Int32} {a_told : Nat → Int32} {a_read : Nat → Int32} {f_farHut : Int32} {f_farSinger : Int32} {f_good : Int32} {f_land : Int32} {f_huts : Int32} {f_singers : Int32} {f_evening : Int32} {a_at : Nat → Int32} {a_knows : Nat → Int32} {a_climbed : Nat → Int32} {a_snow : Nat → Int32} {a_level : Nat → Int32} {f_begun : Int32} {f_minute : Int32} {f_avalanches : Int32} {a_run : Nat → Int32} {a_covers : Nat → Int32} {a_routes : Nat → Int32} {a_longest : Nat → Int32} {a_steep : Nat → Int32} {a_laid : Nat → Int32} {a_far : Nat → Int32} {f_sight : Int32} {a_runs : Nat → Int32} {f_choir : Int32} {f_voices : Int32} {a_rest : Nat → Int64} {a_wins : Nat → Int32} {f_seed : Int32} {a_other : Nat → Int32} {a_kept : Nat → Int32} {post : Int32 → (Int32) → (Int32) → (Int32) → (Int32) → (Nat → Int32) → (Nat → Int32) → (Nat → Int32) → (Nat → Int32) → (Nat → Int32) → (Int32) → (Int32) → (Int32) → (Int32) → Prop} {x3 : Int32} {x4 : Int32} {x5 : Int32} {ls : Array Slot} {H : Heap} {locs : List Loc}
    (zc : zC p s m args meth c cX11_drawn 6 RX11 (some .int))
    (hK : zK E s)
    (hM : mW E q f_code a_tape a_size a_fault a_faultPlace a_many a_lands a_evenings a_sights a_choirs f_reached f_length f_begins f_sort f_value f_word f_wrongAt f_laterFault f_laterPlace a_told a_read f_farHut f_farSinger f_good f_land f_huts f_singers f_evening a_at a_knows a_climbed a_snow a_level f_begun f_minute f_avalanches a_run a_covers a_routes a_longest a_steep a_laid a_far f_sight a_runs f_choir f_voices a_rest a_wins f_seed a_other a_kept H)
    (hS : va_S (mA q) s.heap H locs)
    (hl : lv_has ls 6 [(0, .ref q), (3, .int x3), (4, .int x4), (5, .int x5)])
    (hw : q_m_drawn_46 f_code a_many a_lands f_land f_huts f_singers a_at a_knows a_climbed a_snow a_level f_begun f_minute f_avalanches f_seed x3 x4 x5 post) :
    W p l e rm_m_drawn s m args below meth c H locs 0 0 (MQ below (zQi (S := (Int32) × (Int32) × (Int32) × (Int32) × (Nat → Int32) × (Nat → Int32) × (Nat → Int32) × (Nat → Int32) × (Nat → Int32) × (Int32) × (Int32) × (Int32) × (Int32)) (fun r u => post r u.1 u.2.1 u.2.2.1 u.2.2.2.1 u.2.2.2.2.1 u.2.2.2.2.2.1 u.2.2.2.2.2.2.1 u.2.2.2.2.2.2.2.1 u.2.2.2.2.2.2.2.2.1 u.2.2.2.2.2.2.2.2.2.1 u.2.2.2.2.2.2.2.2.2.2.1 u.2.2.2.2.2.2.2.2.2.2.2.1 u.2.2.2.2.2.2.2.2.2.2.2.2) (fun u H => mW E q u.1 a_tape a_size a_fault a_faultPlace a_many a_lands a_evenings a_sights a_choirs f_reached f_length f_begins f_sort f_value f_word f_wrongAt f_laterFault f_laterPlace a_told a_read f_farHut f_farSinger f_good u.2.1 u.2.2.1 u.2.2.2.1 f_evening u.2.2.2.2.1 u.2.2.2.2.2.1 u.2.2.2.2.2.2.1 u.2.2.2.2.2.2.2.1 u.2.2.2.2.2.2.2.2.1 u.2.2.2.2.2.2.2.2.2.1 u.2.2.2.2.2.2.2.2.2.2.1 u.2.2.2.2.2.2.2.2.2.2.2.1 a_run a_covers a_routes a_longest a_steep a_laid a_far f_sight a_runs f_choir f_voices a_rest a_wins u.2.2.2.2.2.2.2.2.2.2.2.2 a_other a_kept H) (mA q)) args s 0 0 (mA q)) (F0 m 46 ls []) := by
  have hx := zc.1
  have hb := zc.2.1
  refine hw (fun x5 a_at a_knows a_snow a_level f_begun f_minute f_avalanches f_seed => ∀ (H : Heap) (locs : List Loc) (ls : Array Slot), lv_has ls 6 [(0, .ref q), (3, .int x3), (4, .int x4), (5, .int x5)] → mW E q f_code a_tape a_size a_fault a_faultPlace a_many a_lands a_evenings a_sights a_choirs f_reached f_length f_begins f_sort f_value f_word f_wrongAt f_laterFault f_laterPlace a_told a_read f_farHut f_farSinger f_good f_land f_huts f_singers f_evening a_at a_knows a_climbed a_snow a_level f_begun f_minute f_avalanches a_run a_covers a_routes a_longest a_steep a_laid a_far f_sight a_runs f_choir f_voices a_rest a_wins f_seed a_other a_kept H → va_S (mA q) s.heap H locs → W p l e rm_m_drawn s m args below meth c H locs 0 0 (MQ below (zQi (S := (Int32) × (Int32) × (Int32) × (Int32) × (Nat → Int32) × (Nat → Int32) × (Nat → Int32) × (Nat → Int32) × (Nat → Int32) × (Int32) × (Int32) × (Int32) × (Int32)) (fun r u => post r u.1 u.2.1 u.2.2.1 u.2.2.2.1 u.2.2.2.2.1 u.2.2.2.2.2.1 u.2.2.2.2.2.2.1 u.2.2.2.2.2.2.2.1 u.2.2.2.2.2.2.2.2.1 u.2.2.2.2.2.2.2.2.2.1 u.2.2.2.2.2.2.2.2.2.2.1 u.2.2.2.2.2.2.2.2.2.2.2.1 u.2.2.2.2.2.2.2.2.2.2.2.2) (fun u H => mW E q u.1 a_tape a_size a_fault a_faultPlace a_many a_lands a_evenings a_sights a_choirs f_reached f_length f_begins f_sort f_value f_word f_wrongAt f_laterFault f_laterPlace a_told a_read f_farHut f_farSinger f_good u.2.1 u.2.2.1 u.2.2.2.1 f_evening u.2.2.2.2.1 u.2.2.2.2.2.1 u.2.2.2.2.2.2.1 u.2.2.2.2.2.2.2.1 u.2.2.2.2.2.2.2.2.1 u.2.2.2.2.2.2.2.2.2.1 u.2.2.2.2.2.2.2.2.2.2.1 u.2.2.2.2.2.2.2.2.2.2.2.1 a_run a_covers a_routes a_longest a_steep a_laid a_far f_sight a_runs f_choir f_voices a_rest a_wins u.2.2.2.2.2.2.2.2.2.2.2.2 a_other a_kept H) (mA q)) args s 0 0 (mA q)) (F0 m 46 ls [])) ?_ _ _ _ hl hM hS
  intro x5 a_at a_knows a_snow a_level f_begun f_minute f_avalanches f_seed hw H locs ls hl hM hS
  refine lv_iload hx hb dX11_drawn_46 (lv_at hl 3 rfl) ?_
  refine lv_iload_n hx hb dX11_drawn_48 rfl (lv_at hl 1 rfl) ?_
  refine lv_icmp_ge (tgt := 62) hx hb dX11_drawn_49 (by decide) (fun hc => ?_) (fun hc => ?_)
  · have hw := hw.1 hc
    refine lv_aload_n hx hb dX11_drawn_62 rfl (lv_at hl 0 rfl) ?_
    refine lv_iload hx hb dX11_drawn_63 (lv_at hl 2 rfl) ?_
    refine zV_i [.int x4] [] zc ky_X11_ofState kz_X11_ofState km_11_407 (c_m_ofState l hw) (mPreV0 hK hM) rfl rfl hl.1 (Nat.le_of_ble_eq_true rfl) ⟨rfl, rfl⟩ ⟨Nat.le_of_ble_eq_true rfl, Nat.le_of_ble_eq_true rfl⟩ ⟨(Nat.zero_le _), (Nat.zero_le _)⟩ dX11_drawn_65 (fun r_1 hw => ?_)
    exact zret_iw ⟨f_code, f_land, f_huts, f_singers, a_at, a_knows, a_climbed, a_snow, a_level, f_begun, f_minute, f_avalanches, f_seed⟩ zc hS hw hM dX11_drawn_68
  · have hw := hw.2 hc
    refine lv_aload_n hx hb dX11_drawn_52 rfl (lv_at hl 0 rfl) ?_
    refine zVw_v [] [] zc ky_X11_drawDeed kz_X11_drawDeed km_11_522 (c_m_drawDeed l hw) (mPreV0 hK hM) hS rfl rfl hl.1 (Nat.le_of_ble_eq_true rfl) ⟨rfl, rfl⟩ ⟨Nat.le_of_ble_eq_true rfl, Nat.le_of_ble_eq_true rfl⟩ ⟨(Nat.zero_le _), (Nat.zero_le _)⟩ dX11_drawn_53 (fun u H locs hw hM hS => ?_)
    obtain ⟨a_at_1, a_knows_1, a_snow_1, a_level_1, f_begun_1, f_minute_1, f_avalanches_1, f_seed_1⟩ := u
    obtain ⟨v_1, ev_1⟩ : ∃ y : Int32, y = x5 + (1 : Int32) := ⟨_, rfl⟩
    have hw := hw v_1 ev_1
    refine lv_iinc (v := v_1) (k := 3) (lv' := [(5, .int v_1), (0, .ref q), (3, .int x3), (4, .int x4)]) hx hb dX11_drawn_56 hl rfl (by rw [ev_1]; rfl) (by decide) rfl (fun ls hl => ?_)
    refine lv_goto (tgt := 46) hx hb dX11_drawn_59 (by decide) ?_
    exact hw _ _ _ (lv_sub hl [1, 2, 3, 0] rfl) hM hS
set_option maxRecDepth 20000 in
theorem t_m_drawn_0 {p : Program} {l : Launch} {e : Env} {s : State} {m : MethodId} {args : Array Value} {below : List Frame} {meth : Method} {c : Code} {E : zE} {q : Nat} {f_code : Int32} {a_tape : Nat → Int32} {a_size : Nat → Int32} {a_fault : Nat → Int32} {a_faultPlace : Nat → Int32} {a_many : Nat → Int32} {a_lands : Nat → Int32} {a_evenings : Nat → Int32} {a_sights : Nat → Int32} {a_choirs : Nat → Int32} {f_reached : Int32} {f_length : Int32} {f_begins : Int32} {f_sort : Int32} {f_value : Int32} {f_word : Int64} {f_wrongAt : Int32} {f_laterFault : Int32} {f_laterPlace : Int32} {a_told : Nat → Int32} {a_read : Nat → Int32} {f_farHut : Int32} {f_farSinger : Int32} {f_good : Int32} {f_land : Int32} {f_huts : Int32} {f_singers : Int32} {f_evening : Int32} {a_at : Nat → Int32} {a_knows : Nat → Int32} {a_climbed : Nat → Int32} {a_snow : Nat → Int32} {a_level : Nat → Int32} {f_begun : Int32} {f_minute : Int32} {f_avalanches : Int32} {a_run : Nat → Int32} {a_covers : Nat → Int32} {a_routes : Nat → Int32} {a_longest : Nat → Int32} {a_steep : Nat → Int32} {a_laid : Nat → Int32} {a_far : Nat → Int32} {f_sight : Int32} {a_runs : Nat → Int32} {f_choir : Int32} {f_voices : Int32} {a_rest : Nat → Int64} {a_wins : Nat → Int32} {f_seed : Int32} {a_other : Nat → Int32} {a_kept : Nat → Int32} {post : Int32 → (Int32) → (Int32) → (Int32) → (Int32) → (Nat → Int32) → (Nat → Int32) → (Nat → Int32) → (Nat → Int32) → (Nat → Int32) → (Int32) → (Int32) → (Int32) → (Int32) → Prop} {x1 : Int32} {x2 : Int32} {x3 : Int32} {x4 : Int32} {ls : Array Slot} {H : Heap} {locs : List Loc}
    (zc : zC p s m args meth c cX11_drawn 6 RX11 (some .int))
    (hK : zK E s)
    (hM : mW E q f_code a_tape a_size a_fault a_faultPlace a_many a_lands a_evenings a_sights a_choirs f_reached f_length f_begins f_sort f_value f_word f_wrongAt f_laterFault f_laterPlace a_told a_read f_farHut f_farSinger f_good f_land f_huts f_singers f_evening a_at a_knows a_climbed a_snow a_level f_begun f_minute f_avalanches a_run a_covers a_routes a_longest a_steep a_laid a_far f_sight a_runs f_choir f_voices a_rest a_wins f_seed a_other a_kept H)
    (hS : va_S (mA q) s.heap H locs)
    (hl : lv_has ls 6 [(0, .ref q), (1, .int x1), (2, .int x2), (3, .int x3), (4, .int x4)])
    (hw : q_m_drawn_0 f_code a_many a_lands f_land f_huts f_singers a_at a_knows a_climbed a_snow a_level f_begun f_minute f_avalanches f_seed x1 x2 x3 x4 post) :
    W p l e rm_m_drawn s m args below meth c H locs 0 0 (MQ below (zQi (S := (Int32) × (Int32) × (Int32) × (Int32) × (Nat → Int32) × (Nat → Int32) × (Nat → Int32) × (Nat → Int32) × (Nat → Int32) × (Int32) × (Int32) × (Int32) × (Int32)) (fun r u => post r u.1 u.2.1 u.2.2.1 u.2.2.2.1 u.2.2.2.2.1 u.2.2.2.2.2.1 u.2.2.2.2.2.2.1 u.2.2.2.2.2.2.2.1 u.2.2.2.2.2.2.2.2.1 u.2.2.2.2.2.2.2.2.2.1 u.2.2.2.2.2.2.2.2.2.2.1 u.2.2.2.2.2.2.2.2.2.2.2.1 u.2.2.2.2.2.2.2.2.2.2.2.2) (fun u H => mW E q u.1 a_tape a_size a_fault a_faultPlace a_many a_lands a_evenings a_sights a_choirs f_reached f_length f_begins f_sort f_value f_word f_wrongAt f_laterFault f_laterPlace a_told a_read f_farHut f_farSinger f_good u.2.1 u.2.2.1 u.2.2.2.1 f_evening u.2.2.2.2.1 u.2.2.2.2.2.1 u.2.2.2.2.2.2.1 u.2.2.2.2.2.2.2.1 u.2.2.2.2.2.2.2.2.1 u.2.2.2.2.2.2.2.2.2.1 u.2.2.2.2.2.2.2.2.2.2.1 u.2.2.2.2.2.2.2.2.2.2.2.1 a_run a_covers a_routes a_longest a_steep a_laid a_far f_sight a_runs f_choir f_voices a_rest a_wins u.2.2.2.2.2.2.2.2.2.2.2.2 a_other a_kept H) (mA q)) args s 0 0 (mA q)) (F0 m 0 ls []) := by
  have hx := zc.1
  have hb := zc.2.1
  refine lv_aload_n hx hb dX11_drawn_0 rfl (lv_at hl 0 rfl) ?_
  refine lv_iconst (v := (0 : Int32)) hx hb dX11_drawn_1 (by decide) ?_
  refine mp_11_97_0 zc hK hM hS dX11_drawn_2 (fun H locs hM hS => ?_)
  refine lv_iload_n hx hb dX11_drawn_5 rfl (lv_at hl 3 rfl) ?_
  refine lv_iconst (v := (0 : Int32)) hx hb dX11_drawn_6 (by decide) ?_
  refine lv_bipush (v := (60 : Int32)) hx hb dX11_drawn_7 (by decide) ?_
  refine zS_i [.int x3, .int (0 : Int32), .int (60 : Int32)] [] zc ky_X11_in kz_X11_in km_11_109 (c_m_in l hw) (zPre0 _) rfl rfl hl.1 (Nat.le_of_ble_eq_true rfl) ⟨rfl, rfl⟩ ⟨Nat.le_of_ble_eq_true rfl, Nat.le_of_ble_eq_true rfl⟩ ⟨(Nat.zero_le _), (Nat.zero_le _)⟩ dX11_drawn_9 (fun r_1 hw => ?_)
  refine lv_if_eq (tgt := 30) hx hb dX11_drawn_12 (by decide) (fun hc => ?_) (fun hc => ?_)
  · have hw := hw.1 hc
    refine lv_sipush (v := (-1000 : Int32)) hx hb dX11_drawn_30 (by decide) ?_
    exact zret_iw ⟨(0 : Int32), f_land, f_huts, f_singers, a_at, a_knows, a_climbed, a_snow, a_level, f_begun, f_minute, f_avalanches, f_seed⟩ zc hS hw hM dX11_drawn_33
  · have hw := hw.2 hc
    refine lv_aload_n hx hb dX11_drawn_15 rfl (lv_at hl 0 rfl) ?_
    refine lv_iload_n hx hb dX11_drawn_16 rfl (lv_at hl 1 rfl) ?_
    refine zVw_i [.int x1] [] zc ky_X11_hand kz_X11_hand km_11_313 (c_m_hand l hw) (mPreV0 hK hM) hS rfl rfl hl.1 (Nat.le_of_ble_eq_true rfl) ⟨rfl, rfl⟩ ⟨Nat.le_of_ble_eq_true rfl, Nat.le_of_ble_eq_true rfl⟩ ⟨(Nat.zero_le _), (Nat.zero_le _)⟩ dX11_drawn_17 (fun r_2 u H locs hw hM hS => ?_)
    obtain ⟨f_land_1, f_huts_1, f_singers_1⟩ := u
    refine lv_if_eq (tgt := 30) hx hb dX11_drawn_20 (by decide) (fun hc => ?_) (fun hc => ?_)
    · have hw := hw.1 hc
      refine lv_sipush (v := (-1000 : Int32)) hx hb dX11_drawn_30 (by decide) ?_
      exact zret_iw ⟨(0 : Int32), f_land_1, f_huts_1, f_singers_1, a_at, a_knows, a_climbed, a_snow, a_level, f_begun, f_minute, f_avalanches, f_seed⟩ zc hS hw hM dX11_drawn_33
    · have hw := hw.2 hc
      refine lv_aload_n hx hb dX11_drawn_23 rfl (lv_at hl 0 rfl) ?_
      refine mg_11_310_0 zc hK hM dX11_drawn_24 ?_
      refine lv_if_ne (tgt := 34) hx hb dX11_drawn_27 (by decide) (fun hc => ?_) (fun hc => ?_)
      · have hw := hw.1 hc
        refine lv_aload_n hx hb dX11_drawn_34 rfl (lv_at hl 0 rfl) ?_
        refine lv_iload_n hx hb dX11_drawn_35 rfl (lv_at hl 2 rfl) ?_
        refine mp_11_515_0 zc hK hM hS dX11_drawn_36 (fun H locs hM hS => ?_)
        refine lv_aload_n hx hb dX11_drawn_39 rfl (lv_at hl 0 rfl) ?_
        refine zVw_v [] [] zc ky_X11_begin kz_X11_begin km_11_377 (c_m_begin l hw) (mPreV0 hK hM) hS rfl rfl hl.1 (Nat.le_of_ble_eq_true rfl) ⟨rfl, rfl⟩ ⟨Nat.le_of_ble_eq_true rfl, Nat.le_of_ble_eq_true rfl⟩ ⟨(Nat.zero_le _), (Nat.zero_le _)⟩ dX11_drawn_40 (fun u H locs hw hM hS => ?_)
        obtain ⟨a_at_1, a_knows_1, a_climbed_1, a_snow_1, f_begun_1, f_minute_1, f_avalanches_1⟩ := u
        refine lv_iconst (v := (0 : Int32)) hx hb dX11_drawn_43 (by decide) ?_
        refine lv_istore (lv' := [(5, .int (0 : Int32)), (0, .ref q), (1, .int x1), (2, .int x2), (3, .int x3), (4, .int x4)]) hx hb dX11_drawn_44 hl (by decide) rfl (fun ls hl => ?_)
        exact t_m_drawn_46 zc hK hM hS  (lv_sub hl [1, 4, 5, 0] rfl) hw
      · have hw := hw.2 hc
        refine lv_sipush (v := (-1000 : Int32)) hx hb dX11_drawn_30 (by decide) ?_
        exact zret_iw ⟨(0 : Int32), f_land_1, f_huts_1, f_singers_1, a_at, a_knows, a_climbed, a_snow, a_level, f_begun, f_minute, f_avalanches, f_seed⟩ zc hS hw hM dX11_drawn_33
set_option maxRecDepth 20000 in
theorem c_m_drawn (l : Launch) {E : zE} {q : Nat} {f_code : Int32} {a_tape : Nat → Int32} {a_size : Nat → Int32} {a_fault : Nat → Int32} {a_faultPlace : Nat → Int32} {a_many : Nat → Int32} {a_lands : Nat → Int32} {a_evenings : Nat → Int32} {a_sights : Nat → Int32} {a_choirs : Nat → Int32} {f_reached : Int32} {f_length : Int32} {f_begins : Int32} {f_sort : Int32} {f_value : Int32} {f_word : Int64} {f_wrongAt : Int32} {f_laterFault : Int32} {f_laterPlace : Int32} {a_told : Nat → Int32} {a_read : Nat → Int32} {f_farHut : Int32} {f_farSinger : Int32} {f_good : Int32} {f_land : Int32} {f_huts : Int32} {f_singers : Int32} {f_evening : Int32} {a_at : Nat → Int32} {a_knows : Nat → Int32} {a_climbed : Nat → Int32} {a_snow : Nat → Int32} {a_level : Nat → Int32} {f_begun : Int32} {f_minute : Int32} {f_avalanches : Int32} {a_run : Nat → Int32} {a_covers : Nat → Int32} {a_routes : Nat → Int32} {a_longest : Nat → Int32} {a_steep : Nat → Int32} {a_laid : Nat → Int32} {a_far : Nat → Int32} {f_sight : Int32} {a_runs : Nat → Int32} {f_choir : Int32} {f_voices : Int32} {a_rest : Nat → Int64} {a_wins : Nat → Int32} {f_seed : Int32} {a_other : Nat → Int32} {a_kept : Nat → Int32} {x1 : Int32} {x2 : Int32} {x3 : Int32} {x4 : Int32} {post : Int32 → (Int32) → (Int32) → (Int32) → (Int32) → (Nat → Int32) → (Nat → Int32) → (Nat → Int32) → (Nat → Int32) → (Nat → Int32) → (Int32) → (Int32) → (Int32) → (Int32) → Prop} (hw : q_m_drawn_0 f_code a_many a_lands f_land f_huts f_singers a_at a_knows a_climbed a_snow a_level f_begun f_minute f_avalanches f_seed x1 x2 x3 x4 post) : Met l yX11_drawn (Cond.code yX11_drawn cX11_drawn 6 (some .int) :: zb) rm_m_drawn (va_Pc [.ref q, .int x1, .int x2, .int x3, .int x4] (fun U => mW E q f_code a_tape a_size a_fault a_faultPlace a_many a_lands a_evenings a_sights a_choirs f_reached f_length f_begins f_sort f_value f_word f_wrongAt f_laterFault f_laterPlace a_told a_read f_farHut f_farSinger f_good f_land f_huts f_singers f_evening a_at a_knows a_climbed a_snow a_level f_begun f_minute f_avalanches a_run a_covers a_routes a_longest a_steep a_laid a_far f_sight a_runs f_choir f_voices a_rest a_wins f_seed a_other a_kept U.heap ∧ zK E U)) (zQi (S := (Int32) × (Int32) × (Int32) × (Int32) × (Nat → Int32) × (Nat → Int32) × (Nat → Int32) × (Nat → Int32) × (Nat → Int32) × (Int32) × (Int32) × (Int32) × (Int32)) (fun r u => post r u.1 u.2.1 u.2.2.1 u.2.2.2.1 u.2.2.2.2.1 u.2.2.2.2.2.1 u.2.2.2.2.2.2.1 u.2.2.2.2.2.2.2.1 u.2.2.2.2.2.2.2.2.1 u.2.2.2.2.2.2.2.2.2.1 u.2.2.2.2.2.2.2.2.2.2.1 u.2.2.2.2.2.2.2.2.2.2.2.1 u.2.2.2.2.2.2.2.2.2.2.2.2) (fun u H => mW E q u.1 a_tape a_size a_fault a_faultPlace a_many a_lands a_evenings a_sights a_choirs f_reached f_length f_begins f_sort f_value f_word f_wrongAt f_laterFault f_laterPlace a_told a_read f_farHut f_farSinger f_good u.2.1 u.2.2.1 u.2.2.2.1 f_evening u.2.2.2.2.1 u.2.2.2.2.2.1 u.2.2.2.2.2.2.1 u.2.2.2.2.2.2.2.1 u.2.2.2.2.2.2.2.2.1 u.2.2.2.2.2.2.2.2.2.1 u.2.2.2.2.2.2.2.2.2.2.1 u.2.2.2.2.2.2.2.2.2.2.2.1 a_run a_covers a_routes a_longest a_steep a_laid a_far f_sight a_runs f_choir f_voices a_rest a_wins u.2.2.2.2.2.2.2.2.2.2.2.2 a_other a_kept H) (mA q)) 0 0 (mA q) := by
  refine Met.ofW (cc := cX11_drawn) (maxL := 6) (ret := (some .int)) (by decide) rfl ?_
  intro p e s m args below meth c s₁ B hml hv
  obtain ⟨rfl, hM, hK⟩ := hv
  have zc := zc_of B hml
  have hl := lv_entry ([.ref q, .int x1, .int x2, .int x3, .int x4]) (n := 6) (Nat.le_of_ble_eq_true rfl)
  rw [lg_entry_eq]
  generalize (lg_sl ([.ref q, .int x1, .int x2, .int x3, .int x4]) ++ List.replicate (6 - (lg_sl ([.ref q, .int x1, .int x2, .int x3, .int x4])).length) Slot.unset).toArray = ls at hl ⊢
  have hl : lv_has ls 6 [(0, .ref q), (1, .int x1), (2, .int x2), (3, .int x3), (4, .int x4)] := hl
  exact t_m_drawn_0 zc hK hM va_S.rf (lv_sub hl [0, 1, 2, 3, 4] rfl) hw
-- m_psalm
abbrev rm_m_psalm : Room := { frames := 3, cells := 0, slots := 0, locals := 70 }
def q_m_psalm_136 (P58 : Int32 → Int32 → Int32 → Int32 → (Nat → Int32) → Prop) (f_code : Int32) (a_many : Nat → Int32) (a_lands : Nat → Int32) (f_land : Int32) (f_huts : Int32) (f_singers : Int32) (a_run : Nat → Int32) (x2 : Int32) (x3 : Int32) (x4 : Int32) (x5 : Int32) (x6 : Int32) (x7 : Int32) (x8 : Int32) (post : Int32 → (Int32) → (Int32) → (Int32) → (Int32) → (Nat → Int32) → Prop) : Prop :=
  ∀ v_1 : Int32, v_1 = x8 + (1 : Int32) → (P58 x5 x6 x7 v_1 a_run)
def q_m_psalm_121 (P58 : Int32 → Int32 → Int32 → Int32 → (Nat → Int32) → Prop) (f_code : Int32) (a_many : Nat → Int32) (a_lands : Nat → Int32) (f_land : Int32) (f_huts : Int32) (f_singers : Int32) (a_run : Nat → Int32) (x2 : Int32) (x3 : Int32) (x4 : Int32) (x5 : Int32) (x7 : Int32) (x8 : Int32) (y0 : Int32) (post : Int32 → (Int32) → (Int32) → (Int32) → (Int32) → (Nat → Int32) → Prop) : Prop :=
  vp_in x2 9 ∧ (q_m_lesser_0 x7 (a_run (Int32.toNatClampNeg x2)) (fun r_1 => q_m_psalm_136 P58 f_code a_many a_lands f_land f_huts f_singers a_run x2 x3 x4 x5 y0 r_1 x8 post))
def q_m_psalm_114 (P58 : Int32 → Int32 → Int32 → Int32 → (Nat → Int32) → Prop) (f_code : Int32) (a_many : Nat → Int32) (a_lands : Nat → Int32) (f_land : Int32) (f_huts : Int32) (f_singers : Int32) (a_run : Nat → Int32) (x2 : Int32) (x3 : Int32) (x4 : Int32) (x5 : Int32) (x7 : Int32) (x8 : Int32) (post : Int32 → (Int32) → (Int32) → (Int32) → (Int32) → (Nat → Int32) → Prop) : Prop :=
  q_m_psalm_121 P58 f_code a_many a_lands f_land f_huts f_singers a_run x2 x3 x4 x5 x7 x8 x8 post
def q_m_psalm_58 (f_code : Int32) (a_many : Nat → Int32) (a_lands : Nat → Int32) (f_land : Int32) (f_huts : Int32) (f_singers : Int32) (a_run : Nat → Int32) (x2 : Int32) (x3 : Int32) (x4 : Int32) (x5 : Int32) (x6 : Int32) (x7 : Int32) (x8 : Int32) (post : Int32 → (Int32) → (Int32) → (Int32) → (Int32) → (Nat → Int32) → Prop) : Prop :=
  ∀ P58 : Int32 → Int32 → Int32 → Int32 → (Nat → Int32) → Prop, (∀ (x5 : Int32) (x6 : Int32) (x7 : Int32) (x8 : Int32) (a_run : Nat → Int32), ((f_huts ≤ x8 → ((¬ x4 = 0 → ((¬ x4 = (1 : Int32) → ((¬ x5 = 0 → (post (x3 - x7) f_code f_land f_huts f_singers a_run)) ∧ (x5 = 0 → (post (-1 : Int32) f_code f_land f_huts f_singers a_run)))) ∧ (x4 = (1 : Int32) → (post x6 f_code f_land f_huts f_singers a_run)))) ∧ (x4 = 0 → (post x5 f_code f_land f_huts f_singers a_run)))) ∧ (¬ f_huts ≤ x8 → (q_m_findRun_0 a_lands f_land f_huts a_run x8 (0 : Int32) (fun a_run_1 => vp_in x2 9 ∧ ((x3 < (a_run_1 (Int32.toNatClampNeg x2)) → (q_m_psalm_136 P58 f_code a_many a_lands f_land f_huts f_singers a_run_1 x2 x3 x4 x5 x6 x7 x8 post)) ∧ (¬ x3 < (a_run_1 (Int32.toNatClampNeg x2)) → (∀ v_1 : Int32, v_1 = (x5 ||| ((1 : Int32) <<< (x8 &&& 31))) → ((x6 = (-1 : Int32) → (q_m_psalm_114 P58 f_code a_many a_lands f_land f_huts f_singers a_run_1 x2 x3 x4 v_1 x7 x8 post)) ∧ (¬ x6 = (-1 : Int32) → (q_m_height_0 a_lands f_land x8 (fun r_1 => q_m_height_0 a_lands f_land x6 (fun r_2 => (r_1 ≤ r_2 → (q_m_psalm_121 P58 f_code a_many a_lands f_land f_huts f_singers a_run_1 x2 x3 x4 v_1 x7 x8 x6 post)) ∧ (¬ r_1 ≤ r_2 → (q_m_psalm_114 P58 f_code a_many a_lands f_land f_huts f_singers a_run_1 x2 x3 x4 v_1 x7 x8 post)))))))))))))) → P58 x5 x6 x7 x8 a_run) → P58 x5 x6 x7 x8 a_run
def q_m_psalm_0 (f_code : Int32) (a_many : Nat → Int32) (a_lands : Nat → Int32) (f_land : Int32) (f_huts : Int32) (f_singers : Int32) (a_run : Nat → Int32) (x1 : Int32) (x2 : Int32) (x3 : Int32) (x4 : Int32) (post : Int32 → (Int32) → (Int32) → (Int32) → (Int32) → (Nat → Int32) → Prop) : Prop :=
  q_m_hand_0 a_many a_lands f_land f_huts f_singers x1 (fun r_1 f_land_1 f_huts_1 f_singers_1 => (r_1 = 0 → (post (-2 : Int32) (0 : Int32) f_land_1 f_huts_1 f_singers_1 a_run)) ∧ (¬ r_1 = 0 → (q_m_isHut_0 f_huts_1 x2 (fun r_2 => (r_2 = 0 → (post (-2 : Int32) (0 : Int32) f_land_1 f_huts_1 f_singers_1 a_run)) ∧ (¬ r_2 = 0 → (q_m_in_0 x3 (0 : Int32) (99 : Int32) (fun r_3 => (r_3 = 0 → (post (-2 : Int32) (0 : Int32) f_land_1 f_huts_1 f_singers_1 a_run)) ∧ (¬ r_3 = 0 → (q_m_in_0 x4 (0 : Int32) (2 : Int32) (fun r_4 => (¬ r_4 = 0 → (q_m_psalm_58 (0 : Int32) a_many a_lands f_land_1 f_huts_1 f_singers_1 a_run x2 x3 x4 (0 : Int32) (-1 : Int32) (1000000 : Int32) (0 : Int32) post)) ∧ (r_4 = 0 → (post (-2 : Int32) (0 : Int32) f_land_1 f_huts_1 f_singers_1 a_run))))))))))))
set_option maxRecDepth 20000 in
theorem t_m_psalm_136 {p : Program} {l : Launch} {e : Env} {s : State} {m : MethodId} {args : Array Value} {below : List Frame} {meth : Method} {c : Code} {E : zE} {q : Nat} {f_code : Int32} {a_tape : Nat → Int32} {a_size : Nat → Int32} {a_fault : Nat → Int32} {a_faultPlace : Nat → Int32} {a_many : Nat → Int32} {a_lands : Nat → Int32} {a_evenings : Nat → Int32} {a_sights : Nat → Int32} {a_choirs : Nat → Int32} {f_reached : Int32} {f_length : Int32} {f_begins : Int32} {f_sort : Int32} {f_value : Int32} {f_word : Int64} {f_wrongAt : Int32} {f_laterFault : Int32} {f_laterPlace : Int32} {a_told : Nat → Int32} {a_read : Nat → Int32} {f_farHut : Int32} {f_farSinger : Int32} {f_good : Int32} {f_land : Int32} {f_huts : Int32} {f_singers : Int32} {f_evening : Int32} {a_at : Nat → Int32} {a_knows : Nat → Int32} {a_climbed : Nat → Int32} {a_snow : Nat → Int32} {a_level : Nat → Int32} {f_begun : Int32} {f_minute : Int32} {f_avalanches : Int32} {a_run : Nat → Int32} {a_covers : Nat → Int32} {a_routes : Nat → Int32} {a_longest : Nat → Int32} {a_steep : Nat → Int32} {a_laid : Nat → Int32} {a_far : Nat → Int32} {f_sight : Int32} {a_runs : Nat → Int32} {f_choir : Int32} {f_voices : Int32} {a_rest : Nat → Int64} {a_wins : Nat → Int32} {f_seed : Int32} {a_other : Nat → Int32} {a_kept : Nat → Int32} {P58 : Int32 → Int32 → Int32 → Int32 → (Nat → Int32) → Prop} {post : Int32 → (Int32) → (Int32) → (Int32) → (Int32) → (Nat → Int32) → Prop} {x2 : Int32} {x3 : Int32} {x4 : Int32} {x5 : Int32} {x6 : Int32} {x7 : Int32} {x8 : Int32} {ls : Array Slot} {H : Heap} {locs : List Loc}
    (zc : zC p s m args meth c cX11_psalm 9 RX11 (some .int))
    (hK : zK E s)
    (hM : mW E q f_code a_tape a_size a_fault a_faultPlace a_many a_lands a_evenings a_sights a_choirs f_reached f_length f_begins f_sort f_value f_word f_wrongAt f_laterFault f_laterPlace a_told a_read f_farHut f_farSinger f_good f_land f_huts f_singers f_evening a_at a_knows a_climbed a_snow a_level f_begun f_minute f_avalanches a_run a_covers a_routes a_longest a_steep a_laid a_far f_sight a_runs f_choir f_voices a_rest a_wins f_seed a_other a_kept H)
    (hS : va_S (mA q) s.heap H locs)
    (hP58 : ∀ (x5 : Int32) (x6 : Int32) (x7 : Int32) (x8 : Int32) (a_run : Nat → Int32) (H : Heap) (locs : List Loc) (ls : Array Slot), P58 x5 x6 x7 x8 a_run → lv_has ls 9 [(0, .ref q), (2, .int x2), (3, .int x3), (4, .int x4), (5, .int x5), (6, .int x6), (7, .int x7), (8, .int x8)] → mW E q f_code a_tape a_size a_fault a_faultPlace a_many a_lands a_evenings a_sights a_choirs f_reached f_length f_begins f_sort f_value f_word f_wrongAt f_laterFault f_laterPlace a_told a_read f_farHut f_farSinger f_good f_land f_huts f_singers f_evening a_at a_knows a_climbed a_snow a_level f_begun f_minute f_avalanches a_run a_covers a_routes a_longest a_steep a_laid a_far f_sight a_runs f_choir f_voices a_rest a_wins f_seed a_other a_kept H → va_S (mA q) s.heap H locs → W p l e rm_m_psalm s m args below meth c H locs 0 0 (MQ below (zQi (S := (Int32) × (Int32) × (Int32) × (Int32) × (Nat → Int32)) (fun r u => post r u.1 u.2.1 u.2.2.1 u.2.2.2.1 u.2.2.2.2) (fun u H => mW E q u.1 a_tape a_size a_fault a_faultPlace a_many a_lands a_evenings a_sights a_choirs f_reached f_length f_begins f_sort f_value f_word f_wrongAt f_laterFault f_laterPlace a_told a_read f_farHut f_farSinger f_good u.2.1 u.2.2.1 u.2.2.2.1 f_evening a_at a_knows a_climbed a_snow a_level f_begun f_minute f_avalanches u.2.2.2.2 a_covers a_routes a_longest a_steep a_laid a_far f_sight a_runs f_choir f_voices a_rest a_wins f_seed a_other a_kept H) (mA q)) args s 0 0 (mA q)) (F0 m 58 ls []))
    (hl : lv_has ls 9 [(0, .ref q), (2, .int x2), (3, .int x3), (4, .int x4), (5, .int x5), (6, .int x6), (7, .int x7), (8, .int x8)])
    (hw : q_m_psalm_136 P58 f_code a_many a_lands f_land f_huts f_singers a_run x2 x3 x4 x5 x6 x7 x8 post) :
    W p l e rm_m_psalm s m args below meth c H locs 0 0 (MQ below (zQi (S := (Int32) × (Int32) × (Int32) × (Int32) × (Nat → Int32)) (fun r u => post r u.1 u.2.1 u.2.2.1 u.2.2.2.1 u.2.2.2.2) (fun u H => mW E q u.1 a_tape a_size a_fault a_faultPlace a_many a_lands a_evenings a_sights a_choirs f_reached f_length f_begins f_sort f_value f_word f_wrongAt f_laterFault f_laterPlace a_told a_read f_farHut f_farSinger f_good u.2.1 u.2.2.1 u.2.2.2.1 f_evening a_at a_knows a_climbed a_snow a_level f_begun f_minute f_avalanches u.2.2.2.2 a_covers a_routes a_longest a_steep a_laid a_far f_sight a_runs f_choir f_voices a_rest a_wins f_seed a_other a_kept H) (mA q)) args s 0 0 (mA q)) (F0 m 136 ls []) := by
  have hx := zc.1
  have hb := zc.2.1
  obtain ⟨v_1, ev_1⟩ : ∃ y : Int32, y = x8 + (1 : Int32) := ⟨_, rfl⟩
  have hw := hw v_1 ev_1
  refine lv_iinc (v := v_1) (k := 7) (lv' := [(8, .int v_1), (0, .ref q), (2, .int x2), (3, .int x3), (4, .int x4), (5, .int x5), (6, .int x6), (7, .int x7)]) hx hb dX11_psalm_136 hl rfl (by rw [ev_1]; rfl) (by decide) rfl (fun ls hl => ?_)
  refine lv_goto (tgt := 58) hx hb dX11_psalm_139 (by decide) ?_
  exact hP58 _ _ _ _ _ _ _ _ hw (lv_sub hl [1, 2, 3, 4, 5, 6, 7, 0] rfl) hM hS
set_option maxRecDepth 20000 in
theorem t_m_psalm_121 {p : Program} {l : Launch} {e : Env} {s : State} {m : MethodId} {args : Array Value} {below : List Frame} {meth : Method} {c : Code} {E : zE} {q : Nat} {f_code : Int32} {a_tape : Nat → Int32} {a_size : Nat → Int32} {a_fault : Nat → Int32} {a_faultPlace : Nat → Int32} {a_many : Nat → Int32} {a_lands : Nat → Int32} {a_evenings : Nat → Int32} {a_sights : Nat → Int32} {a_choirs : Nat → Int32} {f_reached : Int32} {f_length : Int32} {f_begins : Int32} {f_sort : Int32} {f_value : Int32} {f_word : Int64} {f_wrongAt : Int32} {f_laterFault : Int32} {f_laterPlace : Int32} {a_told : Nat → Int32} {a_read : Nat → Int32} {f_farHut : Int32} {f_farSinger : Int32} {f_good : Int32} {f_land : Int32} {f_huts : Int32} {f_singers : Int32} {f_evening : Int32} {a_at : Nat → Int32} {a_knows : Nat → Int32} {a_climbed : Nat → Int32} {a_snow : Nat → Int32} {a_level : Nat → Int32} {f_begun : Int32} {f_minute : Int32} {f_avalanches : Int32} {a_run : Nat → Int32} {a_covers : Nat → Int32} {a_routes : Nat → Int32} {a_longest : Nat → Int32} {a_steep : Nat → Int32} {a_laid : Nat → Int32} {a_far : Nat → Int32} {f_sight : Int32} {a_runs : Nat → Int32} {f_choir : Int32} {f_voices : Int32} {a_rest : Nat → Int64} {a_wins : Nat → Int32} {f_seed : Int32} {a_other : Nat → Int32} {a_kept : Nat → Int32} {P58 : Int32 → Int32 → Int32 → Int32 → (Nat → Int32) → Prop} {post : Int32 → (Int32) → (Int32) → (Int32) → (Int32) → (Nat → Int32) → Prop} {x2 : Int32} {x3 : Int32} {x4 : Int32} {x5 : Int32} {x7 : Int32} {x8 : Int32} {y0 : Int32} {ls : Array Slot} {H : Heap} {locs : List Loc}
    (zc : zC p s m args meth c cX11_psalm 9 RX11 (some .int))
    (hK : zK E s)
    (hM : mW E q f_code a_tape a_size a_fault a_faultPlace a_many a_lands a_evenings a_sights a_choirs f_reached f_length f_begins f_sort f_value f_word f_wrongAt f_laterFault f_laterPlace a_told a_read f_farHut f_farSinger f_good f_land f_huts f_singers f_evening a_at a_knows a_climbed a_snow a_level f_begun f_minute f_avalanches a_run a_covers a_routes a_longest a_steep a_laid a_far f_sight a_runs f_choir f_voices a_rest a_wins f_seed a_other a_kept H)
    (hS : va_S (mA q) s.heap H locs)
    (hP58 : ∀ (x5 : Int32) (x6 : Int32) (x7 : Int32) (x8 : Int32) (a_run : Nat → Int32) (H : Heap) (locs : List Loc) (ls : Array Slot), P58 x5 x6 x7 x8 a_run → lv_has ls 9 [(0, .ref q), (2, .int x2), (3, .int x3), (4, .int x4), (5, .int x5), (6, .int x6), (7, .int x7), (8, .int x8)] → mW E q f_code a_tape a_size a_fault a_faultPlace a_many a_lands a_evenings a_sights a_choirs f_reached f_length f_begins f_sort f_value f_word f_wrongAt f_laterFault f_laterPlace a_told a_read f_farHut f_farSinger f_good f_land f_huts f_singers f_evening a_at a_knows a_climbed a_snow a_level f_begun f_minute f_avalanches a_run a_covers a_routes a_longest a_steep a_laid a_far f_sight a_runs f_choir f_voices a_rest a_wins f_seed a_other a_kept H → va_S (mA q) s.heap H locs → W p l e rm_m_psalm s m args below meth c H locs 0 0 (MQ below (zQi (S := (Int32) × (Int32) × (Int32) × (Int32) × (Nat → Int32)) (fun r u => post r u.1 u.2.1 u.2.2.1 u.2.2.2.1 u.2.2.2.2) (fun u H => mW E q u.1 a_tape a_size a_fault a_faultPlace a_many a_lands a_evenings a_sights a_choirs f_reached f_length f_begins f_sort f_value f_word f_wrongAt f_laterFault f_laterPlace a_told a_read f_farHut f_farSinger f_good u.2.1 u.2.2.1 u.2.2.2.1 f_evening a_at a_knows a_climbed a_snow a_level f_begun f_minute f_avalanches u.2.2.2.2 a_covers a_routes a_longest a_steep a_laid a_far f_sight a_runs f_choir f_voices a_rest a_wins f_seed a_other a_kept H) (mA q)) args s 0 0 (mA q)) (F0 m 58 ls []))
    (hl : lv_has ls 9 [(0, .ref q), (2, .int x2), (3, .int x3), (4, .int x4), (5, .int x5), (7, .int x7), (8, .int x8)])
    (hw : q_m_psalm_121 P58 f_code a_many a_lands f_land f_huts f_singers a_run x2 x3 x4 x5 x7 x8 y0 post) :
    W p l e rm_m_psalm s m args below meth c H locs 0 0 (MQ below (zQi (S := (Int32) × (Int32) × (Int32) × (Int32) × (Nat → Int32)) (fun r u => post r u.1 u.2.1 u.2.2.1 u.2.2.2.1 u.2.2.2.2) (fun u H => mW E q u.1 a_tape a_size a_fault a_faultPlace a_many a_lands a_evenings a_sights a_choirs f_reached f_length f_begins f_sort f_value f_word f_wrongAt f_laterFault f_laterPlace a_told a_read f_farHut f_farSinger f_good u.2.1 u.2.2.1 u.2.2.2.1 f_evening a_at a_knows a_climbed a_snow a_level f_begun f_minute f_avalanches u.2.2.2.2 a_covers a_routes a_longest a_steep a_laid a_far f_sight a_runs f_choir f_voices a_rest a_wins f_seed a_other a_kept H) (mA q)) args s 0 0 (mA q)) (F0 m 121 ls [.int y0]) := by
  have hx := zc.1
  have hb := zc.2.1
  refine lv_istore (lv' := [(6, .int y0), (0, .ref q), (2, .int x2), (3, .int x3), (4, .int x4), (5, .int x5), (7, .int x7), (8, .int x8)]) hx hb dX11_psalm_121 hl (by decide) rfl (fun ls hl => ?_)
  refine lv_iload hx hb dX11_psalm_123 (lv_at hl 6 rfl) ?_
  refine lv_aload_n hx hb dX11_psalm_125 rfl (lv_at hl 1 rfl) ?_
  refine mg_11_59_0 zc hK hM dX11_psalm_126 ?_
  refine lv_iload_n hx hb dX11_psalm_129 rfl (lv_at hl 2 rfl) ?_
  refine mld_17 zc hK hM hw.1 dX11_psalm_130 ?_
  have hw := hw.2
  refine zS_i [.int x7, .int (a_run (Int32.toNatClampNeg x2))] [] zc ky_X11_lesser kz_X11_lesser km_11_411 (c_m_lesser l hw) (zPre0 _) rfl rfl hl.1 (Nat.le_of_ble_eq_true rfl) ⟨rfl, rfl⟩ ⟨Nat.le_of_ble_eq_true rfl, Nat.le_of_ble_eq_true rfl⟩ ⟨(Nat.zero_le _), (Nat.zero_le _)⟩ dX11_psalm_131 (fun r_1 hw => ?_)
  refine lv_istore (lv' := [(7, .int r_1), (6, .int y0), (0, .ref q), (2, .int x2), (3, .int x3), (4, .int x4), (5, .int x5), (8, .int x8)]) hx hb dX11_psalm_134 hl (by decide) rfl (fun ls hl => ?_)
  exact t_m_psalm_136 zc hK hM hS hP58 (lv_sub hl [2, 3, 4, 5, 6, 1, 0, 7] rfl) hw
set_option maxRecDepth 20000 in
theorem t_m_psalm_114 {p : Program} {l : Launch} {e : Env} {s : State} {m : MethodId} {args : Array Value} {below : List Frame} {meth : Method} {c : Code} {E : zE} {q : Nat} {f_code : Int32} {a_tape : Nat → Int32} {a_size : Nat → Int32} {a_fault : Nat → Int32} {a_faultPlace : Nat → Int32} {a_many : Nat → Int32} {a_lands : Nat → Int32} {a_evenings : Nat → Int32} {a_sights : Nat → Int32} {a_choirs : Nat → Int32} {f_reached : Int32} {f_length : Int32} {f_begins : Int32} {f_sort : Int32} {f_value : Int32} {f_word : Int64} {f_wrongAt : Int32} {f_laterFault : Int32} {f_laterPlace : Int32} {a_told : Nat → Int32} {a_read : Nat → Int32} {f_farHut : Int32} {f_farSinger : Int32} {f_good : Int32} {f_land : Int32} {f_huts : Int32} {f_singers : Int32} {f_evening : Int32} {a_at : Nat → Int32} {a_knows : Nat → Int32} {a_climbed : Nat → Int32} {a_snow : Nat → Int32} {a_level : Nat → Int32} {f_begun : Int32} {f_minute : Int32} {f_avalanches : Int32} {a_run : Nat → Int32} {a_covers : Nat → Int32} {a_routes : Nat → Int32} {a_longest : Nat → Int32} {a_steep : Nat → Int32} {a_laid : Nat → Int32} {a_far : Nat → Int32} {f_sight : Int32} {a_runs : Nat → Int32} {f_choir : Int32} {f_voices : Int32} {a_rest : Nat → Int64} {a_wins : Nat → Int32} {f_seed : Int32} {a_other : Nat → Int32} {a_kept : Nat → Int32} {P58 : Int32 → Int32 → Int32 → Int32 → (Nat → Int32) → Prop} {post : Int32 → (Int32) → (Int32) → (Int32) → (Int32) → (Nat → Int32) → Prop} {x2 : Int32} {x3 : Int32} {x4 : Int32} {x5 : Int32} {x7 : Int32} {x8 : Int32} {ls : Array Slot} {H : Heap} {locs : List Loc}
    (zc : zC p s m args meth c cX11_psalm 9 RX11 (some .int))
    (hK : zK E s)
    (hM : mW E q f_code a_tape a_size a_fault a_faultPlace a_many a_lands a_evenings a_sights a_choirs f_reached f_length f_begins f_sort f_value f_word f_wrongAt f_laterFault f_laterPlace a_told a_read f_farHut f_farSinger f_good f_land f_huts f_singers f_evening a_at a_knows a_climbed a_snow a_level f_begun f_minute f_avalanches a_run a_covers a_routes a_longest a_steep a_laid a_far f_sight a_runs f_choir f_voices a_rest a_wins f_seed a_other a_kept H)
    (hS : va_S (mA q) s.heap H locs)
    (hP58 : ∀ (x5 : Int32) (x6 : Int32) (x7 : Int32) (x8 : Int32) (a_run : Nat → Int32) (H : Heap) (locs : List Loc) (ls : Array Slot), P58 x5 x6 x7 x8 a_run → lv_has ls 9 [(0, .ref q), (2, .int x2), (3, .int x3), (4, .int x4), (5, .int x5), (6, .int x6), (7, .int x7), (8, .int x8)] → mW E q f_code a_tape a_size a_fault a_faultPlace a_many a_lands a_evenings a_sights a_choirs f_reached f_length f_begins f_sort f_value f_word f_wrongAt f_laterFault f_laterPlace a_told a_read f_farHut f_farSinger f_good f_land f_huts f_singers f_evening a_at a_knows a_climbed a_snow a_level f_begun f_minute f_avalanches a_run a_covers a_routes a_longest a_steep a_laid a_far f_sight a_runs f_choir f_voices a_rest a_wins f_seed a_other a_kept H → va_S (mA q) s.heap H locs → W p l e rm_m_psalm s m args below meth c H locs 0 0 (MQ below (zQi (S := (Int32) × (Int32) × (Int32) × (Int32) × (Nat → Int32)) (fun r u => post r u.1 u.2.1 u.2.2.1 u.2.2.2.1 u.2.2.2.2) (fun u H => mW E q u.1 a_tape a_size a_fault a_faultPlace a_many a_lands a_evenings a_sights a_choirs f_reached f_length f_begins f_sort f_value f_word f_wrongAt f_laterFault f_laterPlace a_told a_read f_farHut f_farSinger f_good u.2.1 u.2.2.1 u.2.2.2.1 f_evening a_at a_knows a_climbed a_snow a_level f_begun f_minute f_avalanches u.2.2.2.2 a_covers a_routes a_longest a_steep a_laid a_far f_sight a_runs f_choir f_voices a_rest a_wins f_seed a_other a_kept H) (mA q)) args s 0 0 (mA q)) (F0 m 58 ls []))
    (hl : lv_has ls 9 [(0, .ref q), (2, .int x2), (3, .int x3), (4, .int x4), (5, .int x5), (7, .int x7), (8, .int x8)])
    (hw : q_m_psalm_114 P58 f_code a_many a_lands f_land f_huts f_singers a_run x2 x3 x4 x5 x7 x8 post) :
    W p l e rm_m_psalm s m args below meth c H locs 0 0 (MQ below (zQi (S := (Int32) × (Int32) × (Int32) × (Int32) × (Nat → Int32)) (fun r u => post r u.1 u.2.1 u.2.2.1 u.2.2.2.1 u.2.2.2.2) (fun u H => mW E q u.1 a_tape a_size a_fault a_faultPlace a_many a_lands a_evenings a_sights a_choirs f_reached f_length f_begins f_sort f_value f_word f_wrongAt f_laterFault f_laterPlace a_told a_read f_farHut f_farSinger f_good u.2.1 u.2.2.1 u.2.2.2.1 f_evening a_at a_knows a_climbed a_snow a_level f_begun f_minute f_avalanches u.2.2.2.2 a_covers a_routes a_longest a_steep a_laid a_far f_sight a_runs f_choir f_voices a_rest a_wins f_seed a_other a_kept H) (mA q)) args s 0 0 (mA q)) (F0 m 114 ls []) := by
  have hx := zc.1
  have hb := zc.2.1
  refine lv_iload hx hb dX11_psalm_114 (lv_at hl 6 rfl) ?_
  refine lv_goto (tgt := 121) hx hb dX11_psalm_116 (by decide) ?_
  exact t_m_psalm_121 zc hK hM hS hP58 (lv_sub hl [0, 1, 2, 3, 4, 5, 6] rfl) hw
set_option maxRecDepth 20000 in
theorem t_m_psalm_58 {p : Program} {l : Launch} {e : Env} {s : State} {m : MethodId} {args : Array Value} {below : List Frame} {meth : Method} {c : Code} {E : zE} {q : Nat} {f_code : Int32} {a_tape : Nat → Int32} {a_size : Nat → Int32} {a_fault : Nat → Int32} {a_faultPlace : Nat → Int32} {a_many : Nat → Int32} {a_lands : Nat → Int32} {a_evenings : Nat → Int32} {a_sights : Nat → Int32} {a_choirs : Nat → Int32} {f_reached : Int32} {f_length : Int32} {f_begins : Int32} {f_sort : Int32} {f_value : Int32} {f_word : Int64} {f_wrongAt : Int32} {f_laterFault : Int32} {f_laterPlace : Int32} {a_told : Nat → Int32} {a_read : Nat → Int32} {f_farHut : Int32} {f_farSinger : Int32} {f_good : Int32} {f_land : Int32} {f_huts : Int32} {f_singers : Int32} {f_evening : Int32} {a_at : Nat → Int32} {a_knows : Nat → Int32} {a_climbed : Nat → Int32} {a_snow : Nat → Int32} {a_level : Nat → Int32} {f_begun : Int32} {f_minute : Int32} {f_avalanches : Int32} {a_run : Nat → Int32} {a_covers : Nat → Int32} {a_routes : Nat → Int32} {a_longest : Nat → Int32} {a_steep : Nat → Int32} {a_laid : Nat → Int32} {a_far : Nat → Int32} {f_sight : Int32} {a_runs : Nat → Int32} {f_choir : Int32} {f_voices : Int32} {a_rest : Nat → Int64} {a_wins : Nat → Int32} {f_seed : Int32} {a_other : Nat → Int32} {a_kept : Nat → Int32} {post : Int32 → (Int32) → (Int32) → (Int32) → (Int32) → (Nat → Int32) → Prop} {x2 : Int32} {x3 : Int32} {x4 : Int32} {x5 : Int32} {x6 : Int32} {x7 : Int32} {x8 : Int32} {ls : Array Slot} {H : Heap} {locs : List Loc}
    (zc : zC p s m args meth c cX11_psalm 9 RX11 (some .int))
    (hK : zK E s)
    (hM : mW E q f_code a_tape a_size a_fault a_faultPlace a_many a_lands a_evenings a_sights a_choirs f_reached f_length f_begins f_sort f_value f_word f_wrongAt f_laterFault f_laterPlace a_told a_read f_farHut f_farSinger f_good f_land f_huts f_singers f_evening a_at a_knows a_climbed a_snow a_level f_begun f_minute f_avalanches a_run a_covers a_routes a_longest a_steep a_laid a_far f_sight a_runs f_choir f_voices a_rest a_wins f_seed a_other a_kept H)
    (hS : va_S (mA q) s.heap H locs)
    (hl : lv_has ls 9 [(0, .ref q), (2, .int x2), (3, .int x3), (4, .int x4), (5, .int x5), (6, .int x6), (7, .int x7), (8, .int x8)])
    (hw : q_m_psalm_58 f_code a_many a_lands f_land f_huts f_singers a_run x2 x3 x4 x5 x6 x7 x8 post) :
    W p l e rm_m_psalm s m args below meth c H locs 0 0 (MQ below (zQi (S := (Int32) × (Int32) × (Int32) × (Int32) × (Nat → Int32)) (fun r u => post r u.1 u.2.1 u.2.2.1 u.2.2.2.1 u.2.2.2.2) (fun u H => mW E q u.1 a_tape a_size a_fault a_faultPlace a_many a_lands a_evenings a_sights a_choirs f_reached f_length f_begins f_sort f_value f_word f_wrongAt f_laterFault f_laterPlace a_told a_read f_farHut f_farSinger f_good u.2.1 u.2.2.1 u.2.2.2.1 f_evening a_at a_knows a_climbed a_snow a_level f_begun f_minute f_avalanches u.2.2.2.2 a_covers a_routes a_longest a_steep a_laid a_far f_sight a_runs f_choir f_voices a_rest a_wins f_seed a_other a_kept H) (mA q)) args s 0 0 (mA q)) (F0 m 58 ls []) := by
  have hx := zc.1
  have hb := zc.2.1
  refine hw (fun x5 x6 x7 x8 a_run => ∀ (H : Heap) (locs : List Loc) (ls : Array Slot), lv_has ls 9 [(0, .ref q), (2, .int x2), (3, .int x3), (4, .int x4), (5, .int x5), (6, .int x6), (7, .int x7), (8, .int x8)] → mW E q f_code a_tape a_size a_fault a_faultPlace a_many a_lands a_evenings a_sights a_choirs f_reached f_length f_begins f_sort f_value f_word f_wrongAt f_laterFault f_laterPlace a_told a_read f_farHut f_farSinger f_good f_land f_huts f_singers f_evening a_at a_knows a_climbed a_snow a_level f_begun f_minute f_avalanches a_run a_covers a_routes a_longest a_steep a_laid a_far f_sight a_runs f_choir f_voices a_rest a_wins f_seed a_other a_kept H → va_S (mA q) s.heap H locs → W p l e rm_m_psalm s m args below meth c H locs 0 0 (MQ below (zQi (S := (Int32) × (Int32) × (Int32) × (Int32) × (Nat → Int32)) (fun r u => post r u.1 u.2.1 u.2.2.1 u.2.2.2.1 u.2.2.2.2) (fun u H => mW E q u.1 a_tape a_size a_fault a_faultPlace a_many a_lands a_evenings a_sights a_choirs f_reached f_length f_begins f_sort f_value f_word f_wrongAt f_laterFault f_laterPlace a_told a_read f_farHut f_farSinger f_good u.2.1 u.2.2.1 u.2.2.2.1 f_evening a_at a_knows a_climbed a_snow a_level f_begun f_minute f_avalanches u.2.2.2.2 a_covers a_routes a_longest a_steep a_laid a_far f_sight a_runs f_choir f_voices a_rest a_wins f_seed a_other a_kept H) (mA q)) args s 0 0 (mA q)) (F0 m 58 ls [])) ?_ _ _ _ hl hM hS
  intro x5 x6 x7 x8 a_run hw H locs ls hl hM hS
  refine lv_iload hx hb dX11_psalm_58 (lv_at hl 7 rfl) ?_
  refine lv_aload_n hx hb dX11_psalm_60 rfl (lv_at hl 0 rfl) ?_
  refine mg_11_307_0 zc hK hM dX11_psalm_61 ?_
  refine lv_icmp_ge (tgt := 142) hx hb dX11_psalm_64 (by decide) (fun hc => ?_) (fun hc => ?_)
  · have hw := hw.1 hc
    refine lv_iload hx hb dX11_psalm_142 (lv_at hl 3 rfl) ?_
    refine lv_if_ne (tgt := 152) hx hb dX11_psalm_144 (by decide) (fun hc => ?_) (fun hc => ?_)
    · have hw := hw.1 hc
      refine lv_iload hx hb dX11_psalm_152 (lv_at hl 3 rfl) ?_
      refine lv_iconst (v := (1 : Int32)) hx hb dX11_psalm_154 (by decide) ?_
      refine lv_icmp_ne (tgt := 163) hx hb dX11_psalm_155 (by decide) (fun hc => ?_) (fun hc => ?_)
      · have hw := hw.1 hc
        refine lv_iload hx hb dX11_psalm_163 (lv_at hl 4 rfl) ?_
        refine lv_if_ne (tgt := 172) hx hb dX11_psalm_165 (by decide) (fun hc => ?_) (fun hc => ?_)
        · have hw := hw.1 hc
          refine lv_iload_n hx hb dX11_psalm_172 rfl (lv_at hl 2 rfl) ?_
          refine lv_iload hx hb dX11_psalm_173 (lv_at hl 6 rfl) ?_
          refine lv_isub hx hb dX11_psalm_175 ?_
          exact zret_iw ⟨f_code, f_land, f_huts, f_singers, a_run⟩ zc hS hw hM dX11_psalm_176
        · have hw := hw.2 hc
          refine lv_iconst (v := (-1 : Int32)) hx hb dX11_psalm_168 (by decide) ?_
          refine lv_goto (tgt := 176) hx hb dX11_psalm_169 (by decide) ?_
          exact zret_iw ⟨f_code, f_land, f_huts, f_singers, a_run⟩ zc hS hw hM dX11_psalm_176
      · have hw := hw.2 hc
        refine lv_iload hx hb dX11_psalm_158 (lv_at hl 5 rfl) ?_
        refine lv_goto (tgt := 176) hx hb dX11_psalm_160 (by decide) ?_
        exact zret_iw ⟨f_code, f_land, f_huts, f_singers, a_run⟩ zc hS hw hM dX11_psalm_176
    · have hw := hw.2 hc
      refine lv_iload hx hb dX11_psalm_147 (lv_at hl 4 rfl) ?_
      refine lv_goto (tgt := 176) hx hb dX11_psalm_149 (by decide) ?_
      exact zret_iw ⟨f_code, f_land, f_huts, f_singers, a_run⟩ zc hS hw hM dX11_psalm_176
  · have hw := hw.2 hc
    refine lv_aload_n hx hb dX11_psalm_67 rfl (lv_at hl 0 rfl) ?_
    refine lv_iload hx hb dX11_psalm_68 (lv_at hl 7 rfl) ?_
    refine lv_iconst (v := (0 : Int32)) hx hb dX11_psalm_70 (by decide) ?_
    refine zVw_v [.int x8, .int (0 : Int32)] [] zc ky_X11_findRun kz_X11_findRun km_11_414 (c_m_findRun l hw) (mPreV0 hK hM) hS rfl rfl hl.1 (Nat.le_of_ble_eq_true rfl) ⟨rfl, rfl⟩ ⟨Nat.le_of_ble_eq_true rfl, Nat.le_of_ble_eq_true rfl⟩ ⟨(Nat.zero_le _), (Nat.zero_le _)⟩ dX11_psalm_71 (fun a_run_1 H locs hw hM hS => ?_)
    refine lv_aload_n hx hb dX11_psalm_74 rfl (lv_at hl 0 rfl) ?_
    refine mg_11_59_0 zc hK hM dX11_psalm_75 ?_
    refine lv_iload_n hx hb dX11_psalm_78 rfl (lv_at hl 1 rfl) ?_
    refine mld_17 zc hK hM hw.1 dX11_psalm_79 ?_
    have hw := hw.2
    refine lv_iload_n hx hb dX11_psalm_80 rfl (lv_at hl 2 rfl) ?_
    refine lv_icmp_gt (tgt := 136) hx hb dX11_psalm_81 (by decide) (fun hc => ?_) (fun hc => ?_)
    · have hw := hw.1 hc
      exact t_m_psalm_136 zc hK hM hS (fun _ _ _ _ _ H locs ls h hl hM hS => h H locs ls hl hM hS) (lv_sub hl [0, 1, 2, 3, 4, 5, 6, 7] rfl) hw
    · have hw := hw.2 hc
      refine lv_iload hx hb dX11_psalm_84 (lv_at hl 4 rfl) ?_
      refine lv_iconst (v := (1 : Int32)) hx hb dX11_psalm_86 (by decide) ?_
      refine lv_iload hx hb dX11_psalm_87 (lv_at hl 7 rfl) ?_
      refine lv_ishl hx hb dX11_psalm_89 ?_
      refine lv_ior hx hb dX11_psalm_90 ?_
      refine lv_topi (fun v_1 ev_1 => ?_)
      have hw := hw v_1 ev_1
      refine lv_istore (lv' := [(5, .int v_1), (0, .ref q), (2, .int x2), (3, .int x3), (4, .int x4), (6, .int x6), (7, .int x7), (8, .int x8)]) hx hb dX11_psalm_91 hl (by decide) rfl (fun ls hl => ?_)
      refine lv_iload hx hb dX11_psalm_93 (lv_at hl 5 rfl) ?_
      refine lv_iconst (v := (-1 : Int32)) hx hb dX11_psalm_95 (by decide) ?_
      refine lv_icmp_eq (tgt := 114) hx hb dX11_psalm_96 (by decide) (fun hc => ?_) (fun hc => ?_)
      · have hw := hw.1 hc
        exact t_m_psalm_114 zc hK hM hS (fun _ _ _ _ _ H locs ls h hl hM hS => h H locs ls hl hM hS) (lv_sub hl [1, 2, 3, 4, 0, 6, 7] rfl) hw
      · have hw := hw.2 hc
        refine lv_aload_n hx hb dX11_psalm_99 rfl (lv_at hl 1 rfl) ?_
        refine lv_iload hx hb dX11_psalm_100 (lv_at hl 7 rfl) ?_
        refine zV_i [.int x8] [] zc ky_X11_height kz_X11_height km_11_322 (c_m_height l hw) (mPreV0 hK hM) rfl rfl hl.1 (Nat.le_of_ble_eq_true rfl) ⟨rfl, rfl⟩ ⟨Nat.le_of_ble_eq_true rfl, Nat.le_of_ble_eq_true rfl⟩ ⟨(Nat.zero_le _), (Nat.zero_le _)⟩ dX11_psalm_102 (fun r_1 hw => ?_)
        refine lv_aload_n hx hb dX11_psalm_105 rfl (lv_at hl 1 rfl) ?_
        refine lv_iload hx hb dX11_psalm_106 (lv_at hl 5 rfl) ?_
        refine zV_i [.int x6] [.int r_1] zc ky_X11_height kz_X11_height km_11_322 (c_m_height l hw) (mPreV0 hK hM) rfl rfl hl.1 (Nat.le_of_ble_eq_true rfl) ⟨rfl, rfl⟩ ⟨Nat.le_of_ble_eq_true rfl, Nat.le_of_ble_eq_true rfl⟩ ⟨(Nat.zero_le _), (Nat.zero_le _)⟩ dX11_psalm_108 (fun r_2 hw => ?_)
        refine lv_icmp_le (tgt := 119) hx hb dX11_psalm_111 (by decide) (fun hc => ?_) (fun hc => ?_)
        · have hw := hw.1 hc
          refine lv_iload hx hb dX11_psalm_119 (lv_at hl 5 rfl) ?_
          exact t_m_psalm_121 zc hK hM hS (fun _ _ _ _ _ H locs ls h hl hM hS => h H locs ls hl hM hS) (lv_sub hl [1, 2, 3, 4, 0, 6, 7] rfl) hw
        · have hw := hw.2 hc
          exact t_m_psalm_114 zc hK hM hS (fun _ _ _ _ _ H locs ls h hl hM hS => h H locs ls hl hM hS) (lv_sub hl [1, 2, 3, 4, 0, 6, 7] rfl) hw
set_option maxRecDepth 20000 in
theorem t_m_psalm_0 {p : Program} {l : Launch} {e : Env} {s : State} {m : MethodId} {args : Array Value} {below : List Frame} {meth : Method} {c : Code} {E : zE} {q : Nat} {f_code : Int32} {a_tape : Nat → Int32} {a_size : Nat → Int32} {a_fault : Nat → Int32} {a_faultPlace : Nat → Int32} {a_many : Nat → Int32} {a_lands : Nat → Int32} {a_evenings : Nat → Int32} {a_sights : Nat → Int32} {a_choirs : Nat → Int32} {f_reached : Int32} {f_length : Int32} {f_begins : Int32} {f_sort : Int32} {f_value : Int32} {f_word : Int64} {f_wrongAt : Int32} {f_laterFault : Int32} {f_laterPlace : Int32} {a_told : Nat → Int32} {a_read : Nat → Int32} {f_farHut : Int32} {f_farSinger : Int32} {f_good : Int32} {f_land : Int32} {f_huts : Int32} {f_singers : Int32} {f_evening : Int32} {a_at : Nat → Int32} {a_knows : Nat → Int32} {a_climbed : Nat → Int32} {a_snow : Nat → Int32} {a_level : Nat → Int32} {f_begun : Int32} {f_minute : Int32} {f_avalanches : Int32} {a_run : Nat → Int32} {a_covers : Nat → Int32} {a_routes : Nat → Int32} {a_longest : Nat → Int32} {a_steep : Nat → Int32} {a_laid : Nat → Int32} {a_far : Nat → Int32} {f_sight : Int32} {a_runs : Nat → Int32} {f_choir : Int32} {f_voices : Int32} {a_rest : Nat → Int64} {a_wins : Nat → Int32} {f_seed : Int32} {a_other : Nat → Int32} {a_kept : Nat → Int32} {post : Int32 → (Int32) → (Int32) → (Int32) → (Int32) → (Nat → Int32) → Prop} {x1 : Int32} {x2 : Int32} {x3 : Int32} {x4 : Int32} {ls : Array Slot} {H : Heap} {locs : List Loc}
    (zc : zC p s m args meth c cX11_psalm 9 RX11 (some .int))
    (hK : zK E s)
    (hM : mW E q f_code a_tape a_size a_fault a_faultPlace a_many a_lands a_evenings a_sights a_choirs f_reached f_length f_begins f_sort f_value f_word f_wrongAt f_laterFault f_laterPlace a_told a_read f_farHut f_farSinger f_good f_land f_huts f_singers f_evening a_at a_knows a_climbed a_snow a_level f_begun f_minute f_avalanches a_run a_covers a_routes a_longest a_steep a_laid a_far f_sight a_runs f_choir f_voices a_rest a_wins f_seed a_other a_kept H)
    (hS : va_S (mA q) s.heap H locs)
    (hl : lv_has ls 9 [(0, .ref q), (1, .int x1), (2, .int x2), (3, .int x3), (4, .int x4)])
    (hw : q_m_psalm_0 f_code a_many a_lands f_land f_huts f_singers a_run x1 x2 x3 x4 post) :
    W p l e rm_m_psalm s m args below meth c H locs 0 0 (MQ below (zQi (S := (Int32) × (Int32) × (Int32) × (Int32) × (Nat → Int32)) (fun r u => post r u.1 u.2.1 u.2.2.1 u.2.2.2.1 u.2.2.2.2) (fun u H => mW E q u.1 a_tape a_size a_fault a_faultPlace a_many a_lands a_evenings a_sights a_choirs f_reached f_length f_begins f_sort f_value f_word f_wrongAt f_laterFault f_laterPlace a_told a_read f_farHut f_farSinger f_good u.2.1 u.2.2.1 u.2.2.2.1 f_evening a_at a_knows a_climbed a_snow a_level f_begun f_minute f_avalanches u.2.2.2.2 a_covers a_routes a_longest a_steep a_laid a_far f_sight a_runs f_choir f_voices a_rest a_wins f_seed a_other a_kept H) (mA q)) args s 0 0 (mA q)) (F0 m 0 ls []) := by
  have hx := zc.1
  have hb := zc.2.1
  refine lv_aload_n hx hb dX11_psalm_0 rfl (lv_at hl 0 rfl) ?_
  refine lv_iconst (v := (0 : Int32)) hx hb dX11_psalm_1 (by decide) ?_
  refine mp_11_97_0 zc hK hM hS dX11_psalm_2 (fun H locs hM hS => ?_)
  refine lv_aload_n hx hb dX11_psalm_5 rfl (lv_at hl 0 rfl) ?_
  refine lv_iload_n hx hb dX11_psalm_6 rfl (lv_at hl 1 rfl) ?_
  refine zVw_i [.int x1] [] zc ky_X11_hand kz_X11_hand km_11_313 (c_m_hand l hw) (mPreV0 hK hM) hS rfl rfl hl.1 (Nat.le_of_ble_eq_true rfl) ⟨rfl, rfl⟩ ⟨Nat.le_of_ble_eq_true rfl, Nat.le_of_ble_eq_true rfl⟩ ⟨(Nat.zero_le _), (Nat.zero_le _)⟩ dX11_psalm_7 (fun r_1 u H locs hw hM hS => ?_)
  obtain ⟨f_land_1, f_huts_1, f_singers_1⟩ := u
  refine lv_if_eq (tgt := 41) hx hb dX11_psalm_10 (by decide) (fun hc => ?_) (fun hc => ?_)
  · have hw := hw.1 hc
    refine lv_bipush (v := (-2 : Int32)) hx hb dX11_psalm_41 (by decide) ?_
    exact zret_iw ⟨(0 : Int32), f_land_1, f_huts_1, f_singers_1, a_run⟩ zc hS hw hM dX11_psalm_43
  · have hw := hw.2 hc
    refine lv_aload_n hx hb dX11_psalm_13 rfl (lv_at hl 0 rfl) ?_
    refine lv_iload_n hx hb dX11_psalm_14 rfl (lv_at hl 2 rfl) ?_
    refine zV_i [.int x2] [] zc ky_X11_isHut kz_X11_isHut km_11_316 (c_m_isHut l hw) (mPreV0 hK hM) rfl rfl hl.1 (Nat.le_of_ble_eq_true rfl) ⟨rfl, rfl⟩ ⟨Nat.le_of_ble_eq_true rfl, Nat.le_of_ble_eq_true rfl⟩ ⟨(Nat.zero_le _), (Nat.zero_le _)⟩ dX11_psalm_15 (fun r_2 hw => ?_)
    refine lv_if_eq (tgt := 41) hx hb dX11_psalm_18 (by decide) (fun hc => ?_) (fun hc => ?_)
    · have hw := hw.1 hc
      refine lv_bipush (v := (-2 : Int32)) hx hb dX11_psalm_41 (by decide) ?_
      exact zret_iw ⟨(0 : Int32), f_land_1, f_huts_1, f_singers_1, a_run⟩ zc hS hw hM dX11_psalm_43
    · have hw := hw.2 hc
      refine lv_iload_n hx hb dX11_psalm_21 rfl (lv_at hl 3 rfl) ?_
      refine lv_iconst (v := (0 : Int32)) hx hb dX11_psalm_22 (by decide) ?_
      refine lv_bipush (v := (99 : Int32)) hx hb dX11_psalm_23 (by decide) ?_
      refine zS_i [.int x3, .int (0 : Int32), .int (99 : Int32)] [] zc ky_X11_in kz_X11_in km_11_109 (c_m_in l hw) (zPre0 _) rfl rfl hl.1 (Nat.le_of_ble_eq_true rfl) ⟨rfl, rfl⟩ ⟨Nat.le_of_ble_eq_true rfl, Nat.le_of_ble_eq_true rfl⟩ ⟨(Nat.zero_le _), (Nat.zero_le _)⟩ dX11_psalm_25 (fun r_3 hw => ?_)
      refine lv_if_eq (tgt := 41) hx hb dX11_psalm_28 (by decide) (fun hc => ?_) (fun hc => ?_)
      · have hw := hw.1 hc
        refine lv_bipush (v := (-2 : Int32)) hx hb dX11_psalm_41 (by decide) ?_
        exact zret_iw ⟨(0 : Int32), f_land_1, f_huts_1, f_singers_1, a_run⟩ zc hS hw hM dX11_psalm_43
      · have hw := hw.2 hc
        refine lv_iload hx hb dX11_psalm_31 (lv_at hl 4 rfl) ?_
        refine lv_iconst (v := (0 : Int32)) hx hb dX11_psalm_33 (by decide) ?_
        refine lv_iconst (v := (2 : Int32)) hx hb dX11_psalm_34 (by decide) ?_
        refine zS_i [.int x4, .int (0 : Int32), .int (2 : Int32)] [] zc ky_X11_in kz_X11_in km_11_109 (c_m_in l hw) (zPre0 _) rfl rfl hl.1 (Nat.le_of_ble_eq_true rfl) ⟨rfl, rfl⟩ ⟨Nat.le_of_ble_eq_true rfl, Nat.le_of_ble_eq_true rfl⟩ ⟨(Nat.zero_le _), (Nat.zero_le _)⟩ dX11_psalm_35 (fun r_4 hw => ?_)
        refine lv_if_ne (tgt := 44) hx hb dX11_psalm_38 (by decide) (fun hc => ?_) (fun hc => ?_)
        · have hw := hw.1 hc
          refine lv_iconst (v := (0 : Int32)) hx hb dX11_psalm_44 (by decide) ?_
          refine lv_istore (lv' := [(5, .int (0 : Int32)), (0, .ref q), (1, .int x1), (2, .int x2), (3, .int x3), (4, .int x4)]) hx hb dX11_psalm_45 hl (by decide) rfl (fun ls hl => ?_)
          refine lv_iconst (v := (-1 : Int32)) hx hb dX11_psalm_47 (by decide) ?_
          refine lv_istore (lv' := [(6, .int (-1 : Int32)), (5, .int (0 : Int32)), (0, .ref q), (1, .int x1), (2, .int x2), (3, .int x3), (4, .int x4)]) hx hb dX11_psalm_48 hl (by decide) rfl (fun ls hl => ?_)
          refine lv_ldcw (v := (1000000 : Int32)) hx hb zc.2.2.2.1 (zc.2.2.2.2.1 _ kc_11_410) dX11_psalm_50 ?_
          refine lv_istore (lv' := [(7, .int (1000000 : Int32)), (6, .int (-1 : Int32)), (5, .int (0 : Int32)), (0, .ref q), (1, .int x1), (2, .int x2), (3, .int x3), (4, .int x4)]) hx hb dX11_psalm_53 hl (by decide) rfl (fun ls hl => ?_)
          refine lv_iconst (v := (0 : Int32)) hx hb dX11_psalm_55 (by decide) ?_
          refine lv_istore (lv' := [(8, .int (0 : Int32)), (7, .int (1000000 : Int32)), (6, .int (-1 : Int32)), (5, .int (0 : Int32)), (0, .ref q), (1, .int x1), (2, .int x2), (3, .int x3), (4, .int x4)]) hx hb dX11_psalm_56 hl (by decide) rfl (fun ls hl => ?_)
          exact t_m_psalm_58 zc hK hM hS  (lv_sub hl [4, 6, 7, 8, 3, 2, 1, 0] rfl) hw
        · have hw := hw.2 hc
          refine lv_bipush (v := (-2 : Int32)) hx hb dX11_psalm_41 (by decide) ?_
          exact zret_iw ⟨(0 : Int32), f_land_1, f_huts_1, f_singers_1, a_run⟩ zc hS hw hM dX11_psalm_43
set_option maxRecDepth 20000 in
theorem c_m_psalm (l : Launch) {E : zE} {q : Nat} {f_code : Int32} {a_tape : Nat → Int32} {a_size : Nat → Int32} {a_fault : Nat → Int32} {a_faultPlace : Nat → Int32} {a_many : Nat → Int32} {a_lands : Nat → Int32} {a_evenings : Nat → Int32} {a_sights : Nat → Int32} {a_choirs : Nat → Int32} {f_reached : Int32} {f_length : Int32} {f_begins : Int32} {f_sort : Int32} {f_value : Int32} {f_word : Int64} {f_wrongAt : Int32} {f_laterFault : Int32} {f_laterPlace : Int32} {a_told : Nat → Int32} {a_read : Nat → Int32} {f_farHut : Int32} {f_farSinger : Int32} {f_good : Int32} {f_land : Int32} {f_huts : Int32} {f_singers : Int32} {f_evening : Int32} {a_at : Nat → Int32} {a_knows : Nat → Int32} {a_climbed : Nat → Int32} {a_snow : Nat → Int32} {a_level : Nat → Int32} {f_begun : Int32} {f_minute : Int32} {f_avalanches : Int32} {a_run : Nat → Int32} {a_covers : Nat → Int32} {a_routes : Nat → Int32} {a_longest : Nat → Int32} {a_steep : Nat → Int32} {a_laid : Nat → Int32} {a_far : Nat → Int32} {f_sight : Int32} {a_runs : Nat → Int32} {f_choir : Int32} {f_voices : Int32} {a_rest : Nat → Int64} {a_wins : Nat → Int32} {f_seed : Int32} {a_other : Nat → Int32} {a_kept : Nat → Int32} {x1 : Int32} {x2 : Int32} {x3 : Int32} {x4 : Int32} {post : Int32 → (Int32) → (Int32) → (Int32) → (Int32) → (Nat → Int32) → Prop} (hw : q_m_psalm_0 f_code a_many a_lands f_land f_huts f_singers a_run x1 x2 x3 x4 post) : Met l yX11_psalm (Cond.code yX11_psalm cX11_psalm 9 (some .int) :: zb) rm_m_psalm (va_Pc [.ref q, .int x1, .int x2, .int x3, .int x4] (fun U => mW E q f_code a_tape a_size a_fault a_faultPlace a_many a_lands a_evenings a_sights a_choirs f_reached f_length f_begins f_sort f_value f_word f_wrongAt f_laterFault f_laterPlace a_told a_read f_farHut f_farSinger f_good f_land f_huts f_singers f_evening a_at a_knows a_climbed a_snow a_level f_begun f_minute f_avalanches a_run a_covers a_routes a_longest a_steep a_laid a_far f_sight a_runs f_choir f_voices a_rest a_wins f_seed a_other a_kept U.heap ∧ zK E U)) (zQi (S := (Int32) × (Int32) × (Int32) × (Int32) × (Nat → Int32)) (fun r u => post r u.1 u.2.1 u.2.2.1 u.2.2.2.1 u.2.2.2.2) (fun u H => mW E q u.1 a_tape a_size a_fault a_faultPlace a_many a_lands a_evenings a_sights a_choirs f_reached f_length f_begins f_sort f_value f_word f_wrongAt f_laterFault f_laterPlace a_told a_read f_farHut f_farSinger f_good u.2.1 u.2.2.1 u.2.2.2.1 f_evening a_at a_knows a_climbed a_snow a_level f_begun f_minute f_avalanches u.2.2.2.2 a_covers a_routes a_longest a_steep a_laid a_far f_sight a_runs f_choir f_voices a_rest a_wins f_seed a_other a_kept H) (mA q)) 0 0 (mA q) := by
  refine Met.ofW (cc := cX11_psalm) (maxL := 9) (ret := (some .int)) (by decide) rfl ?_
  intro p e s m args below meth c s₁ B hml hv
  obtain ⟨rfl, hM, hK⟩ := hv
  have zc := zc_of B hml
  have hl := lv_entry ([.ref q, .int x1, .int x2, .int x3, .int x4]) (n := 9) (Nat.le_of_ble_eq_true rfl)
  rw [lg_entry_eq]
  generalize (lg_sl ([.ref q, .int x1, .int x2, .int x3, .int x4]) ++ List.replicate (9 - (lg_sl ([.ref q, .int x1, .int x2, .int x3, .int x4])).length) Slot.unset).toArray = ls at hl ⊢
  have hl : lv_has ls 9 [(0, .ref q), (1, .int x1), (2, .int x2), (3, .int x3), (4, .int x4)] := hl
  exact t_m_psalm_0 zc hK hM va_S.rf (lv_sub hl [0, 1, 2, 3, 4] rfl) hw
-- m_meet
abbrev rm_m_meet : Room := { frames := 3, cells := 0, slots := 0, locals := 66 }
def q_m_meet_117 (P51 : Int32 → Int32 → Int32 → Prop) (f_code : Int32) (a_many : Nat → Int32) (a_lands : Nat → Int32) (f_land : Int32) (f_huts : Int32) (f_singers : Int32) (a_far : Nat → Int32) (x2 : Int32) (x3 : Int32) (x4 : Int32) (x6 : Int32) (x7 : Int32) (x8 : Int32) (y0 : Int32) (post : Int32 → (Int32) → (Int32) → (Int32) → (Int32) → (Nat → Int32) → Prop) : Prop :=
  q_m_lesser_0 x6 x8 (fun r_1 => ∀ v_1 : Int32, v_1 = x7 + (1 : Int32) → (P51 y0 r_1 v_1))
def q_m_meet_145 (f_code : Int32) (a_many : Nat → Int32) (a_lands : Nat → Int32) (f_land : Int32) (f_huts : Int32) (f_singers : Int32) (a_far : Nat → Int32) (x5 : Int32) (post : Int32 → (Int32) → (Int32) → (Int32) → (Int32) → (Nat → Int32) → Prop) : Prop :=
  post x5 f_code f_land f_huts f_singers a_far
def q_m_meet_51 (f_code : Int32) (a_many : Nat → Int32) (a_lands : Nat → Int32) (f_land : Int32) (f_huts : Int32) (f_singers : Int32) (a_far : Nat → Int32) (x2 : Int32) (x3 : Int32) (x4 : Int32) (x5 : Int32) (x6 : Int32) (x7 : Int32) (post : Int32 → (Int32) → (Int32) → (Int32) → (Int32) → (Nat → Int32) → Prop) : Prop :=
  ∀ P51 : Int32 → Int32 → Int32 → Prop, (∀ (x5 : Int32) (x6 : Int32) (x7 : Int32), ((f_huts ≤ x7 → ((x5 = (-1 : Int32) → (q_m_meet_145 f_code a_many a_lands f_land f_huts f_singers a_far x5 post)) ∧ (¬ x5 = (-1 : Int32) → ((¬ x4 = 0 → (post x6 f_code f_land f_huts f_singers a_far)) ∧ (x4 = 0 → (q_m_meet_145 f_code a_many a_lands f_land f_huts f_singers a_far x5 post)))))) ∧ (¬ f_huts ≤ x7 → (q_m_of_0 a_lands f_land ((25 : Int32) + x2) (fun r_1 => vp_in (((9 : Int32) * r_1) + x7) 81 ∧ (q_m_of_0 a_lands f_land ((25 : Int32) + x3) (fun r_2 => vp_in (((9 : Int32) * r_2) + x7) 81 ∧ (q_m_greater_0 (a_far (Int32.toNatClampNeg (((9 : Int32) * r_1) + x7))) (a_far (Int32.toNatClampNeg (((9 : Int32) * r_2) + x7))) (fun r_3 => (x6 ≤ r_3 → (q_m_meet_117 P51 f_code a_many a_lands f_land f_huts f_singers a_far x2 x3 x4 x6 x7 r_3 x5 post)) ∧ (¬ x6 ≤ r_3 → (q_m_meet_117 P51 f_code a_many a_lands f_land f_huts f_singers a_far x2 x3 x4 x6 x7 r_3 x7 post)))))))))) → P51 x5 x6 x7) → P51 x5 x6 x7
def q_m_meet_0 (f_code : Int32) (a_many : Nat → Int32) (a_lands : Nat → Int32) (f_land : Int32) (f_huts : Int32) (f_singers : Int32) (a_far : Nat → Int32) (x1 : Int32) (x2 : Int32) (x3 : Int32) (x4 : Int32) (post : Int32 → (Int32) → (Int32) → (Int32) → (Int32) → (Nat → Int32) → Prop) : Prop :=
  q_m_hand_0 a_many a_lands f_land f_huts f_singers x1 (fun r_1 f_land_1 f_huts_1 f_singers_1 => (r_1 = 0 → (post (-1 : Int32) (0 : Int32) f_land_1 f_huts_1 f_singers_1 a_far)) ∧ (¬ r_1 = 0 → (q_m_isSinger_0 f_singers_1 x2 (fun r_2 => (r_2 = 0 → (post (-1 : Int32) (0 : Int32) f_land_1 f_huts_1 f_singers_1 a_far)) ∧ (¬ r_2 = 0 → (q_m_isSinger_0 f_singers_1 x3 (fun r_3 => (r_3 = 0 → (post (-1 : Int32) (0 : Int32) f_land_1 f_huts_1 f_singers_1 a_far)) ∧ (¬ r_3 = 0 → ((¬ x2 = x3 → (q_m_findFar_0 a_lands f_land_1 f_huts_1 a_far (fun a_far_1 => q_m_meet_51 (0 : Int32) a_many a_lands f_land_1 f_huts_1 f_singers_1 a_far_1 x2 x3 x4 (-1 : Int32) (1000000 : Int32) (0 : Int32) post))) ∧ (x2 = x3 → (post (-1 : Int32) (0 : Int32) f_land_1 f_huts_1 f_singers_1 a_far)))))))))))
set_option maxRecDepth 20000 in
theorem t_m_meet_117 {p : Program} {l : Launch} {e : Env} {s : State} {m : MethodId} {args : Array Value} {below : List Frame} {meth : Method} {c : Code} {E : zE} {q : Nat} {f_code : Int32} {a_tape : Nat → Int32} {a_size : Nat → Int32} {a_fault : Nat → Int32} {a_faultPlace : Nat → Int32} {a_many : Nat → Int32} {a_lands : Nat → Int32} {a_evenings : Nat → Int32} {a_sights : Nat → Int32} {a_choirs : Nat → Int32} {f_reached : Int32} {f_length : Int32} {f_begins : Int32} {f_sort : Int32} {f_value : Int32} {f_word : Int64} {f_wrongAt : Int32} {f_laterFault : Int32} {f_laterPlace : Int32} {a_told : Nat → Int32} {a_read : Nat → Int32} {f_farHut : Int32} {f_farSinger : Int32} {f_good : Int32} {f_land : Int32} {f_huts : Int32} {f_singers : Int32} {f_evening : Int32} {a_at : Nat → Int32} {a_knows : Nat → Int32} {a_climbed : Nat → Int32} {a_snow : Nat → Int32} {a_level : Nat → Int32} {f_begun : Int32} {f_minute : Int32} {f_avalanches : Int32} {a_run : Nat → Int32} {a_covers : Nat → Int32} {a_routes : Nat → Int32} {a_longest : Nat → Int32} {a_steep : Nat → Int32} {a_laid : Nat → Int32} {a_far : Nat → Int32} {f_sight : Int32} {a_runs : Nat → Int32} {f_choir : Int32} {f_voices : Int32} {a_rest : Nat → Int64} {a_wins : Nat → Int32} {f_seed : Int32} {a_other : Nat → Int32} {a_kept : Nat → Int32} {P51 : Int32 → Int32 → Int32 → Prop} {post : Int32 → (Int32) → (Int32) → (Int32) → (Int32) → (Nat → Int32) → Prop} {x2 : Int32} {x3 : Int32} {x4 : Int32} {x6 : Int32} {x7 : Int32} {x8 : Int32} {y0 : Int32} {ls : Array Slot} {H : Heap} {locs : List Loc}
    (zc : zC p s m args meth c cX11_meet 9 RX11 (some .int))
    (hK : zK E s)
    (hM : mW E q f_code a_tape a_size a_fault a_faultPlace a_many a_lands a_evenings a_sights a_choirs f_reached f_length f_begins f_sort f_value f_word f_wrongAt f_laterFault f_laterPlace a_told a_read f_farHut f_farSinger f_good f_land f_huts f_singers f_evening a_at a_knows a_climbed a_snow a_level f_begun f_minute f_avalanches a_run a_covers a_routes a_longest a_steep a_laid a_far f_sight a_runs f_choir f_voices a_rest a_wins f_seed a_other a_kept H)
    (hS : va_S (mA q) s.heap H locs)
    (hP51 : ∀ (x5 : Int32) (x6 : Int32) (x7 : Int32) (H : Heap) (locs : List Loc) (ls : Array Slot), P51 x5 x6 x7 → lv_has ls 9 [(0, .ref q), (2, .int x2), (3, .int x3), (4, .int x4), (5, .int x5), (6, .int x6), (7, .int x7)] → mW E q f_code a_tape a_size a_fault a_faultPlace a_many a_lands a_evenings a_sights a_choirs f_reached f_length f_begins f_sort f_value f_word f_wrongAt f_laterFault f_laterPlace a_told a_read f_farHut f_farSinger f_good f_land f_huts f_singers f_evening a_at a_knows a_climbed a_snow a_level f_begun f_minute f_avalanches a_run a_covers a_routes a_longest a_steep a_laid a_far f_sight a_runs f_choir f_voices a_rest a_wins f_seed a_other a_kept H → va_S (mA q) s.heap H locs → W p l e rm_m_meet s m args below meth c H locs 0 0 (MQ below (zQi (S := (Int32) × (Int32) × (Int32) × (Int32) × (Nat → Int32)) (fun r u => post r u.1 u.2.1 u.2.2.1 u.2.2.2.1 u.2.2.2.2) (fun u H => mW E q u.1 a_tape a_size a_fault a_faultPlace a_many a_lands a_evenings a_sights a_choirs f_reached f_length f_begins f_sort f_value f_word f_wrongAt f_laterFault f_laterPlace a_told a_read f_farHut f_farSinger f_good u.2.1 u.2.2.1 u.2.2.2.1 f_evening a_at a_knows a_climbed a_snow a_level f_begun f_minute f_avalanches a_run a_covers a_routes a_longest a_steep a_laid u.2.2.2.2 f_sight a_runs f_choir f_voices a_rest a_wins f_seed a_other a_kept H) (mA q)) args s 0 0 (mA q)) (F0 m 51 ls []))
    (hl : lv_has ls 9 [(0, .ref q), (2, .int x2), (3, .int x3), (4, .int x4), (6, .int x6), (7, .int x7), (8, .int x8)])
    (hw : q_m_meet_117 P51 f_code a_many a_lands f_land f_huts f_singers a_far x2 x3 x4 x6 x7 x8 y0 post) :
    W p l e rm_m_meet s m args below meth c H locs 0 0 (MQ below (zQi (S := (Int32) × (Int32) × (Int32) × (Int32) × (Nat → Int32)) (fun r u => post r u.1 u.2.1 u.2.2.1 u.2.2.2.1 u.2.2.2.2) (fun u H => mW E q u.1 a_tape a_size a_fault a_faultPlace a_many a_lands a_evenings a_sights a_choirs f_reached f_length f_begins f_sort f_value f_word f_wrongAt f_laterFault f_laterPlace a_told a_read f_farHut f_farSinger f_good u.2.1 u.2.2.1 u.2.2.2.1 f_evening a_at a_knows a_climbed a_snow a_level f_begun f_minute f_avalanches a_run a_covers a_routes a_longest a_steep a_laid u.2.2.2.2 f_sight a_runs f_choir f_voices a_rest a_wins f_seed a_other a_kept H) (mA q)) args s 0 0 (mA q)) (F0 m 117 ls [.int y0]) := by
  have hx := zc.1
  have hb := zc.2.1
  refine lv_istore (lv' := [(5, .int y0), (0, .ref q), (2, .int x2), (3, .int x3), (4, .int x4), (6, .int x6), (7, .int x7), (8, .int x8)]) hx hb dX11_meet_117 hl (by decide) rfl (fun ls hl => ?_)
  refine lv_iload hx hb dX11_meet_119 (lv_at hl 5 rfl) ?_
  refine lv_iload hx hb dX11_meet_121 (lv_at hl 7 rfl) ?_
  refine zS_i [.int x6, .int x8] [] zc ky_X11_lesser kz_X11_lesser km_11_411 (c_m_lesser l hw) (zPre0 _) rfl rfl hl.1 (Nat.le_of_ble_eq_true rfl) ⟨rfl, rfl⟩ ⟨Nat.le_of_ble_eq_true rfl, Nat.le_of_ble_eq_true rfl⟩ ⟨(Nat.zero_le _), (Nat.zero_le _)⟩ dX11_meet_123 (fun r_1 hw => ?_)
  refine lv_istore (lv' := [(6, .int r_1), (5, .int y0), (0, .ref q), (2, .int x2), (3, .int x3), (4, .int x4), (7, .int x7), (8, .int x8)]) hx hb dX11_meet_126 hl (by decide) rfl (fun ls hl => ?_)
  obtain ⟨v_1, ev_1⟩ : ∃ y : Int32, y = x7 + (1 : Int32) := ⟨_, rfl⟩
  have hw := hw v_1 ev_1
  refine lv_iinc (v := v_1) (k := 6) (lv' := [(7, .int v_1), (6, .int r_1), (5, .int y0), (0, .ref q), (2, .int x2), (3, .int x3), (4, .int x4), (8, .int x8)]) hx hb dX11_meet_128 hl rfl (by rw [ev_1]; rfl) (by decide) rfl (fun ls hl => ?_)
  refine lv_goto (tgt := 51) hx hb dX11_meet_131 (by decide) ?_
  exact hP51 _ _ _ _ _ _ hw (lv_sub hl [3, 4, 5, 6, 2, 1, 0] rfl) hM hS
set_option maxRecDepth 20000 in
theorem t_m_meet_145 {p : Program} {l : Launch} {e : Env} {s : State} {m : MethodId} {args : Array Value} {below : List Frame} {meth : Method} {c : Code} {E : zE} {q : Nat} {f_code : Int32} {a_tape : Nat → Int32} {a_size : Nat → Int32} {a_fault : Nat → Int32} {a_faultPlace : Nat → Int32} {a_many : Nat → Int32} {a_lands : Nat → Int32} {a_evenings : Nat → Int32} {a_sights : Nat → Int32} {a_choirs : Nat → Int32} {f_reached : Int32} {f_length : Int32} {f_begins : Int32} {f_sort : Int32} {f_value : Int32} {f_word : Int64} {f_wrongAt : Int32} {f_laterFault : Int32} {f_laterPlace : Int32} {a_told : Nat → Int32} {a_read : Nat → Int32} {f_farHut : Int32} {f_farSinger : Int32} {f_good : Int32} {f_land : Int32} {f_huts : Int32} {f_singers : Int32} {f_evening : Int32} {a_at : Nat → Int32} {a_knows : Nat → Int32} {a_climbed : Nat → Int32} {a_snow : Nat → Int32} {a_level : Nat → Int32} {f_begun : Int32} {f_minute : Int32} {f_avalanches : Int32} {a_run : Nat → Int32} {a_covers : Nat → Int32} {a_routes : Nat → Int32} {a_longest : Nat → Int32} {a_steep : Nat → Int32} {a_laid : Nat → Int32} {a_far : Nat → Int32} {f_sight : Int32} {a_runs : Nat → Int32} {f_choir : Int32} {f_voices : Int32} {a_rest : Nat → Int64} {a_wins : Nat → Int32} {f_seed : Int32} {a_other : Nat → Int32} {a_kept : Nat → Int32} {post : Int32 → (Int32) → (Int32) → (Int32) → (Int32) → (Nat → Int32) → Prop} {x5 : Int32} {ls : Array Slot} {H : Heap} {locs : List Loc}
    (zc : zC p s m args meth c cX11_meet 9 RX11 (some .int))
    (hK : zK E s)
    (hM : mW E q f_code a_tape a_size a_fault a_faultPlace a_many a_lands a_evenings a_sights a_choirs f_reached f_length f_begins f_sort f_value f_word f_wrongAt f_laterFault f_laterPlace a_told a_read f_farHut f_farSinger f_good f_land f_huts f_singers f_evening a_at a_knows a_climbed a_snow a_level f_begun f_minute f_avalanches a_run a_covers a_routes a_longest a_steep a_laid a_far f_sight a_runs f_choir f_voices a_rest a_wins f_seed a_other a_kept H)
    (hS : va_S (mA q) s.heap H locs)
    (hl : lv_has ls 9 [(5, .int x5)])
    (hw : q_m_meet_145 f_code a_many a_lands f_land f_huts f_singers a_far x5 post) :
    W p l e rm_m_meet s m args below meth c H locs 0 0 (MQ below (zQi (S := (Int32) × (Int32) × (Int32) × (Int32) × (Nat → Int32)) (fun r u => post r u.1 u.2.1 u.2.2.1 u.2.2.2.1 u.2.2.2.2) (fun u H => mW E q u.1 a_tape a_size a_fault a_faultPlace a_many a_lands a_evenings a_sights a_choirs f_reached f_length f_begins f_sort f_value f_word f_wrongAt f_laterFault f_laterPlace a_told a_read f_farHut f_farSinger f_good u.2.1 u.2.2.1 u.2.2.2.1 f_evening a_at a_knows a_climbed a_snow a_level f_begun f_minute f_avalanches a_run a_covers a_routes a_longest a_steep a_laid u.2.2.2.2 f_sight a_runs f_choir f_voices a_rest a_wins f_seed a_other a_kept H) (mA q)) args s 0 0 (mA q)) (F0 m 145 ls []) := by
  have hx := zc.1
  have hb := zc.2.1
  refine lv_iload hx hb dX11_meet_145 (lv_at hl 0 rfl) ?_
  refine lv_goto (tgt := 152) hx hb dX11_meet_147 (by decide) ?_
  exact zret_iw ⟨f_code, f_land, f_huts, f_singers, a_far⟩ zc hS hw hM dX11_meet_152
set_option maxRecDepth 20000 in
theorem t_m_meet_51 {p : Program} {l : Launch} {e : Env} {s : State} {m : MethodId} {args : Array Value} {below : List Frame} {meth : Method} {c : Code} {E : zE} {q : Nat} {f_code : Int32} {a_tape : Nat → Int32} {a_size : Nat → Int32} {a_fault : Nat → Int32} {a_faultPlace : Nat → Int32} {a_many : Nat → Int32} {a_lands : Nat → Int32} {a_evenings : Nat → Int32} {a_sights : Nat → Int32} {a_choirs : Nat → Int32} {f_reached : Int32} {f_length : Int32} {f_begins : Int32} {f_sort : Int32} {f_value : Int32} {f_word : Int64} {f_wrongAt : Int32} {f_laterFault : Int32} {f_laterPlace : Int32} {a_told : Nat → Int32} {a_read : Nat → Int32} {f_farHut : Int32} {f_farSinger : Int32} {f_good : Int32} {f_land : Int32} {f_huts : Int32} {f_singers : Int32} {f_evening : Int32} {a_at : Nat → Int32} {a_knows : Nat → Int32} {a_climbed : Nat → Int32} {a_snow : Nat → Int32} {a_level : Nat → Int32} {f_begun : Int32} {f_minute : Int32} {f_avalanches : Int32} {a_run : Nat → Int32} {a_covers : Nat → Int32} {a_routes : Nat → Int32} {a_longest : Nat → Int32} {a_steep : Nat → Int32} {a_laid : Nat → Int32} {a_far : Nat → Int32} {f_sight : Int32} {a_runs : Nat → Int32} {f_choir : Int32} {f_voices : Int32} {a_rest : Nat → Int64} {a_wins : Nat → Int32} {f_seed : Int32} {a_other : Nat → Int32} {a_kept : Nat → Int32} {post : Int32 → (Int32) → (Int32) → (Int32) → (Int32) → (Nat → Int32) → Prop} {x2 : Int32} {x3 : Int32} {x4 : Int32} {x5 : Int32} {x6 : Int32} {x7 : Int32} {ls : Array Slot} {H : Heap} {locs : List Loc}
    (zc : zC p s m args meth c cX11_meet 9 RX11 (some .int))
    (hK : zK E s)
    (hM : mW E q f_code a_tape a_size a_fault a_faultPlace a_many a_lands a_evenings a_sights a_choirs f_reached f_length f_begins f_sort f_value f_word f_wrongAt f_laterFault f_laterPlace a_told a_read f_farHut f_farSinger f_good f_land f_huts f_singers f_evening a_at a_knows a_climbed a_snow a_level f_begun f_minute f_avalanches a_run a_covers a_routes a_longest a_steep a_laid a_far f_sight a_runs f_choir f_voices a_rest a_wins f_seed a_other a_kept H)
    (hS : va_S (mA q) s.heap H locs)
    (hl : lv_has ls 9 [(0, .ref q), (2, .int x2), (3, .int x3), (4, .int x4), (5, .int x5), (6, .int x6), (7, .int x7)])
    (hw : q_m_meet_51 f_code a_many a_lands f_land f_huts f_singers a_far x2 x3 x4 x5 x6 x7 post) :
    W p l e rm_m_meet s m args below meth c H locs 0 0 (MQ below (zQi (S := (Int32) × (Int32) × (Int32) × (Int32) × (Nat → Int32)) (fun r u => post r u.1 u.2.1 u.2.2.1 u.2.2.2.1 u.2.2.2.2) (fun u H => mW E q u.1 a_tape a_size a_fault a_faultPlace a_many a_lands a_evenings a_sights a_choirs f_reached f_length f_begins f_sort f_value f_word f_wrongAt f_laterFault f_laterPlace a_told a_read f_farHut f_farSinger f_good u.2.1 u.2.2.1 u.2.2.2.1 f_evening a_at a_knows a_climbed a_snow a_level f_begun f_minute f_avalanches a_run a_covers a_routes a_longest a_steep a_laid u.2.2.2.2 f_sight a_runs f_choir f_voices a_rest a_wins f_seed a_other a_kept H) (mA q)) args s 0 0 (mA q)) (F0 m 51 ls []) := by
  have hx := zc.1
  have hb := zc.2.1
  refine hw (fun x5 x6 x7 => ∀ (H : Heap) (locs : List Loc) (ls : Array Slot), lv_has ls 9 [(0, .ref q), (2, .int x2), (3, .int x3), (4, .int x4), (5, .int x5), (6, .int x6), (7, .int x7)] → mW E q f_code a_tape a_size a_fault a_faultPlace a_many a_lands a_evenings a_sights a_choirs f_reached f_length f_begins f_sort f_value f_word f_wrongAt f_laterFault f_laterPlace a_told a_read f_farHut f_farSinger f_good f_land f_huts f_singers f_evening a_at a_knows a_climbed a_snow a_level f_begun f_minute f_avalanches a_run a_covers a_routes a_longest a_steep a_laid a_far f_sight a_runs f_choir f_voices a_rest a_wins f_seed a_other a_kept H → va_S (mA q) s.heap H locs → W p l e rm_m_meet s m args below meth c H locs 0 0 (MQ below (zQi (S := (Int32) × (Int32) × (Int32) × (Int32) × (Nat → Int32)) (fun r u => post r u.1 u.2.1 u.2.2.1 u.2.2.2.1 u.2.2.2.2) (fun u H => mW E q u.1 a_tape a_size a_fault a_faultPlace a_many a_lands a_evenings a_sights a_choirs f_reached f_length f_begins f_sort f_value f_word f_wrongAt f_laterFault f_laterPlace a_told a_read f_farHut f_farSinger f_good u.2.1 u.2.2.1 u.2.2.2.1 f_evening a_at a_knows a_climbed a_snow a_level f_begun f_minute f_avalanches a_run a_covers a_routes a_longest a_steep a_laid u.2.2.2.2 f_sight a_runs f_choir f_voices a_rest a_wins f_seed a_other a_kept H) (mA q)) args s 0 0 (mA q)) (F0 m 51 ls [])) ?_ _ _ _ hl hM hS
  intro x5 x6 x7 hw H locs ls hl hM hS
  refine lv_iload hx hb dX11_meet_51 (lv_at hl 6 rfl) ?_
  refine lv_aload_n hx hb dX11_meet_53 rfl (lv_at hl 0 rfl) ?_
  refine mg_11_307_0 zc hK hM dX11_meet_54 ?_
  refine lv_icmp_ge (tgt := 134) hx hb dX11_meet_57 (by decide) (fun hc => ?_) (fun hc => ?_)
  · have hw := hw.1 hc
    refine lv_iload hx hb dX11_meet_134 (lv_at hl 4 rfl) ?_
    refine lv_iconst (v := (-1 : Int32)) hx hb dX11_meet_136 (by decide) ?_
    refine lv_icmp_eq (tgt := 145) hx hb dX11_meet_137 (by decide) (fun hc => ?_) (fun hc => ?_)
    · have hw := hw.1 hc
      exact t_m_meet_145 zc hK hM hS  (lv_sub hl [4] rfl) hw
    · have hw := hw.2 hc
      refine lv_iload hx hb dX11_meet_140 (lv_at hl 3 rfl) ?_
      refine lv_if_ne (tgt := 150) hx hb dX11_meet_142 (by decide) (fun hc => ?_) (fun hc => ?_)
      · have hw := hw.1 hc
        refine lv_iload hx hb dX11_meet_150 (lv_at hl 5 rfl) ?_
        exact zret_iw ⟨f_code, f_land, f_huts, f_singers, a_far⟩ zc hS hw hM dX11_meet_152
      · have hw := hw.2 hc
        exact t_m_meet_145 zc hK hM hS  (lv_sub hl [4] rfl) hw
  · have hw := hw.2 hc
    refine lv_aload_n hx hb dX11_meet_60 rfl (lv_at hl 0 rfl) ?_
    refine mg_11_78_0 zc hK hM dX11_meet_61 ?_
    refine lv_bipush (v := (9 : Int32)) hx hb dX11_meet_64 (by decide) ?_
    refine lv_aload_n hx hb dX11_meet_66 rfl (lv_at hl 0 rfl) ?_
    refine lv_bipush (v := (25 : Int32)) hx hb dX11_meet_67 (by decide) ?_
    refine lv_iload_n hx hb dX11_meet_69 rfl (lv_at hl 1 rfl) ?_
    refine lv_iadd hx hb dX11_meet_70 ?_
    refine zV_i [.int ((25 : Int32) + x2)] [.int (9 : Int32), .ref (q + 23)] zc ky_X11_of kz_X11_of km_11_303 (c_m_of l hw) (mPreV0 hK hM) rfl rfl hl.1 (Nat.le_of_ble_eq_true rfl) ⟨rfl, rfl⟩ ⟨Nat.le_of_ble_eq_true rfl, Nat.le_of_ble_eq_true rfl⟩ ⟨(Nat.zero_le _), (Nat.zero_le _)⟩ dX11_meet_71 (fun r_1 hw => ?_)
    refine lv_imul hx hb dX11_meet_74 ?_
    refine lv_iload hx hb dX11_meet_75 (lv_at hl 6 rfl) ?_
    refine lv_iadd hx hb dX11_meet_77 ?_
    refine mld_23 zc hK hM hw.1 dX11_meet_78 ?_
    have hw := hw.2
    refine lv_aload_n hx hb dX11_meet_79 rfl (lv_at hl 0 rfl) ?_
    refine mg_11_78_0 zc hK hM dX11_meet_80 ?_
    refine lv_bipush (v := (9 : Int32)) hx hb dX11_meet_83 (by decide) ?_
    refine lv_aload_n hx hb dX11_meet_85 rfl (lv_at hl 0 rfl) ?_
    refine lv_bipush (v := (25 : Int32)) hx hb dX11_meet_86 (by decide) ?_
    refine lv_iload_n hx hb dX11_meet_88 rfl (lv_at hl 2 rfl) ?_
    refine lv_iadd hx hb dX11_meet_89 ?_
    refine zV_i [.int ((25 : Int32) + x3)] [.int (9 : Int32), .ref (q + 23), .int (a_far (Int32.toNatClampNeg (((9 : Int32) * r_1) + x7)))] zc ky_X11_of kz_X11_of km_11_303 (c_m_of l hw) (mPreV0 hK hM) rfl rfl hl.1 (Nat.le_of_ble_eq_true rfl) ⟨rfl, rfl⟩ ⟨Nat.le_of_ble_eq_true rfl, Nat.le_of_ble_eq_true rfl⟩ ⟨(Nat.zero_le _), (Nat.zero_le _)⟩ dX11_meet_90 (fun r_2 hw => ?_)
    refine lv_imul hx hb dX11_meet_93 ?_
    refine lv_iload hx hb dX11_meet_94 (lv_at hl 6 rfl) ?_
    refine lv_iadd hx hb dX11_meet_96 ?_
    refine mld_23 zc hK hM hw.1 dX11_meet_97 ?_
    have hw := hw.2
    refine zS_i [.int (a_far (Int32.toNatClampNeg (((9 : Int32) * r_1) + x7))), .int (a_far (Int32.toNatClampNeg (((9 : Int32) * r_2) + x7)))] [] zc ky_X11_greater kz_X11_greater km_11_171 (c_m_greater l hw) (zPre0 _) rfl rfl hl.1 (Nat.le_of_ble_eq_true rfl) ⟨rfl, rfl⟩ ⟨Nat.le_of_ble_eq_true rfl, Nat.le_of_ble_eq_true rfl⟩ ⟨(Nat.zero_le _), (Nat.zero_le _)⟩ dX11_meet_98 (fun r_3 hw => ?_)
    refine lv_istore (lv' := [(8, .int r_3), (0, .ref q), (2, .int x2), (3, .int x3), (4, .int x4), (5, .int x5), (6, .int x6), (7, .int x7)]) hx hb dX11_meet_101 hl (by decide) rfl (fun ls hl => ?_)
    refine lv_iload hx hb dX11_meet_103 (lv_at hl 0 rfl) ?_
    refine lv_iload hx hb dX11_meet_105 (lv_at hl 6 rfl) ?_
    refine lv_icmp_ge (tgt := 115) hx hb dX11_meet_107 (by decide) (fun hc => ?_) (fun hc => ?_)
    · have hw := hw.1 hc
      refine lv_iload hx hb dX11_meet_115 (lv_at hl 5 rfl) ?_
      exact t_m_meet_117 zc hK hM hS (fun _ _ _ H locs ls h hl hM hS => h H locs ls hl hM hS) (lv_sub hl [1, 2, 3, 4, 6, 7, 0] rfl) hw
    · have hw := hw.2 hc
      refine lv_iload hx hb dX11_meet_110 (lv_at hl 7 rfl) ?_
      refine lv_goto (tgt := 117) hx hb dX11_meet_112 (by decide) ?_
      exact t_m_meet_117 zc hK hM hS (fun _ _ _ H locs ls h hl hM hS => h H locs ls hl hM hS) (lv_sub hl [1, 2, 3, 4, 6, 7, 0] rfl) hw
set_option maxRecDepth 20000 in
theorem t_m_meet_0 {p : Program} {l : Launch} {e : Env} {s : State} {m : MethodId} {args : Array Value} {below : List Frame} {meth : Method} {c : Code} {E : zE} {q : Nat} {f_code : Int32} {a_tape : Nat → Int32} {a_size : Nat → Int32} {a_fault : Nat → Int32} {a_faultPlace : Nat → Int32} {a_many : Nat → Int32} {a_lands : Nat → Int32} {a_evenings : Nat → Int32} {a_sights : Nat → Int32} {a_choirs : Nat → Int32} {f_reached : Int32} {f_length : Int32} {f_begins : Int32} {f_sort : Int32} {f_value : Int32} {f_word : Int64} {f_wrongAt : Int32} {f_laterFault : Int32} {f_laterPlace : Int32} {a_told : Nat → Int32} {a_read : Nat → Int32} {f_farHut : Int32} {f_farSinger : Int32} {f_good : Int32} {f_land : Int32} {f_huts : Int32} {f_singers : Int32} {f_evening : Int32} {a_at : Nat → Int32} {a_knows : Nat → Int32} {a_climbed : Nat → Int32} {a_snow : Nat → Int32} {a_level : Nat → Int32} {f_begun : Int32} {f_minute : Int32} {f_avalanches : Int32} {a_run : Nat → Int32} {a_covers : Nat → Int32} {a_routes : Nat → Int32} {a_longest : Nat → Int32} {a_steep : Nat → Int32} {a_laid : Nat → Int32} {a_far : Nat → Int32} {f_sight : Int32} {a_runs : Nat → Int32} {f_choir : Int32} {f_voices : Int32} {a_rest : Nat → Int64} {a_wins : Nat → Int32} {f_seed : Int32} {a_other : Nat → Int32} {a_kept : Nat → Int32} {post : Int32 → (Int32) → (Int32) → (Int32) → (Int32) → (Nat → Int32) → Prop} {x1 : Int32} {x2 : Int32} {x3 : Int32} {x4 : Int32} {ls : Array Slot} {H : Heap} {locs : List Loc}
    (zc : zC p s m args meth c cX11_meet 9 RX11 (some .int))
    (hK : zK E s)
    (hM : mW E q f_code a_tape a_size a_fault a_faultPlace a_many a_lands a_evenings a_sights a_choirs f_reached f_length f_begins f_sort f_value f_word f_wrongAt f_laterFault f_laterPlace a_told a_read f_farHut f_farSinger f_good f_land f_huts f_singers f_evening a_at a_knows a_climbed a_snow a_level f_begun f_minute f_avalanches a_run a_covers a_routes a_longest a_steep a_laid a_far f_sight a_runs f_choir f_voices a_rest a_wins f_seed a_other a_kept H)
    (hS : va_S (mA q) s.heap H locs)
    (hl : lv_has ls 9 [(0, .ref q), (1, .int x1), (2, .int x2), (3, .int x3), (4, .int x4)])
    (hw : q_m_meet_0 f_code a_many a_lands f_land f_huts f_singers a_far x1 x2 x3 x4 post) :
    W p l e rm_m_meet s m args below meth c H locs 0 0 (MQ below (zQi (S := (Int32) × (Int32) × (Int32) × (Int32) × (Nat → Int32)) (fun r u => post r u.1 u.2.1 u.2.2.1 u.2.2.2.1 u.2.2.2.2) (fun u H => mW E q u.1 a_tape a_size a_fault a_faultPlace a_many a_lands a_evenings a_sights a_choirs f_reached f_length f_begins f_sort f_value f_word f_wrongAt f_laterFault f_laterPlace a_told a_read f_farHut f_farSinger f_good u.2.1 u.2.2.1 u.2.2.2.1 f_evening a_at a_knows a_climbed a_snow a_level f_begun f_minute f_avalanches a_run a_covers a_routes a_longest a_steep a_laid u.2.2.2.2 f_sight a_runs f_choir f_voices a_rest a_wins f_seed a_other a_kept H) (mA q)) args s 0 0 (mA q)) (F0 m 0 ls []) := by
  have hx := zc.1
  have hb := zc.2.1
  refine lv_aload_n hx hb dX11_meet_0 rfl (lv_at hl 0 rfl) ?_
  refine lv_iconst (v := (0 : Int32)) hx hb dX11_meet_1 (by decide) ?_
  refine mp_11_97_0 zc hK hM hS dX11_meet_2 (fun H locs hM hS => ?_)
  refine lv_aload_n hx hb dX11_meet_5 rfl (lv_at hl 0 rfl) ?_
  refine lv_iload_n hx hb dX11_meet_6 rfl (lv_at hl 1 rfl) ?_
  refine zVw_i [.int x1] [] zc ky_X11_hand kz_X11_hand km_11_313 (c_m_hand l hw) (mPreV0 hK hM) hS rfl rfl hl.1 (Nat.le_of_ble_eq_true rfl) ⟨rfl, rfl⟩ ⟨Nat.le_of_ble_eq_true rfl, Nat.le_of_ble_eq_true rfl⟩ ⟨(Nat.zero_le _), (Nat.zero_le _)⟩ dX11_meet_7 (fun r_1 u H locs hw hM hS => ?_)
  obtain ⟨f_land_1, f_huts_1, f_singers_1⟩ := u
  refine lv_if_eq (tgt := 34) hx hb dX11_meet_10 (by decide) (fun hc => ?_) (fun hc => ?_)
  · have hw := hw.1 hc
    refine lv_iconst (v := (-1 : Int32)) hx hb dX11_meet_34 (by decide) ?_
    exact zret_iw ⟨(0 : Int32), f_land_1, f_huts_1, f_singers_1, a_far⟩ zc hS hw hM dX11_meet_35
  · have hw := hw.2 hc
    refine lv_aload_n hx hb dX11_meet_13 rfl (lv_at hl 0 rfl) ?_
    refine lv_iload_n hx hb dX11_meet_14 rfl (lv_at hl 2 rfl) ?_
    refine zV_i [.int x2] [] zc ky_X11_isSinger kz_X11_isSinger km_11_325 (c_m_isSinger l hw) (mPreV0 hK hM) rfl rfl hl.1 (Nat.le_of_ble_eq_true rfl) ⟨rfl, rfl⟩ ⟨Nat.le_of_ble_eq_true rfl, Nat.le_of_ble_eq_true rfl⟩ ⟨(Nat.zero_le _), (Nat.zero_le _)⟩ dX11_meet_15 (fun r_2 hw => ?_)
    refine lv_if_eq (tgt := 34) hx hb dX11_meet_18 (by decide) (fun hc => ?_) (fun hc => ?_)
    · have hw := hw.1 hc
      refine lv_iconst (v := (-1 : Int32)) hx hb dX11_meet_34 (by decide) ?_
      exact zret_iw ⟨(0 : Int32), f_land_1, f_huts_1, f_singers_1, a_far⟩ zc hS hw hM dX11_meet_35
    · have hw := hw.2 hc
      refine lv_aload_n hx hb dX11_meet_21 rfl (lv_at hl 0 rfl) ?_
      refine lv_iload_n hx hb dX11_meet_22 rfl (lv_at hl 3 rfl) ?_
      refine zV_i [.int x3] [] zc ky_X11_isSinger kz_X11_isSinger km_11_325 (c_m_isSinger l hw) (mPreV0 hK hM) rfl rfl hl.1 (Nat.le_of_ble_eq_true rfl) ⟨rfl, rfl⟩ ⟨Nat.le_of_ble_eq_true rfl, Nat.le_of_ble_eq_true rfl⟩ ⟨(Nat.zero_le _), (Nat.zero_le _)⟩ dX11_meet_23 (fun r_3 hw => ?_)
      refine lv_if_eq (tgt := 34) hx hb dX11_meet_26 (by decide) (fun hc => ?_) (fun hc => ?_)
      · have hw := hw.1 hc
        refine lv_iconst (v := (-1 : Int32)) hx hb dX11_meet_34 (by decide) ?_
        exact zret_iw ⟨(0 : Int32), f_land_1, f_huts_1, f_singers_1, a_far⟩ zc hS hw hM dX11_meet_35
      · have hw := hw.2 hc
        refine lv_iload_n hx hb dX11_meet_29 rfl (lv_at hl 2 rfl) ?_
        refine lv_iload_n hx hb dX11_meet_30 rfl (lv_at hl 3 rfl) ?_
        refine lv_icmp_ne (tgt := 36) hx hb dX11_meet_31 (by decide) (fun hc => ?_) (fun hc => ?_)
        · have hw := hw.1 hc
          refine lv_aload_n hx hb dX11_meet_36 rfl (lv_at hl 0 rfl) ?_
          refine zVw_v [] [] zc ky_X11_findFar kz_X11_findFar km_11_454 (c_m_findFar l hw) (mPreV0 hK hM) hS rfl rfl hl.1 (Nat.le_of_ble_eq_true rfl) ⟨rfl, rfl⟩ ⟨Nat.le_of_ble_eq_true rfl, Nat.le_of_ble_eq_true rfl⟩ ⟨(Nat.zero_le _), (Nat.zero_le _)⟩ dX11_meet_37 (fun a_far_1 H locs hw hM hS => ?_)
          refine lv_iconst (v := (-1 : Int32)) hx hb dX11_meet_40 (by decide) ?_
          refine lv_istore (lv' := [(5, .int (-1 : Int32)), (0, .ref q), (1, .int x1), (2, .int x2), (3, .int x3), (4, .int x4)]) hx hb dX11_meet_41 hl (by decide) rfl (fun ls hl => ?_)
          refine lv_ldcw (v := (1000000 : Int32)) hx hb zc.2.2.2.1 (zc.2.2.2.2.1 _ kc_11_410) dX11_meet_43 ?_
          refine lv_istore (lv' := [(6, .int (1000000 : Int32)), (5, .int (-1 : Int32)), (0, .ref q), (1, .int x1), (2, .int x2), (3, .int x3), (4, .int x4)]) hx hb dX11_meet_46 hl (by decide) rfl (fun ls hl => ?_)
          refine lv_iconst (v := (0 : Int32)) hx hb dX11_meet_48 (by decide) ?_
          refine lv_istore (lv' := [(7, .int (0 : Int32)), (6, .int (1000000 : Int32)), (5, .int (-1 : Int32)), (0, .ref q), (1, .int x1), (2, .int x2), (3, .int x3), (4, .int x4)]) hx hb dX11_meet_49 hl (by decide) rfl (fun ls hl => ?_)
          exact t_m_meet_51 zc hK hM hS  (lv_sub hl [3, 5, 6, 7, 2, 1, 0] rfl) hw
        · have hw := hw.2 hc
          refine lv_iconst (v := (-1 : Int32)) hx hb dX11_meet_34 (by decide) ?_
          exact zret_iw ⟨(0 : Int32), f_land_1, f_huts_1, f_singers_1, a_far⟩ zc hS hw hM dX11_meet_35
set_option maxRecDepth 20000 in
theorem c_m_meet (l : Launch) {E : zE} {q : Nat} {f_code : Int32} {a_tape : Nat → Int32} {a_size : Nat → Int32} {a_fault : Nat → Int32} {a_faultPlace : Nat → Int32} {a_many : Nat → Int32} {a_lands : Nat → Int32} {a_evenings : Nat → Int32} {a_sights : Nat → Int32} {a_choirs : Nat → Int32} {f_reached : Int32} {f_length : Int32} {f_begins : Int32} {f_sort : Int32} {f_value : Int32} {f_word : Int64} {f_wrongAt : Int32} {f_laterFault : Int32} {f_laterPlace : Int32} {a_told : Nat → Int32} {a_read : Nat → Int32} {f_farHut : Int32} {f_farSinger : Int32} {f_good : Int32} {f_land : Int32} {f_huts : Int32} {f_singers : Int32} {f_evening : Int32} {a_at : Nat → Int32} {a_knows : Nat → Int32} {a_climbed : Nat → Int32} {a_snow : Nat → Int32} {a_level : Nat → Int32} {f_begun : Int32} {f_minute : Int32} {f_avalanches : Int32} {a_run : Nat → Int32} {a_covers : Nat → Int32} {a_routes : Nat → Int32} {a_longest : Nat → Int32} {a_steep : Nat → Int32} {a_laid : Nat → Int32} {a_far : Nat → Int32} {f_sight : Int32} {a_runs : Nat → Int32} {f_choir : Int32} {f_voices : Int32} {a_rest : Nat → Int64} {a_wins : Nat → Int32} {f_seed : Int32} {a_other : Nat → Int32} {a_kept : Nat → Int32} {x1 : Int32} {x2 : Int32} {x3 : Int32} {x4 : Int32} {post : Int32 → (Int32) → (Int32) → (Int32) → (Int32) → (Nat → Int32) → Prop} (hw : q_m_meet_0 f_code a_many a_lands f_land f_huts f_singers a_far x1 x2 x3 x4 post) : Met l yX11_meet (Cond.code yX11_meet cX11_meet 9 (some .int) :: zb) rm_m_meet (va_Pc [.ref q, .int x1, .int x2, .int x3, .int x4] (fun U => mW E q f_code a_tape a_size a_fault a_faultPlace a_many a_lands a_evenings a_sights a_choirs f_reached f_length f_begins f_sort f_value f_word f_wrongAt f_laterFault f_laterPlace a_told a_read f_farHut f_farSinger f_good f_land f_huts f_singers f_evening a_at a_knows a_climbed a_snow a_level f_begun f_minute f_avalanches a_run a_covers a_routes a_longest a_steep a_laid a_far f_sight a_runs f_choir f_voices a_rest a_wins f_seed a_other a_kept U.heap ∧ zK E U)) (zQi (S := (Int32) × (Int32) × (Int32) × (Int32) × (Nat → Int32)) (fun r u => post r u.1 u.2.1 u.2.2.1 u.2.2.2.1 u.2.2.2.2) (fun u H => mW E q u.1 a_tape a_size a_fault a_faultPlace a_many a_lands a_evenings a_sights a_choirs f_reached f_length f_begins f_sort f_value f_word f_wrongAt f_laterFault f_laterPlace a_told a_read f_farHut f_farSinger f_good u.2.1 u.2.2.1 u.2.2.2.1 f_evening a_at a_knows a_climbed a_snow a_level f_begun f_minute f_avalanches a_run a_covers a_routes a_longest a_steep a_laid u.2.2.2.2 f_sight a_runs f_choir f_voices a_rest a_wins f_seed a_other a_kept H) (mA q)) 0 0 (mA q) := by
  refine Met.ofW (cc := cX11_meet) (maxL := 9) (ret := (some .int)) (by decide) rfl ?_
  intro p e s m args below meth c s₁ B hml hv
  obtain ⟨rfl, hM, hK⟩ := hv
  have zc := zc_of B hml
  have hl := lv_entry ([.ref q, .int x1, .int x2, .int x3, .int x4]) (n := 9) (Nat.le_of_ble_eq_true rfl)
  rw [lg_entry_eq]
  generalize (lg_sl ([.ref q, .int x1, .int x2, .int x3, .int x4]) ++ List.replicate (9 - (lg_sl ([.ref q, .int x1, .int x2, .int x3, .int x4])).length) Slot.unset).toArray = ls at hl ⊢
  have hl : lv_has ls 9 [(0, .ref q), (1, .int x1), (2, .int x2), (3, .int x3), (4, .int x4)] := hl
  exact t_m_meet_0 zc hK hM va_S.rf (lv_sub hl [0, 1, 2, 3, 4] rfl) hw
end
