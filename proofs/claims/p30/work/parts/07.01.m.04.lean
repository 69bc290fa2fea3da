section
-- m_store_9
abbrev rm_m_store_9 : Room := { frames := 0, cells := 0, slots := 0, locals := 0 }
def q_m_store_9_3 (a_choirs : Nat → Int32) (a_told : Nat → Int32) (x2 : Int32) (x3 : Int32) (x4 : Int32) (post : (Nat → Int32) → Prop) : Prop :=
  ∀ P3 : Int32 → (Nat → Int32) → Prop, (∀ (x4 : Int32) (a_choirs : Nat → Int32), ((x2 ≤ x4 → (post a_choirs)) ∧ (¬ x2 ≤ x4 → (vp_in x4 132 ∧ (∀ v_1 : Int32, v_1 = (a_told (Int32.toNatClampNeg x4)) → (vp_in ((x2 * x3) + x4) 160 ∧ (∀ a_choirs_1 : Nat → Int32, a_choirs_1 = upd a_choirs (Int32.toNatClampNeg ((x2 * x3) + x4)) v_1 → (∀ v_2 : Int32, v_2 = x4 + (1 : Int32) → (P3 v_2 a_choirs_1)))))))) → P3 x4 a_choirs) → P3 x4 a_choirs
def q_m_store_9_0 (a_choirs : Nat → Int32) (a_told : Nat → Int32) (x2 : Int32) (x3 : Int32) (post : (Nat → Int32) → Prop) : Prop :=
  q_m_store_9_3 a_choirs a_told x2 x3 (0 : Int32) post
set_option maxRecDepth 20000 in
theorem t_m_store_9_3 {p : Program} {l : Launch} {e : Env} {s : State} {m : MethodId} {args : Array Value} {below : List Frame} {meth : Method} {c : Code} {E : zE} {q : Nat} {f_code : Int32} {a_tape : Nat → Int32} {a_size : Nat → Int32} {a_fault : Nat → Int32} {a_faultPlace : Nat → Int32} {a_many : Nat → Int32} {a_lands : Nat → Int32} {a_evenings : Nat → Int32} {a_sights : Nat → Int32} {a_choirs : Nat → Int32} {f_reached : Int32} {f_length : Int32} {f_begins : Int32} {f_sort : Int32} {f_value : Int32} {f_word : Int64} {f_wrongAt : Int32} {f_laterFault : Int32} {f_laterPlace : Int32} {a_told : Nat → Int32} {a_read : Nat → Int32} {f_farHut : Int32} {f_farSinger : Int32} {f_good : Int32} {f_land : Int32} {f_huts : Int32} {f_singers : Int32} {f_evening : Int32} {a_at : Nat → Int32} {a_knows : Nat → Int32} {a_climbed : Nat → Int32} {a_snow : Nat → Int32} {a_level : Nat → Int32} {f_begun : Int32} {f_minute : Int32} {f_avalanches : Int32} {a_run : Nat → Int32} {a_covers : Nat → Int32} {a_routes : Nat → Int32} {a_longest : Nat → Int32} {a_steep : Nat → Int32} {a_laid : Nat → Int32} {a_far : Nat → Int32} {f_sight : Int32} {a_runs : Nat → Int32} {f_choir : Int32} {f_voices : Int32} {a_rest : Nat → Int64} {a_wins : Nat → Int32} {f_seed : Int32} {a_other : Nat → Int32} {a_kept : Nat → Int32} {post : (Nat → Int32) → Prop} {x2 : Int32} {x3 : Int32} {x4 : Int32} {ls : Array Slot} {H : Heap} {locs : List Loc}
    (zc : zC p s m args meth c cX11_store 5 RX11 none)
    (hK : zK E s)
    (hM : mW E q f_code a_tape a_size a_fault a_faultPlace a_many a_lands a_evenings a_sights a_choirs f_reached f_length f_begins f_sort f_value f_word f_wrongAt f_laterFault f_laterPlace a_told a_read f_farHut f_farSinger f_good f_land f_huts f_singers f_evening a_at a_knows a_climbed a_snow a_level f_begun f_minute f_avalanches a_run a_covers a_routes a_longest a_steep a_laid a_far f_sight a_runs f_choir f_voices a_rest a_wins f_seed a_other a_kept H)
    (hS : va_S (mA q) s.heap H locs)
    (hl : lv_has ls 5 [(0, .ref q), (1, .ref (q + 9)), (2, .int x2), (3, .int x3), (4, .int x4)])
    (hw : q_m_store_9_3 a_choirs a_told x2 x3 x4 post) :
    W p l e rm_m_store_9 s m args below meth c H locs 0 0 (MQ below (zQv (S := (Nat → Int32)) (fun u => post u) (fun u H => mW E q f_code a_tape a_size a_fault a_faultPlace a_many a_lands a_evenings a_sights u f_reached f_length f_begins f_sort f_value f_word f_wrongAt f_laterFault f_laterPlace a_told a_read f_farHut f_farSinger f_good f_land f_huts f_singers f_evening a_at a_knows a_climbed a_snow a_level f_begun f_minute f_avalanches a_run a_covers a_routes a_longest a_steep a_laid a_far f_sight a_runs f_choir f_voices a_rest a_wins f_seed a_other a_kept H) (mA q)) args s 0 0 (mA q)) (F0 m 3 ls []) := by
  have hx := zc.1
  have hb := zc.2.1
  refine hw (fun x4 a_choirs => ∀ (H : Heap) (locs : List Loc) (ls : Array Slot), lv_has ls 5 [(0, .ref q), (1, .ref (q + 9)), (2, .int x2), (3, .int x3), (4, .int x4)] → mW E q f_code a_tape a_size a_fault a_faultPlace a_many a_lands a_evenings a_sights a_choirs f_reached f_length f_begins f_sort f_value f_word f_wrongAt f_laterFault f_laterPlace a_told a_read f_farHut f_farSinger f_good f_land f_huts f_singers f_evening a_at a_knows a_climbed a_snow a_level f_begun f_minute f_avalanches a_run a_covers a_routes a_longest a_steep a_laid a_far f_sight a_runs f_choir f_voices a_rest a_wins f_seed a_other a_kept H → va_S (mA q) s.heap H locs → W p l e rm_m_store_9 s m args below meth c H locs 0 0 (MQ below (zQv (S := (Nat → Int32)) (fun u => post u) (fun u H => mW E q f_code a_tape a_size a_fault a_faultPlace a_many a_lands a_evenings a_sights u f_reached f_length f_begins f_sort f_value f_word f_wrongAt f_laterFault f_laterPlace a_told a_read f_farHut f_farSinger f_good f_land f_huts f_singers f_evening a_at a_knows a_climbed a_snow a_level f_begun f_minute f_avalanches a_run a_covers a_routes a_longest a_steep a_laid a_far f_sight a_runs f_choir f_voices a_rest a_wins f_seed a_other a_kept H) (mA q)) args s 0 0 (mA q)) (F0 m 3 ls [])) ?_ _ _ _ hl hM hS
  intro x4 a_choirs hw H locs ls hl hM hS
  refine lv_iload hx hb dX11_store_3 (lv_at hl 4 rfl) ?_
  refine lv_iload_n hx hb dX11_store_5 rfl (lv_at hl 2 rfl) ?_
  refine lv_icmp_ge (tgt := 30) hx hb dX11_store_6 (by decide) (fun hc => ?_) (fun hc => ?_)
  · have hw := hw.1 hc
    exact zret_vw a_choirs zc hS hw hM dX11_store_30
  · have hw := hw.2 hc
    refine lv_aload_n hx hb dX11_store_9 rfl (lv_at hl 1 rfl) ?_
    refine lv_iload_n hx hb dX11_store_10 rfl (lv_at hl 2 rfl) ?_
    refine lv_iload_n hx hb dX11_store_11 rfl (lv_at hl 3 rfl) ?_
    refine lv_imul hx hb dX11_store_12 ?_
    refine lv_iload hx hb dX11_store_13 (lv_at hl 4 rfl) ?_
    refine lv_iadd hx hb dX11_store_15 ?_
    refine lv_aload_n hx hb dX11_store_16 rfl (lv_at hl 0 rfl) ?_
    refine mg_11_38_0 zc hK hM dX11_store_17 ?_
    refine lv_iload hx hb dX11_store_20 (lv_at hl 4 rfl) ?_
    refine mld_10 zc hK hM hw.1 dX11_store_22 ?_
    have hw := hw.2
    refine lv_topi (fun v_1 ev_1 => ?_)
    have hw := hw v_1 ev_1
    refine mst_9 zc hK hM hS hw.1 dX11_store_23 (fun a_choirs_1 H locs ea_choirs_1 hM hS => ?_)
    have hw := hw.2 a_choirs_1 ea_choirs_1
    obtain ⟨v_2, ev_2⟩ : ∃ y : Int32, y = x4 + (1 : Int32) := ⟨_, rfl⟩
    have hw := hw v_2 ev_2
    refine lv_iinc (v := v_2) (k := 4) (lv' := [(4, .int v_2), (0, .ref q), (1, .ref (q + 9)), (2, .int x2), (3, .int x3)]) hx hb dX11_store_24 hl rfl (by rw [ev_2]; rfl) (by decide) rfl (fun ls hl => ?_)
    refine lv_goto (tgt := 3) hx hb dX11_store_27 (by decide) ?_
    exact hw _ _ _ (lv_sub hl [1, 2, 3, 4, 0] rfl) hM hS
set_option maxRecDepth 20000 in
theorem t_m_store_9_0 {p : Program} {l : Launch} {e : Env} {s : State} {m : MethodId} {args : Array Value} {below : List Frame} {meth : Method} {c : Code} {E : zE} {q : Nat} {f_code : Int32} {a_tape : Nat → Int32} {a_size : Nat → Int32} {a_fault : Nat → Int32} {a_faultPlace : Nat → Int32} {a_many : Nat → Int32} {a_lands : Nat → Int32} {a_evenings : Nat → Int32} {a_sights : Nat → Int32} {a_choirs : Nat → Int32} {f_reached : Int32} {f_length : Int32} {f_begins : Int32} {f_sort : Int32} {f_value : Int32} {f_word : Int64} {f_wrongAt : Int32} {f_laterFault : Int32} {f_laterPlace : Int32} {a_told : Nat → Int32} {a_read : Nat → Int32} {f_farHut : Int32} {f_farSinger : Int32} {f_good : Int32} {f_land : Int32} {f_huts : Int32} {f_singers : Int32} {f_evening : Int32} {a_at : Nat → Int32} {a_knows : Nat → Int32} {a_climbed : Nat → Int32} {a_snow : Nat → Int32} {a_level : Nat → Int32} {f_begun : Int32} {f_minute : Int32} {f_avalanches : Int32} {a_run : Nat → Int32} {a_covers : Nat → Int32} {a_routes : Nat → Int32} {a_longest : Nat → Int32} {a_steep : Nat → Int32} {a_laid : Nat → Int32} {a_far : Nat → Int32} {f_sight : Int32} {a_runs : Nat → Int32} {f_choir : Int32} {f_voices : Int32} {a_rest : Nat → Int64} {a_wins : Nat → Int32} {f_seed : Int32} {a_other : Nat → Int32} {a_kept : Nat → Int32} {post : (Nat → Int32) → Prop} {x2 : Int32} {x3 : Int32} {ls : Array Slot} {H : Heap} {locs : List Loc}
    (zc : zC p s m args meth c cX11_store 5 RX11 none)
    (hK : zK E s)
    (hM : mW E q f_code a_tape a_size a_fault a_faultPlace a_many a_lands a_evenings a_sights a_choirs f_reached f_length f_begins f_sort f_value f_word f_wrongAt f_laterFault f_laterPlace a_told a_read f_farHut f_farSinger f_good f_land f_huts f_singers f_evening a_at a_knows a_climbed a_snow a_level f_begun f_minute f_avalanches a_run a_covers a_routes a_longest a_steep a_laid a_far f_sight a_runs f_choir f_voices a_rest a_wins f_seed a_other a_kept H)
    (hS : va_S (mA q) s.heap H locs)
    (hl : lv_has ls 5 [(0, .ref q), (1, .ref (q + 9)), (2, .int x2), (3, .int x3)])
    (hw : q_m_store_9_0 a_choirs a_told x2 x3 post) :
    W p l e rm_m_store_9 s m args below meth c H locs 0 0 (MQ below (zQv (S := (Nat → Int32)) (fun u => post u) (fun u H => mW E q f_code a_tape a_size a_fault a_faultPlace a_many a_lands a_evenings a_sights u f_reached f_length f_begins f_sort f_value f_word f_wrongAt f_laterFault f_laterPlace a_told a_read f_farHut f_farSinger f_good f_land f_huts f_singers f_evening a_at a_knows a_climbed a_snow a_level f_begun f_minute f_avalanches a_run a_covers a_routes a_longest a_steep a_laid a_far f_sight a_runs f_choir f_voices a_rest a_wins f_seed a_other a_kept H) (mA q)) args s 0 0 (mA q)) (F0 m 0 ls []) := by
  have hx := zc.1
  have hb := zc.2.1
  refine lv_iconst (v := (0 : Int32)) hx hb dX11_store_0 (by decide) ?_
  refine lv_istore (lv' := [(4, .int (0 : Int32)), (0, .ref q), (1, .ref (q + 9)), (2, .int x2), (3, .int x3)]) hx hb dX11_store_1 hl (by decide) rfl (fun ls hl => ?_)
  exact t_m_store_9_3 zc hK hM hS  (lv_sub hl [1, 2, 3, 4, 0] rfl) hw
set_option maxRecDepth 20000 in
theorem c_m_store_9 (l : Launch) {E : zE} {q : Nat} {f_code : Int32} {a_tape : Nat → Int32} {a_size : Nat → Int32} {a_fault : Nat → Int32} {a_faultPlace : Nat → Int32} {a_many : Nat → Int32} {a_lands : Nat → Int32} {a_evenings : Nat → Int32} {a_sights : Nat → Int32} {a_choirs : Nat → Int32} {f_reached : Int32} {f_length : Int32} {f_begins : Int32} {f_sort : Int32} {f_value : Int32} {f_word : Int64} {f_wrongAt : Int32} {f_laterFault : Int32} {f_laterPlace : Int32} {a_told : Nat → Int32} {a_read : Nat → Int32} {f_farHut : Int32} {f_farSinger : Int32} {f_good : Int32} {f_land : Int32} {f_huts : Int32} {f_singers : Int32} {f_evening : Int32} {a_at : Nat → Int32} {a_knows : Nat → Int32} {a_climbed : Nat → Int32} {a_snow : Nat → Int32} {a_level : Nat → Int32} {f_begun : Int32} {f_minute : Int32} {f_avalanches : Int32} {a_run : Nat → Int32} {a_covers : Nat → Int32} {a_routes : Nat → Int32} {a_longest : Nat → Int32} {a_steep : Nat → Int32} {a_laid : Nat → Int32} {a_far : Nat → Int32} {f_sight : Int32} {a_runs : Nat → Int32} {f_choir : Int32} {f_voices : Int32} {a_rest : Nat → Int64} {a_wins : Nat → Int32} {f_seed : Int32} {a_other : Nat → Int32} {a_kept : Nat → Int32} {x2 : Int32} {x3 : Int32} {post : (Nat → Int32) → Prop} (hw : q_m_store_9_0 a_choirs a_told x2 x3 post) : Met l yX11_store (Cond.code yX11_store cX11_store 5 none :: zb) rm_m_store_9 (va_Pc [.ref q, .ref (q + 9), .int x2, .int x3] (fun U => mW E q f_code a_tape a_size a_fault a_faultPlace a_many a_lands a_evenings a_sights a_choirs f_reached f_length f_begins f_sort f_value f_word f_wrongAt f_laterFault f_laterPlace a_told a_read f_farHut f_farSinger f_good f_land f_huts f_singers f_evening a_at a_knows a_climbed a_snow a_level f_begun f_minute f_avalanches a_run a_covers a_routes a_longest a_steep a_laid a_far f_sight a_runs f_choir f_voices a_rest a_wins f_seed a_other a_kept U.heap ∧ zK E U)) (zQv (S := (Nat → Int32)) (fun u => post u) (fun u H => mW E q f_code a_tape a_size a_fault a_faultPlace a_many a_lands a_evenings a_sights u f_reached f_length f_begins f_sort f_value f_word f_wrongAt f_laterFault f_laterPlace a_told a_read f_farHut f_farSinger f_good f_land f_huts f_singers f_evening a_at a_knows a_climbed a_snow a_level f_begun f_minute f_avalanches a_run a_covers a_routes a_longest a_steep a_laid a_far f_sight a_runs f_choir f_voices a_rest a_wins f_seed a_other a_kept H) (mA q)) 0 0 (mA q) := by
  refine Met.ofW (cc := cX11_store) (maxL := 5) (ret := none) (by decide) rfl ?_
  intro p e s m args below meth c s₁ B hml hv
  obtain ⟨rfl, hM, hK⟩ := hv
  have zc := zc_of B hml
  have hl := lv_entry ([.ref q, .ref (q + 9), .int x2, .int x3]) (n := 5) (Nat.le_of_ble_eq_true rfl)
  rw [lg_entry_eq]
  generalize (lg_sl ([.ref q, .ref (q + 9), .int x2, .int x3]) ++ List.replicate (5 - (lg_sl ([.ref q, .ref (q + 9), .int x2, .int x3])).length) Slot.unset).toArray = ls at hl ⊢
  have hl : lv_has ls 5 [(0, .ref q), (1, .ref (q + 9)), (2, .int x2), (3, .int x3)] := hl
  exact t_m_store_9_0 zc hK hM va_S.rf (lv_sub hl [0, 1, 2, 3] rfl) hw
-- m_store_8
abbrev rm_m_store_8 : Room := { frames := 0, cells := 0, slots := 0, locals := 0 }
def q_m_store_8_3 (a_sights : Nat → Int32) (a_told : Nat → Int32) (x2 : Int32) (x3 : Int32) (x4 : Int32) (post : (Nat → Int32) → Prop) : Prop :=
  ∀ P3 : Int32 → (Nat → Int32) → Prop, (∀ (x4 : Int32) (a_sights : Nat → Int32), ((x2 ≤ x4 → (post a_sights)) ∧ (¬ x2 ≤ x4 → (vp_in x4 132 ∧ (∀ v_1 : Int32, v_1 = (a_told (Int32.toNatClampNeg x4)) → (vp_in ((x2 * x3) + x4) 248 ∧ (∀ a_sights_1 : Nat → Int32, a_sights_1 = upd a_sights (Int32.toNatClampNeg ((x2 * x3) + x4)) v_1 → (∀ v_2 : Int32, v_2 = x4 + (1 : Int32) → (P3 v_2 a_sights_1)))))))) → P3 x4 a_sights) → P3 x4 a_sights
def q_m_store_8_0 (a_sights : Nat → Int32) (a_told : Nat → Int32) (x2 : Int32) (x3 : Int32) (post : (Nat → Int32) → Prop) : Prop :=
  q_m_store_8_3 a_sights a_told x2 x3 (0 : Int32) post
set_option maxRecDepth 20000 in
theorem t_m_store_8_3 {p : Program} {l : Launch} {e : Env} {s : State} {m : MethodId} {args : Array Value} {below : List Frame} {meth : Method} {c : Code} {E : zE} {q : Nat} {f_code : Int32} {a_tape : Nat → Int32} {a_size : Nat → Int32} {a_fault : Nat → Int32} {a_faultPlace : Nat → Int32} {a_many : Nat → Int32} {a_lands : Nat → Int32} {a_evenings : Nat → Int32} {a_sights : Nat → Int32} {a_choirs : Nat → Int32} {f_reached : Int32} {f_length : Int32} {f_begins : Int32} {f_sort : Int32} {f_value : Int32} {f_word : Int64} {f_wrongAt : Int32} {f_laterFault : Int32} {f_laterPlace : Int32} {a_told : Nat → Int32} {a_read : Nat → Int32} {f_farHut : Int32} {f_farSinger : Int32} {f_good : Int32} {f_land : Int32} {f_huts : Int32} {f_singers : Int32} {f_evening : Int32} {a_at : Nat → Int32} {a_knows : Nat → Int32} {a_climbed : Nat → Int32} {a_snow : Nat → Int32} {a_level : Nat → Int32} {f_begun : Int32} {f_minute : Int32} {f_avalanches : Int32} {a_run : Nat → Int32} {a_covers : Nat → Int32} {a_routes : Nat → Int32} {a_longest : Nat → Int32} {a_steep : Nat → Int32} {a_laid : Nat → Int32} {a_far : Nat → Int32} {f_sight : Int32} {a_runs : Nat → Int32} {f_choir : Int32} {f_voices : Int32} {a_rest : Nat → Int64} {a_wins : Nat → Int32} {f_seed : Int32} {a_other : Nat → Int32} {a_kept : Nat → Int32} {post : (Nat → Int32) → Prop} {x2 : Int32} {x3 : Int32} {x4 : Int32} {ls : Array Slot} {H : Heap} {locs : List Loc}
    (zc : zC p s m args meth c cX11_store 5 RX11 none)
    (hK : zK E s)
    (hM : mW E q f_code a_tape a_size a_fault a_faultPlace a_many a_lands a_evenings a_sights a_choirs f_reached f_length f_begins f_sort f_value f_word f_wrongAt f_laterFault f_laterPlace a_told a_read f_farHut f_farSinger f_good f_land f_huts f_singers f_evening a_at a_knows a_climbed a_snow a_level f_begun f_minute f_avalanches a_run a_covers a_routes a_longest a_steep a_laid a_far f_sight a_runs f_choir f_voices a_rest a_wins f_seed a_other a_kept H)
    (hS : va_S (mA q) s.heap H locs)
    (hl : lv_has ls 5 [(0, .ref q), (1, .ref (q + 8)), (2, .int x2), (3, .int x3), (4, .int x4)])
    (hw : q_m_store_8_3 a_sights a_told x2 x3 x4 post) :
    W p l e rm_m_store_8 s m args below meth c H locs 0 0 (MQ below (zQv (S := (Nat → Int32)) (fun u => post u) (fun u H => mW E q f_code a_tape a_size a_fault a_faultPlace a_many a_lands a_evenings u a_choirs f_reached f_length f_begins f_sort f_value f_word f_wrongAt f_laterFault f_laterPlace a_told a_read f_farHut f_farSinger f_good f_land f_huts f_singers f_evening a_at a_knows a_climbed a_snow a_level f_begun f_minute f_avalanches a_run a_covers a_routes a_longest a_steep a_laid a_far f_sight a_runs f_choir f_voices a_rest a_wins f_seed a_other a_kept H) (mA q)) args s 0 0 (mA q)) (F0 m 3 ls []) := by
  have hx := zc.1
  have hb := zc.2.1
  refine hw (fun x4 a_sights => ∀ (H : Heap) (locs : List Loc) (ls : Array Slot), lv_has ls 5 [(0, .ref q), (1, .ref (q + 8)), (2, .int x2), (3, .int x3), (4, .int x4)] → mW E q f_code a_tape a_size a_fault a_faultPlace a_many a_lands a_evenings a_sights a_choirs f_reached f_length f_begins f_sort f_value f_word f_wrongAt f_laterFault f_laterPlace a_told a_read f_farHut f_farSinger f_good f_land f_huts f_singers f_evening a_at a_knows a_climbed a_snow a_level f_begun f_minute f_avalanches a_run a_covers a_routes a_longest a_steep a_laid a_far f_sight a_runs f_choir f_voices a_rest a_wins f_seed a_other a_kept H → va_S (mA q) s.heap H locs → W p l e rm_m_store_8 s m args below meth c H locs 0 0 (MQ below (zQv (S := (Nat → Int32)) (fun u => post u) (fun u H => mW E q f_code a_tape a_size a_fault a_faultPlace a_many a_lands a_evenings u a_choirs f_reached f_length f_begins f_sort f_value f_word f_wrongAt f_laterFault f_laterPlace a_told a_read f_farHut f_farSinger f_good f_land f_huts f_singers f_evening a_at a_knows a_climbed a_snow a_level f_begun f_minute f_avalanches a_run a_covers a_routes a_longest a_steep a_laid a_far f_sight a_runs f_choir f_voices a_rest a_wins f_seed a_other a_kept H) (mA q)) args s 0 0 (mA q)) (F0 m 3 ls [])) ?_ _ _ _ hl hM hS
  intro x4 a_sights hw H locs ls hl hM hS
  refine lv_iload hx hb dX11_store_3 (lv_at hl 4 rfl) ?_
  refine lv_iload_n hx hb dX11_store_5 rfl (lv_at hl 2 rfl) ?_
  refine lv_icmp_ge (tgt := 30) hx hb dX11_store_6 (by decide) (fun hc => ?_) (fun hc => ?_)
  · have hw := hw.1 hc
    exact zret_vw a_sights zc hS hw hM dX11_store_30
  · have hw := hw.2 hc
    refine lv_aload_n hx hb dX11_store_9 rfl (lv_at hl 1 rfl) ?_
    refine lv_iload_n hx hb dX11_store_10 rfl (lv_at hl 2 rfl) ?_
    refine lv_iload_n hx hb dX11_store_11 rfl (lv_at hl 3 rfl) ?_
    refine lv_imul hx hb dX11_store_12 ?_
    refine lv_iload hx hb dX11_store_13 (lv_at hl 4 rfl) ?_
    refine lv_iadd hx hb dX11_store_15 ?_
    refine lv_aload_n hx hb dX11_store_16 rfl (lv_at hl 0 rfl) ?_
    refine mg_11_38_0 zc hK hM dX11_store_17 ?_
    refine lv_iload hx hb dX11_store_20 (lv_at hl 4 rfl) ?_
    refine mld_10 zc hK hM hw.1 dX11_store_22 ?_
    have hw := hw.2
    refine lv_topi (fun v_1 ev_1 => ?_)
    have hw := hw v_1 ev_1
    refine mst_8 zc hK hM hS hw.1 dX11_store_23 (fun a_sights_1 H locs ea_sights_1 hM hS => ?_)
    have hw := hw.2 a_sights_1 ea_sights_1
    obtain ⟨v_2, ev_2⟩ : ∃ y : Int32, y = x4 + (1 : Int32) := ⟨_, rfl⟩
    have hw := hw v_2 ev_2
    refine lv_iinc (v := v_2) (k := 4) (lv' := [(4, .int v_2), (0, .ref q), (1, .ref (q + 8)), (2, .int x2), (3, .int x3)]) hx hb dX11_store_24 hl rfl (by rw [ev_2]; rfl) (by decide) rfl (fun ls hl => ?_)
    refine lv_goto (tgt := 3) hx hb dX11_store_27 (by decide) ?_
    exact hw _ _ _ (lv_sub hl [1, 2, 3, 4, 0] rfl) hM hS
set_option maxRecDepth 20000 in
theorem t_m_store_8_0 {p : Program} {l : Launch} {e : Env} {s : State} {m : MethodId} {args : Array Value} {below : List Frame} {meth : Method} {c : Code} {E : zE} {q : Nat} {f_code : Int32} {a_tape : Nat → Int32} {a_size : Nat → Int32} {a_fault : Nat → Int32} {a_faultPlace : Nat → Int32} {a_many : Nat → Int32} {a_lands : Nat → Int32} {a_evenings : Nat → Int32} {a_sights : Nat → Int32} {a_choirs : Nat → Int32} {f_reached : Int32} {f_length : Int32} {f_begins : Int32} {f_sort : Int32} {f_value : Int32} {f_word : Int64} {f_wrongAt : Int32} {f_laterFault : Int32} {f_laterPlace : Int32} {a_told : Nat → Int32} {a_read : Nat → Int32} {f_farHut : Int32} {f_farSinger : Int32} {f_good : Int32} {f_land : Int32} {f_huts : Int32} {f_singers : Int32} {f_evening : Int32} {a_at : Nat → Int32} {a_knows : Nat → Int32} {a_climbed : Nat → Int32} {a_snow : Nat → Int32} {a_level : Nat → Int32} {f_begun : Int32} {f_minute : Int32} {f_avalanches : Int32} {a_run : Nat → Int32} {a_covers : Nat → Int32} {a_routes : Nat → Int32} {a_longest : Nat → Int32} {a_steep : Nat → Int32} {a_laid : Nat → Int32} {a_far : Nat → Int32} {f_sight : Int32} {a_runs : Nat → Int32} {f_choir : Int32} {f_voices : Int32} {a_rest : Nat → Int64} {a_wins : Nat → Int32} {f_seed : Int32} {a_other : Nat → Int32} {a_kept : Nat → Int32} {post : (Nat → Int32) → Prop} {x2 : Int32} {x3 : Int32} {ls : Array Slot} {H : Heap} {locs : List Loc}
    (zc : zC p s m args meth c cX11_store 5 RX11 none)
    (hK : zK E s)
    (hM : mW E q f_code a_tape a_size a_fault a_faultPlace a_many a_lands a_evenings a_sights a_choirs f_reached f_length f_begins f_sort f_value f_word f_wrongAt f_laterFault f_laterPlace a_told a_read f_farHut f_farSinger f_good f_land f_huts f_singers f_evening a_at a_knows a_climbed a_snow a_level f_begun f_minute f_avalanches a_run a_covers a_routes a_longest a_steep a_laid a_far f_sight a_runs f_choir f_voices a_rest a_wins f_seed a_other a_kept H)
    (hS : va_S (mA q) s.heap H locs)
    (hl : lv_has ls 5 [(0, .ref q), (1, .ref (q + 8)), (2, .int x2), (3, .int x3)])
    (hw : q_m_store_8_0 a_sights a_told x2 x3 post) :
    W p l e rm_m_store_8 s m args below meth c H locs 0 0 (MQ below (zQv (S := (Nat → Int32)) (fun u => post u) (fun u H => mW E q f_code a_tape a_size a_fault a_faultPlace a_many a_lands a_evenings u a_choirs f_reached f_length f_begins f_sort f_value f_word f_wrongAt f_laterFault f_laterPlace a_told a_read f_farHut f_farSinger f_good f_land f_huts f_singers f_evening a_at a_knows a_climbed a_snow a_level f_begun f_minute f_avalanches a_run a_covers a_routes a_longest a_steep a_laid a_far f_sight a_runs f_choir f_voices a_rest a_wins f_seed a_other a_kept H) (mA q)) args s 0 0 (mA q)) (F0 m 0 ls []) := by
  have hx := zc.1
  have hb := zc.2.1
  refine lv_iconst (v := (0 : Int32)) hx hb dX11_store_0 (by decide) ?_
  refine lv_istore (lv' := [(4, .int (0 : Int32)), (0, .ref q), (1, .ref (q + 8)), (2, .int x2), (3, .int x3)]) hx hb dX11_store_1 hl (by decide) rfl (fun ls hl => ?_)
  exact t_m_store_8_3 zc hK hM hS  (lv_sub hl [1, 2, 3, 4, 0] rfl) hw
set_option maxRecDepth 20000 in
theorem c_m_store_8 (l : Launch) {E : zE} {q : Nat} {f_code : Int32} {a_tape : Nat → Int32} {a_size : Nat → Int32} {a_fault : Nat → Int32} {a_faultPlace : Nat → Int32} {a_many : Nat → Int32} {a_lands : Nat → Int32} {a_evenings : Nat → Int32} {a_sights : Nat → Int32} {a_choirs : Nat → Int32} {f_reached : Int32} {f_length : Int32} {f_begins : Int32} {f_sort : Int32} {f_value : Int32} {f_word : Int64} {f_wrongAt : Int32} {f_laterFault : Int32} {f_laterPlace : Int32} {a_told : Nat → Int32} {a_read : Nat → Int32} {f_farHut : Int32} {f_farSinger : Int32} {f_good : Int32} {f_land : Int32} {f_huts : Int32} {f_singers : Int32} {f_evening : Int32} {a_at : Nat → Int32} {a_knows : Nat → Int32} {a_climbed : Nat → Int32} {a_snow : Nat → Int32} {a_level : Nat → Int32} {f_begun : Int32} {f_minute : Int32} {f_avalanches : Int32} {a_run : Nat → Int32} {a_covers : Nat → Int32} {a_routes : Nat → Int32} {a_longest : Nat → Int32} {a_steep : Nat → Int32} {a_laid : Nat → Int32} {a_far : Nat → Int32} {f_sight : Int32} {a_runs : Nat → Int32} {f_choir : Int32} {f_voices : Int32} {a_rest : Nat → Int64} {a_wins : Nat → Int32} {f_seed : Int32} {a_other : Nat → Int32} {a_kept : Nat → Int32} {x2 : Int32} {x3 : Int32} {post : (Nat → Int32) → Prop} (hw : q_m_store_8_0 a_sights a_told x2 x3 post) : Met l yX11_store (Cond.code yX11_store cX11_store 5 none :: zb) rm_m_store_8 (va_Pc [.ref q, .ref (q + 8), .int x2, .int x3] (fun U => mW E q f_code a_tape a_size a_fault a_faultPlace a_many a_lands a_evenings a_sights a_choirs f_reached f_length f_begins f_sort f_value f_word f_wrongAt f_laterFault f_laterPlace a_told a_read f_farHut f_farSinger f_good f_land f_huts f_singers f_evening a_at a_knows a_climbed a_snow a_level f_begun f_minute f_avalanches a_run a_covers a_routes a_longest a_steep a_laid a_far f_sight a_runs f_choir f_voices a_rest a_wins f_seed a_other a_kept U.heap ∧ zK E U)) (zQv (S := (Nat → Int32)) (fun u => post u) (fun u H => mW E q f_code a_tape a_size a_fault a_faultPlace a_many a_lands a_evenings u a_choirs f_reached f_length f_begins f_sort f_value f_word f_wrongAt f_laterFault f_laterPlace a_told a_read f_farHut f_farSinger f_good f_land f_huts f_singers f_evening a_at a_knows a_climbed a_snow a_level f_begun f_minute f_avalanches a_run a_covers a_routes a_longest a_steep a_laid a_far f_sight a_runs f_choir f_voices a_rest a_wins f_seed a_other a_kept H) (mA q)) 0 0 (mA q) := by
  refine Met.ofW (cc := cX11_store) (maxL := 5) (ret := none) (by decide) rfl ?_
  intro p e s m args below meth c s₁ B hml hv
  obtain ⟨rfl, hM, hK⟩ := hv
  have zc := zc_of B hml
  have hl := lv_entry ([.ref q, .ref (q + 8), .int x2, .int x3]) (n := 5) (Nat.le_of_ble_eq_true rfl)
  rw [lg_entry_eq]
  generalize (lg_sl ([.ref q, .ref (q + 8), .int x2, .int x3]) ++ List.replicate (5 - (lg_sl ([.ref q, .ref (q + 8), .int x2, .int x3])).length) Slot.unset).toArray = ls at hl ⊢
  have hl : lv_has ls 5 [(0, .ref q), (1, .ref (q + 8)), (2, .int x2), (3, .int x3)] := hl
  exact t_m_store_8_0 zc hK hM va_S.rf (lv_sub hl [0, 1, 2, 3] rfl) hw
-- m_store_7
abbrev rm_m_store_7 : Room := { frames := 0, cells := 0, slots := 0, locals := 0 }
def q_m_store_7_3 (a_evenings : Nat → Int32) (a_told : Nat → Int32) (x2 : Int32) (x3 : Int32) (x4 : Int32) (post : (Nat → Int32) → Prop) : Prop :=
  ∀ P3 : Int32 → (Nat → Int32) → Prop, (∀ (x4 : Int32) (a_evenings : Nat → Int32), ((x2 ≤ x4 → (post a_evenings)) ∧ (¬ x2 ≤ x4 → (vp_in x4 132 ∧ (∀ v_1 : Int32, v_1 = (a_told (Int32.toNatClampNeg x4)) → (vp_in ((x2 * x3) + x4) 968 ∧ (∀ a_evenings_1 : Nat → Int32, a_evenings_1 = upd a_evenings (Int32.toNatClampNeg ((x2 * x3) + x4)) v_1 → (∀ v_2 : Int32, v_2 = x4 + (1 : Int32) → (P3 v_2 a_evenings_1)))))))) → P3 x4 a_evenings) → P3 x4 a_evenings
def q_m_store_7_0 (a_evenings : Nat → Int32) (a_told : Nat → Int32) (x2 : Int32) (x3 : Int32) (post : (Nat → Int32) → Prop) : Prop :=
  q_m_store_7_3 a_evenings a_told x2 x3 (0 : Int32) post
set_option maxRecDepth 20000 in
theorem t_m_store_7_3 {p : Program} {l : Launch} {e : Env} {s : State} {m : MethodId} {args : Array Value} {below : List Frame} {meth : Method} {c : Code} {E : zE} {q : Nat} {f_code : Int32} {a_tape : Nat → Int32} {a_size : Nat → Int32} {a_fault : Nat → Int32} {a_faultPlace : Nat → Int32} {a_many : Nat → Int32} {a_lands : Nat → Int32} {a_evenings : Nat → Int32} {a_sights : Nat → Int32} {a_choirs : Nat → Int32} {f_reached : Int32} {f_length : Int32} {f_begins : Int32} {f_sort : Int32} {f_value : Int32} {f_word : Int64} {f_wrongAt : Int32} {f_laterFault : Int32} {f_laterPlace : Int32} {a_told : Nat → Int32} {a_read : Nat → Int32} {f_farHut : Int32} {f_farSinger : Int32} {f_good : Int32} {f_land : Int32} {f_huts : Int32} {f_singers : Int32} {f_evening : Int32} {a_at : Nat → Int32} {a_knows : Nat → Int32} {a_climbed : Nat → Int32} {a_snow : Nat → Int32} {a_level : Nat → Int32} {f_begun : Int32} {f_minute : Int32} {f_avalanches : Int32} {a_run : Nat → Int32} {a_covers : Nat → Int32} {a_routes : Nat → Int32} {a_longest : Nat → Int32} {a_steep : Nat → Int32} {a_laid : Nat → Int32} {a_far : Nat → Int32} {f_sight : Int32} {a_runs : Nat → Int32} {f_choir : Int32} {f_voices : Int32} {a_rest : Nat → Int64} {a_wins : Nat → Int32} {f_seed : Int32} {a_other : Nat → Int32} {a_kept : Nat → Int32} {post : (Nat → Int32) → Prop} {x2 : Int32} {x3 : Int32} {x4 : Int32} {ls : Array Slot} {H : Heap} {locs : List Loc}
    (zc : zC p s m args meth c cX11_store 5 RX11 none)
    (hK : zK E s)
    (hM : mW E q f_code a_tape a_size a_fault a_faultPlace a_many a_lands a_evenings a_sights a_choirs f_reached f_length f_begins f_sort f_value f_word f_wrongAt f_laterFault f_laterPlace a_told a_read f_farHut f_farSinger f_good f_land f_huts f_singers f_evening a_at a_knows a_climbed a_snow a_level f_begun f_minute f_avalanches a_run a_covers a_routes a_longest a_steep a_laid a_far f_sight a_runs f_choir f_voices a_rest a_wins f_seed a_other a_kept H)
    (hS : va_S (mA q) s.heap H locs)
    (hl : lv_has ls 5 [(0, .ref q), (1, .ref (q + 7)), (2, .int x2), (3, .int x3), (4, .int x4)])
    (hw : q_m_store_7_3 a_evenings a_told x2 x3 x4 post) :
    W p l e rm_m_store_7 s m args below meth c H locs 0 0 (MQ below (zQv (S := (Nat → Int32)) (fun u => post u) (fun u H => mW E q f_code a_tape a_size a_fault a_faultPlace a_many a_lands u a_sights a_choirs f_reached f_length f_begins f_sort f_value f_word f_wrongAt f_laterFault f_laterPlace a_told a_read f_farHut f_farSinger f_good f_land f_huts f_singers f_evening a_at a_knows a_climbed a_snow a_level f_begun f_minute f_avalanches a_run a_covers a_routes a_longest a_steep a_laid a_far f_sight a_runs f_choir f_voices a_rest a_wins f_seed a_other a_kept H) (mA q)) args s 0 0 (mA q)) (F0 m 3 ls []) := by
  have hx := zc.1
  have hb := zc.2.1
  refine hw (fun x4 a_evenings => ∀ (H : Heap) (locs : List Loc) (ls : Array Slot), lv_has ls 5 [(0, .ref q), (1, .ref (q + 7)), (2, .int x2), (3, .int x3), (4, .int x4)] → mW E q f_code a_tape a_size a_fault a_faultPlace a_many a_lands a_evenings a_sights a_choirs f_reached f_length f_begins f_sort f_value f_word f_wrongAt f_laterFault f_laterPlace a_told a_read f_farHut f_farSinger f_good f_land f_huts f_singers f_evening a_at a_knows a_climbed a_snow a_level f_begun f_minute f_avalanches a_run a_covers a_routes a_longest a_steep a_laid a_far f_sight a_runs f_choir f_voices a_rest a_wins f_seed a_other a_kept H → va_S (mA q) s.heap H locs → W p l e rm_m_store_7 s m args below meth c H locs 0 0 (MQ below (zQv (S := (Nat → Int32)) (fun u => post u) (fun u H => mW E q f_code a_tape a_size a_fault a_faultPlace a_many a_lands u a_sights a_choirs f_reached f_length f_begins f_sort f_value f_word f_wrongAt f_laterFault f_laterPlace a_told a_read f_farHut f_farSinger f_good f_land f_huts f_singers f_evening a_at a_knows a_climbed a_snow a_level f_begun f_minute f_avalanches a_run a_covers a_routes a_longest a_steep a_laid a_far f_sight a_runs f_choir f_voices a_rest a_wins f_seed a_other a_kept H) (mA q)) args s 0 0 (mA q)) (F0 m 3 ls [])) ?_ _ _ _ hl hM hS
  intro x4 a_evenings hw H locs ls hl hM hS
  refine lv_iload hx hb dX11_store_3 (lv_at hl 4 rfl) ?_
  refine lv_iload_n hx hb dX11_store_5 rfl (lv_at hl 2 rfl) ?_
  refine lv_icmp_ge (tgt := 30) hx hb dX11_store_6 (by decide) (fun hc => ?_) (fun hc => ?_)
  · have hw := hw.1 hc
    exact zret_vw a_evenings zc hS hw hM dX11_store_30
  · have hw := hw.2 hc
    refine lv_aload_n hx hb dX11_store_9 rfl (lv_at hl 1 rfl) ?_
    refine lv_iload_n hx hb dX11_store_10 rfl (lv_at hl 2 rfl) ?_
    refine lv_iload_n hx hb dX11_store_11 rfl (lv_at hl 3 rfl) ?_
    refine lv_imul hx hb dX11_store_12 ?_
    refine lv_iload hx hb dX11_store_13 (lv_at hl 4 rfl) ?_
    refine lv_iadd hx hb dX11_store_15 ?_
    refine lv_aload_n hx hb dX11_store_16 rfl (lv_at hl 0 rfl) ?_
    refine mg_11_38_0 zc hK hM dX11_store_17 ?_
    refine lv_iload hx hb dX11_store_20 (lv_at hl 4 rfl) ?_
    refine mld_10 zc hK hM hw.1 dX11_store_22 ?_
    have hw := hw.2
    refine lv_topi (fun v_1 ev_1 => ?_)
    have hw := hw v_1 ev_1
    refine mst_7 zc hK hM hS hw.1 dX11_store_23 (fun a_evenings_1 H locs ea_evenings_1 hM hS => ?_)
    have hw := hw.2 a_evenings_1 ea_evenings_1
    obtain ⟨v_2, ev_2⟩ : ∃ y : Int32, y = x4 + (1 : Int32) := ⟨_, rfl⟩
    have hw := hw v_2 ev_2
    refine lv_iinc (v := v_2) (k := 4) (lv' := [(4, .int v_2), (0, .ref q), (1, .ref (q + 7)), (2, .int x2), (3, .int x3)]) hx hb dX11_store_24 hl rfl (by rw [ev_2]; rfl) (by decide) rfl (fun ls hl => ?_)
    refine lv_goto (tgt := 3) hx hb dX11_store_27 (by decide) ?_
    exact hw _ _ _ (lv_sub hl [1, 2, 3, 4, 0] rfl) hM hS
set_option maxRecDepth 20000 in
theorem t_m_store_7_0 {p : Program} {l : Launch} {e : Env} {s : State} {m : MethodId} {args : Array Value} {below : List Frame} {meth : Method} {c : Code} {E : zE} {q : Nat} {f_code : Int32} {a_tape : Nat → Int32} {a_size : Nat → Int32} {a_fault : Nat → Int32} {a_faultPlace : Nat → Int32} {a_many : Nat → Int32} {a_lands : Nat → Int32} {a_evenings : Nat → Int32} {a_sights : Nat → Int32} {a_choirs : Nat → Int32} {f_reached : Int32} {f_length : Int32} {f_begins : Int32} {f_sort : Int32} {f_value : Int32} {f_word : Int64} {f_wrongAt : Int32} {f_laterFault : Int32} {f_laterPlace : Int32} {a_told : Nat → Int32} {a_read : Nat → Int32} {f_farHut : Int32} {f_farSinger : Int32} {f_good : Int32} {f_land : Int32} {f_huts : Int32} {f_singers : Int32} {f_evening : Int32} {a_at : Nat → Int32} {a_knows : Nat → Int32} {a_climbed : Nat → Int32} {a_snow : Nat → Int32} {a_level : Nat → Int32} {f_begun : Int32} {f_minute : Int32} {f_avalanches : Int32} {a_run : Nat → Int32} {a_covers : Nat → Int32} {a_routes : Nat → Int32} {a_longest : Nat → Int32} {a_steep : Nat → Int32} {a_laid : Nat → Int32} {a_far : Nat → Int32} {f_sight : Int32} {a_runs : Nat → Int32} {f_choir : Int32} {f_voices : Int32} {a_rest : Nat → Int64} {a_wins : Nat → Int32} {f_seed : Int32} {a_other : Nat → Int32} {a_kept : Nat → Int32} {post : (Nat → Int32) → Prop} {x2 : Int32} {x3 : Int32} {ls : Array Slot} {H : Heap} {locs : List Loc}
    (zc : zC p s m args meth c cX11_store 5 RX11 none)
    (hK : zK E s)
    (hM : mW E q f_code a_tape a_size a_fault a_faultPlace a_many a_lands a_evenings a_sights a_choirs f_reached f_length f_begins f_sort f_value f_word f_wrongAt f_laterFault f_laterPlace a_told a_read f_farHut f_farSinger f_good f_land f_huts f_singers f_evening a_at a_knows a_climbed a_snow a_level f_begun f_minute f_avalanches a_run a_covers a_routes a_longest a_steep a_laid a_far f_sight a_runs f_choir f_voices a_rest a_wins f_seed a_other a_kept H)
    (hS : va_S (mA q) s.heap H locs)
    (hl : lv_has ls 5 [(0, .ref q), (1, .ref (q + 7)), (2, .int x2), (3, .int x3)])
    (hw : q_m_store_7_0 a_evenings a_told x2 x3 post) :
    W p l e rm_m_store_7 s m args below meth c H locs 0 0 (MQ below (zQv (S := (Nat → Int32)) (fun u => post u) (fun u H => mW E q f_code a_tape a_size a_fault a_faultPlace a_many a_lands u a_sights a_choirs f_reached f_length f_begins f_sort f_value f_word f_wrongAt f_laterFault f_laterPlace a_told a_read f_farHut f_farSinger f_good f_land f_huts f_singers f_evening a_at a_knows a_climbed a_snow a_level f_begun f_minute f_avalanches a_run a_covers a_routes a_longest a_steep a_laid a_far f_sight a_runs f_choir f_voices a_rest a_wins f_seed a_other a_kept H) (mA q)) args s 0 0 (mA q)) (F0 m 0 ls []) := by
  have hx := zc.1
  have hb := zc.2.1
  refine lv_iconst (v := (0 : Int32)) hx hb dX11_store_0 (by decide) ?_
  refine lv_istore (lv' := [(4, .int (0 : Int32)), (0, .ref q), (1, .ref (q + 7)), (2, .int x2), (3, .int x3)]) hx hb dX11_store_1 hl (by decide) rfl (fun ls hl => ?_)
  exact t_m_store_7_3 zc hK hM hS  (lv_sub hl [1, 2, 3, 4, 0] rfl) hw
set_option maxRecDepth 20000 in
theorem c_m_store_7 (l : Launch) {E : zE} {q : Nat} {f_code : Int32} {a_tape : Nat → Int32} {a_size : Nat → Int32} {a_fault : Nat → Int32} {a_faultPlace : Nat → Int32} {a_many : Nat → Int32} {a_lands : Nat → Int32} {a_evenings : Nat → Int32} {a_sights : Nat → Int32} {a_choirs : Nat → Int32} {f_reached : Int32} {f_length : Int32} {f_begins : Int32} {f_sort : Int32} {f_value : Int32} {f_word : Int64} {f_wrongAt : Int32} {f_laterFault : Int32} {f_laterPlace : Int32} {a_told : Nat → Int32} {a_read : Nat → Int32} {f_farHut : Int32} {f_farSinger : Int32} {f_good : Int32} {f_land : Int32} {f_huts : Int32} {f_singers : Int32} {f_evening : Int32} {a_at : Nat → Int32} {a_knows : Nat → Int32} {a_climbed : Nat → Int32} {a_snow : Nat → Int32} {a_level : Nat → Int32} {f_begun : Int32} {f_minute : Int32} {f_avalanches : Int32} {a_run : Nat → Int32} {a_covers : Nat → Int32} {a_routes : Nat → Int32} {a_longest : Nat → Int32} {a_steep : Nat → Int32} {a_laid : Nat → Int32} {a_far : Nat → Int32} {f_sight : Int32} {a_runs : Nat → Int32} {f_choir : Int32} {f_voices : Int32} {a_rest : Nat → Int64} {a_wins : Nat → Int32} {f_seed : Int32} {a_other : Nat → Int32} {a_kept : Nat → Int32} {x2 : Int32} {x3 : Int32} {post : (Nat → Int32) → Prop} (hw : q_m_store_7_0 a_evenings a_told x2 x3 post) : Met l yX11_store (Cond.code yX11_store cX11_store 5 none :: zb) rm_m_store_7 (va_Pc [.ref q, .ref (q + 7), .int x2, .int x3] (fun U => mW E q f_code a_tape a_size a_fault a_faultPlace a_many a_lands a_evenings a_sights a_choirs f_reached f_length f_begins f_sort f_value f_word f_wrongAt f_laterFault f_laterPlace a_told a_read f_farHut f_farSinger f_good f_land f_huts f_singers f_evening a_at a_knows a_climbed a_snow a_level f_begun f_minute f_avalanches a_run a_covers a_routes a_longest a_steep a_laid a_far f_sight a_runs f_choir f_voices a_rest a_wins f_seed a_other a_kept U.heap ∧ zK E U)) (zQv (S := (Nat → Int32)) (fun u => post u) (fun u H => mW E q f_code a_tape a_size a_fault a_faultPlace a_many a_lands u a_sights a_choirs f_reached f_length f_begins f_sort f_value f_word f_wrongAt f_laterFault f_laterPlace a_told a_read f_farHut f_farSinger f_good f_land f_huts f_singers f_evening a_at a_knows a_climbed a_snow a_level f_begun f_minute f_avalanches a_run a_covers a_routes a_longest a_steep a_laid a_far f_sight a_runs f_choir f_voices a_rest a_wins f_seed a_other a_kept H) (mA q)) 0 0 (mA q) := by
  refine Met.ofW (cc := cX11_store) (maxL := 5) (ret := none) (by decide) rfl ?_
  intro p e s m args below meth c s₁ B hml hv
  obtain ⟨rfl, hM, hK⟩ := hv
  have zc := zc_of B hml
  have hl := lv_entry ([.ref q, .ref (q + 7), .int x2, .int x3]) (n := 5) (Nat.le_of_ble_eq_true rfl)
  rw [lg_entry_eq]
  generalize (lg_sl ([.ref q, .ref (q + 7), .int x2, .int x3]) ++ List.replicate (5 - (lg_sl ([.ref q, .ref (q + 7), .int x2, .int x3])).length) Slot.unset).toArray = ls at hl ⊢
  have hl : lv_has ls 5 [(0, .ref q), (1, .ref (q + 7)), (2, .int x2), (3, .int x3)] := hl
  exact t_m_store_7_0 zc hK hM va_S.rf (lv_sub hl [0, 1, 2, 3] rfl) hw
-- m_store_6
abbrev rm_m_store_6 : Room := { frames := 0, cells := 0, slots := 0, locals := 0 }
def q_m_store_6_3 (a_lands : Nat → Int32) (a_told : Nat → Int32) (x2 : Int32) (x3 : Int32) (x4 : Int32) (post : (Nat → Int32) → Prop) : Prop :=
  ∀ P3 : Int32 → (Nat → Int32) → Prop, (∀ (x4 : Int32) (a_lands : Nat → Int32), ((x2 ≤ x4 → (post a_lands)) ∧ (¬ x2 ≤ x4 → (vp_in x4 132 ∧ (∀ v_1 : Int32, v_1 = (a_told (Int32.toNatClampNeg x4)) → (vp_in ((x2 * x3) + x4) 1056 ∧ (∀ a_lands_1 : Nat → Int32, a_lands_1 = upd a_lands (Int32.toNatClampNeg ((x2 * x3) + x4)) v_1 → (∀ v_2 : Int32, v_2 = x4 + (1 : Int32) → (P3 v_2 a_lands_1)))))))) → P3 x4 a_lands) → P3 x4 a_lands
def q_m_store_6_0 (a_lands : Nat → Int32) (a_told : Nat → Int32) (x2 : Int32) (x3 : Int32) (post : (Nat → Int32) → Prop) : Prop :=
  q_m_store_6_3 a_lands a_told x2 x3 (0 : Int32) post
set_option maxRecDepth 20000 in
theorem t_m_store_6_3 {p : Program} {l : Launch} {e : Env} {s : State} {m : MethodId} {args : Array Value} {below : List Frame} {meth : Method} {c : Code} {E : zE} {q : Nat} {f_code : Int32} {a_tape : Nat → Int32} {a_size : Nat → Int32} {a_fault : Nat → Int32} {a_faultPlace : Nat → Int32} {a_many : Nat → Int32} {a_lands : Nat → Int32} {a_evenings : Nat → Int32} {a_sights : Nat → Int32} {a_choirs : Nat → Int32} {f_reached : Int32} {f_length : Int32} {f_begins : Int32} {f_sort : Int32} {f_value : Int32} {f_word : Int64} {f_wrongAt : Int32} {f_laterFault : Int32} {f_laterPlace : Int32} {a_told : Nat → Int32} {a_read : Nat → Int32} {f_farHut : Int32} {f_farSinger : Int32} {f_good : Int32} {f_land : Int32} {f_huts : Int32} {f_singers : Int32} {f_evening : Int32} {a_at : Nat → Int32} {a_knows : Nat → Int32} {a_climbed : Nat → Int32} {a_snow : Nat → Int32} {a_level : Nat → Int32} {f_begun : Int32} {f_minute : Int32} {f_avalanches : Int32} {a_run : Nat → Int32} {a_covers : Nat → Int32} {a_routes : Nat → Int32} {a_longest : Nat → Int32} {a_steep : Nat → Int32} {a_laid : Nat → Int32} {a_far : Nat → Int32} {f_sight : Int32} {a_runs : Nat → Int32} {f_choir : Int32} {f_voices : Int32} {a_rest : Nat → Int64} {a_wins : Nat → Int32} {f_seed : Int32} {a_other : Nat → Int32} {a_kept : Nat → Int32} {post : (Nat → Int32) → Prop} {x2 : Int32} {x3 : Int32} {x4 : Int32} {ls : Array Slot} {H : Heap} {locs : List Loc}
    (zc : zC p s m args meth c cX11_store 5 RX11 none)
    (hK : zK E s)
    (hM : mW E q f_code a_tape a_size a_fault a_faultPlace a_many a_lands a_evenings a_sights a_choirs f_reached f_length f_begins f_sort f_value f_word f_wrongAt f_laterFault f_laterPlace a_told a_read f_farHut f_farSinger f_good f_land f_huts f_singers f_evening a_at a_knows a_climbed a_snow a_level f_begun f_minute f_avalanches a_run a_covers a_routes a_longest a_steep a_laid a_far f_sight a_runs f_choir f_voices a_rest a_wins f_seed a_other a_kept H)
    (hS : va_S (mA q) s.heap H locs)
    (hl : lv_has ls 5 [(0, .ref q), (1, .ref (q + 6)), (2, .int x2), (3, .int x3), (4, .int x4)])
    (hw : q_m_store_6_3 a_lands a_told x2 x3 x4 post) :
    W p l e rm_m_store_6 s m args below meth c H locs 0 0 (MQ below (zQv (S := (Nat → Int32)) (fun u => post u) (fun u H => mW E q f_code a_tape a_size a_fault a_faultPlace a_many u a_evenings a_sights a_choirs f_reached f_length f_begins f_sort f_value f_word f_wrongAt f_laterFault f_laterPlace a_told a_read f_farHut f_farSinger f_good f_land f_huts f_singers f_evening a_at a_knows a_climbed a_snow a_level f_begun f_minute f_avalanches a_run a_covers a_routes a_longest a_steep a_laid a_far f_sight a_runs f_choir f_voices a_rest a_wins f_seed a_other a_kept H) (mA q)) args s 0 0 (mA q)) (F0 m 3 ls []) := by
  have hx := zc.1
  have hb := zc.2.1
  refine hw (fun x4 a_lands => ∀ (H : Heap) (locs : List Loc) (ls : Array Slot), lv_has ls 5 [(0, .ref q), (1, .ref (q + 6)), (2, .int x2), (3, .int x3), (4, .int x4)] → mW E q f_code a_tape a_size a_fault a_faultPlace a_many a_lands a_evenings a_sights a_choirs f_reached f_length f_begins f_sort f_value f_word f_wrongAt f_laterFault f_laterPlace a_told a_read f_farHut f_farSinger f_good f_land f_huts f_singers f_evening a_at a_knows a_climbed a_snow a_level f_begun f_minute f_avalanches a_run a_covers a_routes a_longest a_steep a_laid a_far f_sight a_runs f_choir f_voices a_rest a_wins f_seed a_other a_kept H → va_S (mA q) s.heap H locs → W p l e rm_m_store_6 s m args below meth c H locs 0 0 (MQ below (zQv (S := (Nat → Int32)) (fun u => post u) (fun u H => mW E q f_code a_tape a_size a_fault a_faultPlace a_many u a_evenings a_sights a_choirs f_reached f_length f_begins f_sort f_value f_word f_wrongAt f_laterFault f_laterPlace a_told a_read f_farHut f_farSinger f_good f_land f_huts f_singers f_evening a_at a_knows a_climbed a_snow a_level f_begun f_minute f_avalanches a_run a_covers a_routes a_longest a_steep a_laid a_far f_sight a_runs f_choir f_voices a_rest a_wins f_seed a_other a_kept H) (mA q)) args s 0 0 (mA q)) (F0 m 3 ls [])) ?_ _ _ _ hl hM hS
  intro x4 a_lands hw H locs ls hl hM hS
  refine lv_iload hx hb dX11_store_3 (lv_at hl 4 rfl) ?_
  refine lv_iload_n hx hb dX11_store_5 rfl (lv_at hl 2 rfl) ?_
  refine lv_icmp_ge (tgt := 30) hx hb dX11_store_6 (by decide) (fun hc => ?_) (fun hc => ?_)
  · have hw := hw.1 hc
    exact zret_vw a_lands zc hS hw hM dX11_store_30
  · have hw := hw.2 hc
    refine lv_aload_n hx hb dX11_store_9 rfl (lv_at hl 1 rfl) ?_
    refine lv_iload_n hx hb dX11_store_10 rfl (lv_at hl 2 rfl) ?_
    refine lv_iload_n hx hb dX11_store_11 rfl (lv_at hl 3 rfl) ?_
    refine lv_imul hx hb dX11_store_12 ?_
    refine lv_iload hx hb dX11_store_13 (lv_at hl 4 rfl) ?_
    refine lv_iadd hx hb dX11_store_15 ?_
    refine lv_aload_n hx hb dX11_store_16 rfl (lv_at hl 0 rfl) ?_
    refine mg_11_38_0 zc hK hM dX11_store_17 ?_
    refine lv_iload hx hb dX11_store_20 (lv_at hl 4 rfl) ?_
    refine mld_10 zc hK hM hw.1 dX11_store_22 ?_
    have hw := hw.2
    refine lv_topi (fun v_1 ev_1 => ?_)
    have hw := hw v_1 ev_1
    refine mst_6 zc hK hM hS hw.1 dX11_store_23 (fun a_lands_1 H locs ea_lands_1 hM hS => ?_)
    have hw := hw.2 a_lands_1 ea_lands_1
    obtain ⟨v_2, ev_2⟩ : ∃ y : Int32, y = x4 + (1 : Int32) := ⟨_, rfl⟩
    have hw := hw v_2 ev_2
    refine lv_iinc (v := v_2) (k := 4) (lv' := [(4, .int v_2), (0, .ref q), (1, .ref (q + 6)), (2, .int x2), (3, .int x3)]) hx hb dX11_store_24 hl rfl (by rw [ev_2]; rfl) (by decide) rfl (fun ls hl => ?_)
    refine lv_goto (tgt := 3) hx hb dX11_store_27 (by decide) ?_
    exact hw _ _ _ (lv_sub hl [1, 2, 3, 4, 0] rfl) hM hS
set_option maxRecDepth 20000 in
theorem t_m_store_6_0 {p : Program} {l : Launch} {e : Env} {s : State} {m : MethodId} {args : Array Value} {below : List Frame} {meth : Method} {c : Code} {E : zE} {q : Nat} {f_code : Int32} {a_tape : Nat → Int32} {a_size : Nat → Int32} {a_fault : Nat → Int32} {a_faultPlace : Nat → Int32} {a_many : Nat → Int32} {a_lands : Nat → Int32} {a_evenings : Nat → Int32} {a_sights : Nat → Int32} {a_choirs : Nat → Int32} {f_reached : Int32} {f_length : Int32} {f_begins : Int32} {f_sort : Int32} {f_value : Int32} {f_word : Int64} {f_wrongAt : Int32} {f_laterFault : Int32} {f_laterPlace : Int32} {a_told : Nat → Int32} {a_read : Nat → Int32} {f_farHut : Int32} {f_farSinger : Int32} {f_good : Int32} {f_land : Int32} {f_huts : Int32} {f_singers : Int32} {f_evening : Int32} {a_at : Nat → Int32} {a_knows : Nat → Int32} {a_climbed : Nat → Int32} {a_snow : Nat → Int32} {a_level : Nat → Int32} {f_begun : Int32} {f_minute : Int32} {f_avalanches : Int32} {a_run : Nat → Int32} {a_covers : Nat → Int32} {a_routes : Nat → Int32} {a_longest : Nat → Int32} {a_steep : Nat → Int32} {a_laid : Nat → Int32} {a_far : Nat → Int32} {f_sight : Int32} {a_runs : Nat → Int32} {f_choir : Int32} {f_voices : Int32} {a_rest : Nat → Int64} {a_wins : Nat → Int32} {f_seed : Int32} {a_other : Nat → Int32} {a_kept : Nat → Int32} {post : (Nat → Int32) → Prop} {x2 : Int32} {x3 : Int32} {ls : Array Slot} {H : Heap} {locs : List Loc}
    (zc : zC p s m args meth c cX11_store 5 RX11 none)
    (hK : zK E s)
    (hM : mW E q f_code a_tape a_size a_fault a_faultPlace a_many a_lands a_evenings a_sights a_choirs f_reached f_length f_begins f_sort f_value f_word f_wrongAt f_laterFault f_laterPlace a_told a_read f_farHut f_farSinger f_good f_land f_huts f_singers f_evening a_at a_knows a_climbed a_snow a_level f_begun f_minute f_avalanches a_run a_covers a_routes a_longest a_steep a_laid a_far f_sight a_runs f_choir f_voices a_rest a_wins f_seed a_other a_kept H)
    (hS : va_S (mA q) s.heap H locs)
    (hl : lv_has ls 5 [(0, .ref q), (1, .ref (q + 6)), (2, .int x2), (3, .int x3)])
    (hw : q_m_store_6_0 a_lands a_told x2 x3 post) :
    W p l e rm_m_store_6 s m args below meth c H locs 0 0 (MQ below (zQv (S := (Nat → Int32)) (fun u => post u) (fun u H => mW E q f_code a_tape a_size a_fault a_faultPlace a_many u a_evenings a_sights a_choirs f_reached f_length f_begins f_sort f_value f_word f_wrongAt f_laterFault f_laterPlace a_told a_read f_farHut f_farSinger f_good f_land f_huts f_singers f_evening a_at a_knows a_climbed a_snow a_level f_begun f_minute f_avalanches a_run a_covers a_routes a_longest a_steep a_laid a_far f_sight a_runs f_choir f_voices a_rest a_wins f_seed a_other a_kept H) (mA q)) args s 0 0 (mA q)) (F0 m 0 ls []) := by
  have hx := zc.1
  have hb := zc.2.1
  refine lv_iconst (v := (0 : Int32)) hx hb dX11_store_0 (by decide) ?_
  refine lv_istore (lv' := [(4, .int (0 : Int32)), (0, .ref q), (1, .ref (q + 6)), (2, .int x2), (3, .int x3)]) hx hb dX11_store_1 hl (by decide) rfl (fun ls hl => ?_)
  exact t_m_store_6_3 zc hK hM hS  (lv_sub hl [1, 2, 3, 4, 0] rfl) hw
set_option maxRecDepth 20000 in
theorem c_m_store_6 (l : Launch) {E : zE} {q : Nat} {f_code : Int32} {a_tape : Nat → Int32} {a_size : Nat → Int32} {a_fault : Nat → Int32} {a_faultPlace : Nat → Int32} {a_many : Nat → Int32} {a_lands : Nat → Int32} {a_evenings : Nat → Int32} {a_sights : Nat → Int32} {a_choirs : Nat → Int32} {f_reached : Int32} {f_length : Int32} {f_begins : Int32} {f_sort : Int32} {f_value : Int32} {f_word : Int64} {f_wrongAt : Int32} {f_laterFault : Int32} {f_laterPlace : Int32} {a_told : Nat → Int32} {a_read : Nat → Int32} {f_farHut : Int32} {f_farSinger : Int32} {f_good : Int32} {f_land : Int32} {f_huts : Int32} {f_singers : Int32} {f_evening : Int32} {a_at : Nat → Int32} {a_knows : Nat → Int32} {a_climbed : Nat → Int32} {a_snow : Nat → Int32} {a_level : Nat → Int32} {f_begun : Int32} {f_minute : Int32} {f_avalanches : Int32} {a_run : Nat → Int32} {a_covers : Nat → Int32} {a_routes : Nat → Int32} {a_longest : Nat → Int32} {a_steep : Nat → Int32} {a_laid : Nat → Int32} {a_far : Nat → Int32} {f_sight : Int32} {a_runs : Nat → Int32} {f_choir : Int32} {f_voices : Int32} {a_rest : Nat → Int64} {a_wins : Nat → Int32} {f_seed : Int32} {a_other : Nat → Int32} {a_kept : Nat → Int32} {x2 : Int32} {x3 : Int32} {post : (Nat → Int32) → Prop} (hw : q_m_store_6_0 a_lands a_told x2 x3 post) : Met l yX11_store (Cond.code yX11_store cX11_store 5 none :: zb) rm_m_store_6 (va_Pc [.ref q, .ref (q + 6), .int x2, .int x3] (fun U => mW E q f_code a_tape a_size a_fault a_faultPlace a_many a_lands a_evenings a_sights a_choirs f_reached f_length f_begins f_sort f_value f_word f_wrongAt f_laterFault f_laterPlace a_told a_read f_farHut f_farSinger f_good f_land f_huts f_singers f_evening a_at a_knows a_climbed a_snow a_level f_begun f_minute f_avalanches a_run a_covers a_routes a_longest a_steep a_laid a_far f_sight a_runs f_choir f_voices a_rest a_wins f_seed a_other a_kept U.heap ∧ zK E U)) (zQv (S := (Nat → Int32)) (fun u => post u) (fun u H => mW E q f_code a_tape a_size a_fault a_faultPlace a_many u a_evenings a_sights a_choirs f_reached f_length f_begins f_sort f_value f_word f_wrongAt f_laterFault f_laterPlace a_told a_read f_farHut f_farSinger f_good f_land f_huts f_singers f_evening a_at a_knows a_climbed a_snow a_level f_begun f_minute f_avalanches a_run a_covers a_routes a_longest a_steep a_laid a_far f_sight a_runs f_choir f_voices a_rest a_wins f_seed a_other a_kept H) (mA q)) 0 0 (mA q) := by
  refine Met.ofW (cc := cX11_store) (maxL := 5) (ret := none) (by decide) rfl ?_
  intro p e s m args below meth c s₁ B hml hv
  obtain ⟨rfl, hM, hK⟩ := hv
  have zc := zc_of B hml
  have hl := lv_entry ([.ref q, .ref (q + 6), .int x2, .int x3]) (n := 5) (Nat.le_of_ble_eq_true rfl)
  rw [lg_entry_eq]
  generalize (lg_sl ([.ref q, .ref (q + 6), .int x2, .int x3]) ++ List.replicate (5 - (lg_sl ([.ref q, .ref (q + 6), .int x2, .int x3])).length) Slot.unset).toArray = ls at hl ⊢
  have hl : lv_has ls 5 [(0, .ref q), (1, .ref (q + 6)), (2, .int x2), (3, .int x3)] := hl
  exact t_m_store_6_0 zc hK hM va_S.rf (lv_sub hl [0, 1, 2, 3] rfl) hw
-- m_storeAll
abbrev rm_m_storeAll : Room := { frames := 1, cells := 0, slots := 0, locals := 24 }
def q_m_storeAll_0 (a_lands : Nat → Int32) (a_evenings : Nat → Int32) (a_sights : Nat → Int32) (a_choirs : Nat → Int32) (a_told : Nat → Int32) (x1 : Int32) (x2 : Int32) (post : (Nat → Int32) → (Nat → Int32) → (Nat → Int32) → (Nat → Int32) → Prop) : Prop :=
  (x1.toInt < 0 ∨ 2 < x1.toInt → (q_m_store_9_0 a_choirs a_told (20 : Int32) x2 (fun a_choirs_1 => post a_lands a_evenings a_sights a_choirs_1))) ∧ (x1 = (0 : Int32) → (q_m_store_6_0 a_lands a_told (132 : Int32) x2 (fun a_lands_1 => post a_lands_1 a_evenings a_sights a_choirs))) ∧ (x1 = (1 : Int32) → (q_m_store_7_0 a_evenings a_told (121 : Int32) x2 (fun a_evenings_1 => post a_lands a_evenings_1 a_sights a_choirs))) ∧ (x1 = (2 : Int32) → (q_m_store_8_0 a_sights a_told (31 : Int32) x2 (fun a_sights_1 => post a_lands a_evenings a_sights_1 a_choirs)))
set_option maxRecDepth 20000 in
theorem t_m_storeAll_0 {p : Program} {l : Launch} {e : Env} {s : State} {m : MethodId} {args : Array Value} {below : List Frame} {meth : Method} {c : Code} {E : zE} {q : Nat} {f_code : Int32} {a_tape : Nat → Int32} {a_size : Nat → Int32} {a_fault : Nat → Int32} {a_faultPlace : Nat → Int32} {a_many : Nat → Int32} {a_lands : Nat → Int32} {a_evenings : Nat → Int32} {a_sights : Nat → Int32} {a_choirs : Nat → Int32} {f_reached : Int32} {f_length : Int32} {f_begins : Int32} {f_sort : Int32} {f_value : Int32} {f_word : Int64} {f_wrongAt : Int32} {f_laterFault : Int32} {f_laterPlace : Int32} {a_told : Nat → Int32} {a_read : Nat → Int32} {f_farHut : Int32} {f_farSinger : Int32} {f_good : Int32} {f_land : Int32} {f_huts : Int32} {f_singers : Int32} {f_evening : Int32} {a_at : Nat → Int32} {a_knows : Nat → Int32} {a_climbed : Nat → Int32} {a_snow : Nat → Int32} {a_level : Nat → Int32} {f_begun : Int32} {f_minute : Int32} {f_avalanches : Int32} {a_run : Nat → Int32} {a_covers : Nat → Int32} {a_routes : Nat → Int32} {a_longest : Nat → Int32} {a_steep : Nat → Int32} {a_laid : Nat → Int32} {a_far : Nat → Int32} {f_sight : Int32} {a_runs : Nat → Int32} {f_choir : Int32} {f_voices : Int32} {a_rest : Nat → Int64} {a_wins : Nat → Int32} {f_seed : Int32} {a_other : Nat → Int32} {a_kept : Nat → Int32} {post : (Nat → Int32) → (Nat → Int32) → (Nat → Int32) → (Nat → Int32) → Prop} {x1 : Int32} {x2 : Int32} {ls : Array Slot} {H : Heap} {locs : List Loc}
    (zc : zC p s m args meth c cX11_storeAll 3 RX11 none)
    (hK : zK E s)
    (hM : mW E q f_code a_tape a_size a_fault a_faultPlace a_many a_lands a_evenings a_sights a_choirs f_reached f_length f_begins f_sort f_value f_word f_wrongAt f_laterFault f_laterPlace a_told a_read f_farHut f_farSinger f_good f_land f_huts f_singers f_evening a_at a_knows a_climbed a_snow a_level f_begun f_minute f_avalanches a_run a_covers a_routes a_longest a_steep a_laid a_far f_sight a_runs f_choir f_voices a_rest a_wins f_seed a_other a_kept H)
    (hS : va_S (mA q) s.heap H locs)
    (hl : lv_has ls 3 [(0, .ref q), (1, .int x1), (2, .int x2)])
    (hw : q_m_storeAll_0 a_lands a_evenings a_sights a_choirs a_told x1 x2 post) :
    W p l e rm_m_storeAll s m args below meth c H locs 0 0 (MQ below (zQv (S := (Nat → Int32) × (Nat → Int32) × (Nat → Int32) × (Nat → Int32)) (fun u => post u.1 u.2.1 u.2.2.1 u.2.2.2) (fun u H => mW E q f_code a_tape a_size a_fault a_faultPlace a_many u.1 u.2.1 u.2.2.1 u.2.2.2 f_reached f_length f_begins f_sort f_value f_word f_wrongAt f_laterFault f_laterPlace a_told a_read f_farHut f_farSinger f_good f_land f_huts f_singers f_evening a_at a_knows a_climbed a_snow a_level f_begun f_minute f_avalanches a_run a_covers a_routes a_longest a_steep a_laid a_far f_sight a_runs f_choir f_voices a_rest a_wins f_seed a_other a_kept H) (mA q)) args s 0 0 (mA q)) (F0 m 0 ls []) := by
  have hx := zc.1
  have hb := zc.2.1
  refine lv_iload_n hx hb dX11_storeAll_0 rfl (lv_at hl 1 rfl) ?_
  by_cases hc : x1.toInt < 0 ∨ 2 < x1.toInt
  · have hw := hw.1 hc
    refine lv_tableOut (tgt := 65) hx hb dX11_storeAll_1 hc (by decide) ?_
    refine lv_aload_n hx hb dX11_storeAll_65 rfl (lv_at hl 0 rfl) ?_
    refine lv_aload_n hx hb dX11_storeAll_66 rfl (lv_at hl 0 rfl) ?_
    refine mg_11_35_0 zc hK hM dX11_storeAll_67 ?_
    refine lv_bipush (v := (20 : Int32)) hx hb dX11_storeAll_70 (by decide) ?_
    refine lv_iload_n hx hb dX11_storeAll_72 rfl (lv_at hl 2 rfl) ?_
    refine zVw_v [.ref (q + 9), .int (20 : Int32), .int x2] [] zc ky_X11_store kz_X11_store km_11_287 (c_m_store_9 l hw) (mPreV0 hK hM) hS rfl rfl hl.1 (Nat.le_of_ble_eq_true rfl) ⟨rfl, rfl⟩ ⟨Nat.le_of_ble_eq_true rfl, Nat.le_of_ble_eq_true rfl⟩ ⟨(Nat.zero_le _), (Nat.zero_le _)⟩ dX11_storeAll_73 (fun a_choirs_1 H locs hw hM hS => ?_)
    exact zret_vw ⟨a_lands, a_evenings, a_sights, a_choirs_1⟩ zc hS hw hM dX11_storeAll_76
  have hin := zsw hc
  by_cases hc0 : x1 = (0 : Int32)
  · have hw := hw.2.1 hc0
    refine lv_tableIn (tgt := 28) hx hb dX11_storeAll_1 (by rw [hc0]; decide) (by rw [hc0]; decide) (by rw [hc0]; rfl) (by decide) ?_
    refine lv_aload_n hx hb dX11_storeAll_28 rfl (lv_at hl 0 rfl) ?_
    refine lv_aload_n hx hb dX11_storeAll_29 rfl (lv_at hl 0 rfl) ?_
    refine mg_11_26_0 zc hK hM dX11_storeAll_30 ?_
    refine lv_sipush (v := (132 : Int32)) hx hb dX11_storeAll_33 (by decide) ?_
    refine lv_iload_n hx hb dX11_storeAll_36 rfl (lv_at hl 2 rfl) ?_
    refine zVw_v [.ref (q + 6), .int (132 : Int32), .int x2] [] zc ky_X11_store kz_X11_store km_11_287 (c_m_store_6 l hw) (mPreV0 hK hM) hS rfl rfl hl.1 (Nat.le_of_ble_eq_true rfl) ⟨rfl, rfl⟩ ⟨Nat.le_of_ble_eq_true rfl, Nat.le_of_ble_eq_true rfl⟩ ⟨(Nat.zero_le _), (Nat.zero_le _)⟩ dX11_storeAll_37 (fun a_lands_1 H locs hw hM hS => ?_)
    exact zret_vw ⟨a_lands_1, a_evenings, a_sights, a_choirs⟩ zc hS hw hM dX11_storeAll_40
  by_cases hc1 : x1 = (1 : Int32)
  · have hw := hw.2.2.1 hc1
    refine lv_tableIn (tgt := 41) hx hb dX11_storeAll_1 (by rw [hc1]; decide) (by rw [hc1]; decide) (by rw [hc1]; rfl) (by decide) ?_
    refine lv_aload_n hx hb dX11_storeAll_41 rfl (lv_at hl 0 rfl) ?_
    refine lv_aload_n hx hb dX11_storeAll_42 rfl (lv_at hl 0 rfl) ?_
    refine mg_11_29_0 zc hK hM dX11_storeAll_43 ?_
    refine lv_bipush (v := (121 : Int32)) hx hb dX11_storeAll_46 (by decide) ?_
    refine lv_iload_n hx hb dX11_storeAll_48 rfl (lv_at hl 2 rfl) ?_
    refine zVw_v [.ref (q + 7), .int (121 : Int32), .int x2] [] zc ky_X11_store kz_X11_store km_11_287 (c_m_store_7 l hw) (mPreV0 hK hM) hS rfl rfl hl.1 (Nat.le_of_ble_eq_true rfl) ⟨rfl, rfl⟩ ⟨Nat.le_of_ble_eq_true rfl, Nat.le_of_ble_eq_true rfl⟩ ⟨(Nat.zero_le _), (Nat.zero_le _)⟩ dX11_storeAll_49 (fun a_evenings_1 H locs hw hM hS => ?_)
    exact zret_vw ⟨a_lands, a_evenings_1, a_sights, a_choirs⟩ zc hS hw hM dX11_storeAll_52
  by_cases hc2 : x1 = (2 : Int32)
  · have hw := hw.2.2.2 hc2
    refine lv_tableIn (tgt := 53) hx hb dX11_storeAll_1 (by rw [hc2]; decide) (by rw [hc2]; decide) (by rw [hc2]; rfl) (by decide) ?_
    refine lv_aload_n hx hb dX11_storeAll_53 rfl (lv_at hl 0 rfl) ?_
    refine lv_aload_n hx hb dX11_storeAll_54 rfl (lv_at hl 0 rfl) ?_
    refine mg_11_32_0 zc hK hM dX11_storeAll_55 ?_
    refine lv_bipush (v := (31 : Int32)) hx hb dX11_storeAll_58 (by decide) ?_
    refine lv_iload_n hx hb dX11_storeAll_60 rfl (lv_at hl 2 rfl) ?_
    refine zVw_v [.ref (q + 8), .int (31 : Int32), .int x2] [] zc ky_X11_store kz_X11_store km_11_287 (c_m_store_8 l hw) (mPreV0 hK hM) hS rfl rfl hl.1 (Nat.le_of_ble_eq_true rfl) ⟨rfl, rfl⟩ ⟨Nat.le_of_ble_eq_true rfl, Nat.le_of_ble_eq_true rfl⟩ ⟨(Nat.zero_le _), (Nat.zero_le _)⟩ dX11_storeAll_61 (fun a_sights_1 H locs hw hM hS => ?_)
    exact zret_vw ⟨a_lands, a_evenings, a_sights_1, a_choirs⟩ zc hS hw hM dX11_storeAll_64
  exact absurd hin (by have h0 := zne hc0; have h1 := zne hc1; have h2 := zne hc2; simp at *; omega)
set_option maxRecDepth 20000 in
theorem c_m_storeAll (l : Launch) {E : zE} {q : Nat} {f_code : Int32} {a_tape : Nat → Int32} {a_size : Nat → Int32} {a_fault : Nat → Int32} {a_faultPlace : Nat → Int32} {a_many : Nat → Int32} {a_lands : Nat → Int32} {a_evenings : Nat → Int32} {a_sights : Nat → Int32} {a_choirs : Nat → Int32} {f_reached : Int32} {f_length : Int32} {f_begins : Int32} {f_sort : Int32} {f_value : Int32} {f_word : Int64} {f_wrongAt : Int32} {f_laterFault : Int32} {f_laterPlace : Int32} {a_told : Nat → Int32} {a_read : Nat → Int32} {f_farHut : Int32} {f_farSinger : Int32} {f_good : Int32} {f_land : Int32} {f_huts : Int32} {f_singers : Int32} {f_evening : Int32} {a_at : Nat → Int32} {a_knows : Nat → Int32} {a_climbed : Nat → Int32} {a_snow : Nat → Int32} {a_level : Nat → Int32} {f_begun : Int32} {f_minute : Int32} {f_avalanches : Int32} {a_run : Nat → Int32} {a_covers : Nat → Int32} {a_routes : Nat → Int32} {a_longest : Nat → Int32} {a_steep : Nat → Int32} {a_laid : Nat → Int32} {a_far : Nat → Int32} {f_sight : Int32} {a_runs : Nat → Int32} {f_choir : Int32} {f_voices : Int32} {a_rest : Nat → Int64} {a_wins : Nat → Int32} {f_seed : Int32} {a_other : Nat → Int32} {a_kept : Nat → Int32} {x1 : Int32} {x2 : Int32} {post : (Nat → Int32) → (Nat → Int32) → (Nat → Int32) → (Nat → Int32) → Prop} (hw : q_m_storeAll_0 a_lands a_evenings a_sights a_choirs a_told x1 x2 post) : Met l yX11_storeAll (Cond.code yX11_storeAll cX11_storeAll 3 none :: zb) rm_m_storeAll (va_Pc [.ref q, .int x1, .int x2] (fun U => mW E q f_code a_tape a_size a_fault a_faultPlace a_many a_lands a_evenings a_sights a_choirs f_reached f_length f_begins f_sort f_value f_word f_wrongAt f_laterFault f_laterPlace a_told a_read f_farHut f_farSinger f_good f_land f_huts f_singers f_evening a_at a_knows a_climbed a_snow a_level f_begun f_minute f_avalanches a_run a_covers a_routes a_longest a_steep a_laid a_far f_sight a_runs f_choir f_voices a_rest a_wins f_seed a_other a_kept U.heap ∧ zK E U)) (zQv (S := (Nat → Int32) × (Nat → Int32) × (Nat → Int32) × (Nat → Int32)) (fun u => post u.1 u.2.1 u.2.2.1 u.2.2.2) (fun u H => mW E q f_code a_tape a_size a_fault a_faultPlace a_many u.1 u.2.1 u.2.2.1 u.2.2.2 f_reached f_length f_begins f_sort f_value f_word f_wrongAt f_laterFault f_laterPlace a_told a_read f_farHut f_farSinger f_good f_land f_huts f_singers f_evening a_at a_knows a_climbed a_snow a_level f_begun f_minute f_avalanches a_run a_covers a_routes a_longest a_steep a_laid a_far f_sight a_runs f_choir f_voices a_rest a_wins f_seed a_other a_kept H) (mA q)) 0 0 (mA q) := by
  refine Met.ofW (cc := cX11_storeAll) (maxL := 3) (ret := none) (by decide) rfl ?_
  intro p e s m args below meth c s₁ B hml hv
  obtain ⟨rfl, hM, hK⟩ := hv
  have zc := zc_of B hml
  have hl := lv_entry ([.ref q, .int x1, .int x2]) (n := 3) (Nat.le_of_ble_eq_true rfl)
  rw [lg_entry_eq]
  generalize (lg_sl ([.ref q, .int x1, .int x2]) ++ List.replicate (3 - (lg_sl ([.ref q, .int x1, .int x2])).length) Slot.unset).toArray = ls at hl ⊢
  have hl : lv_has ls 3 [(0, .ref q), (1, .int x1), (2, .int x2)] := hl
  exact t_m_storeAll_0 zc hK hM va_S.rf (lv_sub hl [0, 1, 2] rfl) hw
-- m_text
abbrev rm_m_text : Room := { frames := 9, cells := 0, slots := 0, locals := 206 }
def q_m_text_118 (f_code : Int32) (a_tape : Nat → Int32) (a_size : Nat → Int32) (a_fault : Nat → Int32) (a_faultPlace : Nat → Int32) (a_many : Nat → Int32) (a_lands : Nat → Int32) (a_evenings : Nat → Int32) (a_sights : Nat → Int32) (a_choirs : Nat → Int32) (f_reached : Int32) (f_length : Int32) (f_begins : Int32) (f_sort : Int32) (f_value : Int32) (f_word : Int64) (f_wrongAt : Int32) (f_laterFault : Int32) (f_laterPlace : Int32) (a_told : Nat → Int32) (a_read : Nat → Int32) (f_farHut : Int32) (f_farSinger : Int32) (f_good : Int32) (x1 : Int32) (x3 : Int32) (y0 : Int32) (y1 : Int32) (y2 : Int32) (post : Int32 → (Int32) → (Nat → Int32) → (Nat → Int32) → (Nat → Int32) → (Nat → Int32) → (Nat → Int32) → (Nat → Int32) → (Nat → Int32) → (Nat → Int32) → (Int32) → (Int32) → (Int32) → (Int32) → (Int32) → (Int64) → (Int32) → (Int32) → (Int32) → (Nat → Int32) → (Nat → Int32) → (Int32) → (Int32) → (Int32) → Prop) : Prop :=
  ∀ v_1 : Int32, v_1 = (y1 + y2) → (vp_in y0 16 ∧ (∀ a_many_1 : Nat → Int32, a_many_1 = upd a_many (Int32.toNatClampNeg y0) v_1 → (q_m_storeAll_0 a_lands a_evenings a_sights a_choirs a_told x1 x3 (fun a_lands_1 a_evenings_1 a_sights_1 a_choirs_1 => post x3 f_code a_size a_fault a_faultPlace a_many_1 a_lands_1 a_evenings_1 a_sights_1 a_choirs_1 f_reached f_length f_begins f_sort f_value f_word f_wrongAt f_laterFault f_laterPlace a_told a_read f_farHut f_farSinger f_good))))
def q_m_text_100 (f_code : Int32) (a_tape : Nat → Int32) (a_size : Nat → Int32) (a_fault : Nat → Int32) (a_faultPlace : Nat → Int32) (a_many : Nat → Int32) (a_lands : Nat → Int32) (a_evenings : Nat → Int32) (a_sights : Nat → Int32) (a_choirs : Nat → Int32) (f_reached : Int32) (f_length : Int32) (f_begins : Int32) (f_sort : Int32) (f_value : Int32) (f_word : Int64) (f_wrongAt : Int32) (f_laterFault : Int32) (f_laterPlace : Int32) (a_told : Nat → Int32) (a_read : Nat → Int32) (f_farHut : Int32) (f_farSinger : Int32) (f_good : Int32) (x1 : Int32) (x2 : Int32) (y0 : Int32) (post : Int32 → (Int32) → (Nat → Int32) → (Nat → Int32) → (Nat → Int32) → (Nat → Int32) → (Nat → Int32) → (Nat → Int32) → (Nat → Int32) → (Nat → Int32) → (Int32) → (Int32) → (Int32) → (Int32) → (Int32) → (Int64) → (Int32) → (Int32) → (Int32) → (Nat → Int32) → (Nat → Int32) → (Int32) → (Int32) → (Int32) → Prop) : Prop :=
  vp_in x1 16 ∧ ((¬ x2 = (-1 : Int32) → (q_m_text_118 f_code a_tape a_size a_fault a_faultPlace a_many a_lands a_evenings a_sights a_choirs f_reached f_length f_begins f_sort f_value f_word f_wrongAt f_laterFault f_laterPlace a_told a_read f_farHut f_farSinger f_good x1 y0 x1 (a_many (Int32.toNatClampNeg x1)) (0 : Int32) post)) ∧ (x2 = (-1 : Int32) → (q_m_text_118 f_code a_tape a_size a_fault a_faultPlace a_many a_lands a_evenings a_sights a_choirs f_reached f_length f_begins f_sort f_value f_word f_wrongAt f_laterFault f_laterPlace a_told a_read f_farHut f_farSinger f_good x1 y0 x1 (a_many (Int32.toNatClampNeg x1)) (1 : Int32) post)))
def q_m_text_75 (f_code : Int32) (a_tape : Nat → Int32) (a_size : Nat → Int32) (a_fault : Nat → Int32) (a_faultPlace : Nat → Int32) (a_many : Nat → Int32) (a_lands : Nat → Int32) (a_evenings : Nat → Int32) (a_sights : Nat → Int32) (a_choirs : Nat → Int32) (f_reached : Int32) (f_length : Int32) (f_begins : Int32) (f_sort : Int32) (f_value : Int32) (f_word : Int64) (f_wrongAt : Int32) (f_laterFault : Int32) (f_laterPlace : Int32) (a_told : Nat → Int32) (a_read : Nat → Int32) (f_farHut : Int32) (f_farSinger : Int32) (f_good : Int32) (x1 : Int32) (x2 : Int32) (post : Int32 → (Int32) → (Nat → Int32) → (Nat → Int32) → (Nat → Int32) → (Nat → Int32) → (Nat → Int32) → (Nat → Int32) → (Nat → Int32) → (Nat → Int32) → (Int32) → (Int32) → (Int32) → (Int32) → (Int32) → (Int64) → (Int32) → (Int32) → (Int32) → (Nat → Int32) → (Nat → Int32) → (Int32) → (Int32) → (Int32) → Prop) : Prop :=
  q_m_readText_0 a_tape a_fault a_faultPlace f_reached f_length f_begins f_sort f_value f_word f_wrongAt f_laterFault f_laterPlace a_told a_read f_farHut f_farSinger f_good x1 (fun r_1 a_fault_1 a_faultPlace_1 f_reached_1 f_begins_1 f_sort_1 f_value_1 f_word_1 f_wrongAt_1 f_laterFault_1 f_laterPlace_1 a_told_1 a_read_1 f_farHut_1 f_farSinger_1 f_good_1 => (¬ r_1 = 0 → ((¬ x2 = (-1 : Int32) → (q_m_text_100 f_code a_tape a_size a_fault_1 a_faultPlace_1 a_many a_lands a_evenings a_sights a_choirs f_reached_1 f_length f_begins_1 f_sort_1 f_value_1 f_word_1 f_wrongAt_1 f_laterFault_1 f_laterPlace_1 a_told_1 a_read_1 f_farHut_1 f_farSinger_1 f_good_1 x1 x2 x2 post)) ∧ (x2 = (-1 : Int32) → (vp_in x1 16 ∧ (q_m_text_100 f_code a_tape a_size a_fault_1 a_faultPlace_1 a_many a_lands a_evenings a_sights a_choirs f_reached_1 f_length f_begins_1 f_sort_1 f_value_1 f_word_1 f_wrongAt_1 f_laterFault_1 f_laterPlace_1 a_told_1 a_read_1 f_farHut_1 f_farSinger_1 f_good_1 x1 x2 (a_many (Int32.toNatClampNeg x1)) post))))) ∧ (r_1 = 0 → (post (-1 : Int32) f_code a_size a_fault_1 a_faultPlace_1 a_many a_lands a_evenings a_sights a_choirs f_reached_1 f_length f_begins_1 f_sort_1 f_value_1 f_word_1 f_wrongAt_1 f_laterFault_1 f_laterPlace_1 a_told_1 a_read_1 f_farHut_1 f_farSinger_1 f_good_1)))
def q_m_text_0 (f_code : Int32) (a_tape : Nat → Int32) (a_size : Nat → Int32) (a_fault : Nat → Int32) (a_faultPlace : Nat → Int32) (a_many : Nat → Int32) (a_lands : Nat → Int32) (a_evenings : Nat → Int32) (a_sights : Nat → Int32) (a_choirs : Nat → Int32) (f_reached : Int32) (f_length : Int32) (f_begins : Int32) (f_sort : Int32) (f_value : Int32) (f_word : Int64) (f_wrongAt : Int32) (f_laterFault : Int32) (f_laterPlace : Int32) (a_told : Nat → Int32) (a_read : Nat → Int32) (f_farHut : Int32) (f_farSinger : Int32) (f_good : Int32) (x1 : Int32) (x2 : Int32) (post : Int32 → (Int32) → (Nat → Int32) → (Nat → Int32) → (Nat → Int32) → (Nat → Int32) → (Nat → Int32) → (Nat → Int32) → (Nat → Int32) → (Nat → Int32) → (Int32) → (Int32) → (Int32) → (Int32) → (Int32) → (Int64) → (Int32) → (Int32) → (Int32) → (Nat → Int32) → (Nat → Int32) → (Int32) → (Int32) → (Int32) → Prop) : Prop :=
  ∀ v_1 : Int32, v_1 = (a_size (Int32.toNatClampNeg (0 : Int32))) → (∀ a_size_1 : Nat → Int32, a_size_1 = upd a_size (Int32.toNatClampNeg (0 : Int32)) (0 : Int32) → (∀ a_fault_1 : Nat → Int32, a_fault_1 = upd a_fault (Int32.toNatClampNeg (0 : Int32)) (0 : Int32) → (∀ a_faultPlace_1 : Nat → Int32, a_faultPlace_1 = upd a_faultPlace (Int32.toNatClampNeg (0 : Int32)) (-1 : Int32) → (q_m_in_0 x1 (0 : Int32) (3 : Int32) (fun r_1 => (r_1 = 0 → (post (-2 : Int32) (0 : Int32) a_size_1 a_fault_1 a_faultPlace_1 a_many a_lands a_evenings a_sights a_choirs f_reached v_1 f_begins f_sort f_value f_word f_wrongAt f_laterFault f_laterPlace a_told a_read f_farHut f_farSinger f_good)) ∧ (¬ r_1 = 0 → ((¬ x2 = (-1 : Int32) → (q_m_is_0 a_many x1 x2 (fun r_2 => (¬ r_2 = 0 → (q_m_text_75 (0 : Int32) a_tape a_size_1 a_fault_1 a_faultPlace_1 a_many a_lands a_evenings a_sights a_choirs f_reached v_1 f_begins f_sort f_value f_word f_wrongAt f_laterFault f_laterPlace a_told a_read f_farHut f_farSinger f_good x1 x2 post)) ∧ (r_2 = 0 → (post (-2 : Int32) (0 : Int32) a_size_1 a_fault_1 a_faultPlace_1 a_many a_lands a_evenings a_sights a_choirs f_reached v_1 f_begins f_sort f_value f_word f_wrongAt f_laterFault f_laterPlace a_told a_read f_farHut f_farSinger f_good))))) ∧ (x2 = (-1 : Int32) → (vp_in x1 16 ∧ ((¬ (a_many (Int32.toNatClampNeg x1)) = (2 : Int32) → (q_m_text_75 (0 : Int32) a_tape a_size_1 a_fault_1 a_faultPlace_1 a_many a_lands a_evenings a_sights a_choirs f_reached v_1 f_begins f_sort f_value f_word f_wrongAt f_laterFault f_laterPlace a_told a_read f_farHut f_farSinger f_good x1 x2 post)) ∧ ((a_many (Int32.toNatClampNeg x1)) = (2 : Int32) → (post (-2 : Int32) (0 : Int32) a_size_1 a_fault_1 a_faultPlace_1 a_many a_lands a_evenings a_sights a_choirs f_reached v_1 f_begins f_sort f_value f_word f_wrongAt f_laterFault f_laterPlace a_told a_read f_farHut f_farSinger f_good))))))))))))
set_option maxRecDepth 20000 in
theorem t_m_text_118 {p : Program} {l : Launch} {e : Env} {s : State} {m : MethodId} {args : Array Value} {below : List Frame} {meth : Method} {c : Code} {E : zE} {q : Nat} {f_code : Int32} {a_tape : Nat → Int32} {a_size : Nat → Int32} {a_fault : Nat → Int32} {a_faultPlace : Nat → Int32} {a_many : Nat → Int32} {a_lands : Nat → Int32} {a_evenings : Nat → Int32} {a_sights : Nat → Int32} {a_choirs : Nat → Int32} {f_reached : Int32} {f_length : Int32} {f_begins : Int32} {f_sort : Int32} {f_value : Int32} {f_word : Int64} {f_wrongAt : Int32} {f_laterFault : Int32} {f_laterPlace : Int32} {a_told : Nat → Int32} {a_read : Nat → Int32} {f_farHut : Int32} {f_farSinger : Int32} {f_good : Int32} {f_land : Int32} {f_huts : Int32} {f_singers : Int32} {f_evening : Int32} {a_at : Nat → Int32} {a_knows : Nat → Int32} {a_climbed : Nat → Int32} {a_snow : Nat → Int32} {a_level : Nat → Int32} {f_begun : Int32} {f_minute : Int32} {f_avalanches : Int32} {a_run : Nat → Int32} {a_covers : Nat → Int32} {a_routes : Nat → Int32} {a_longest : Nat → Int32} {a_steep : Nat → Int32} {a_laid : Nat → Int32} {a_far : Nat → Int32} {f_sight : Int32} {a_runs : Nat → Int32} {f_choir : Int32} {f_voices : Int32} {a_rest : Nat → Int64} {a_wins : Nat → Int32} {f_seed : Int32} {a_other : Nat → Int32} {a_kept : Nat → Int32} {post : Int32 → (Int32) → (Nat → Int32) → (Nat → Int32) → (Nat → Int32) → (Nat → Int32) → (Nat → Int32) → (Nat → Int32) → (Nat → Int32) → (Nat → Int32) → (Int32) → (Int32) → (Int32) → (Int32) → (Int32) → (Int64) → (Int32) → (Int32) → (Int32) → (Nat → Int32) → (Nat → Int32) → (Int32) → (Int32) → (Int32) → Prop} {x1 : Int32} {x3 : Int32} {y0 : Int32} {y1 : Int32} {y2 : Int32} {ls : Array Slot} {H : Heap} {locs : List Loc}
    (zc : zC p s m args meth c cX11_text 4 RX11 (some .int))
    (hK : zK E s)
    (hM : mW E q f_code a_tape a_size a_fault a_faultPlace a_many a_lands a_evenings a_sights a_choirs f_reached f_length f_begins f_sort f_value f_word f_wrongAt f_laterFault f_laterPlace a_told a_read f_farHut f_farSinger f_good f_land f_huts f_singers f_evening a_at a_knows a_climbed a_snow a_level f_begun f_minute f_avalanches a_run a_covers a_routes a_longest a_steep a_laid a_far f_sight a_runs f_choir f_voices a_rest a_wins f_seed a_other a_kept H)
    (hS : va_S (mA q) s.heap H locs)
    (hl : lv_has ls 4 [(0, .ref q), (1, .int x1), (3, .int x3)])
    (hw : q_m_text_118 f_code a_tape a_size a_fault a_faultPlace a_many a_lands a_evenings a_sights a_choirs f_reached f_length f_begins f_sort f_value f_word f_wrongAt f_laterFault f_laterPlace a_told a_read f_farHut f_farSinger f_good x1 x3 y0 y1 y2 post) :
    W p l e rm_m_text s m args below meth c H locs 0 0 (MQ below (zQi (S := (Int32) × (Nat → Int32) × (Nat → Int32) × (Nat → Int32) × (Nat → Int32) × (Nat → Int32) × (Nat → Int32) × (Nat → Int32) × (Nat → Int32) × (Int32) × (Int32) × (Int32) × (Int32) × (Int32) × (Int64) × (Int32) × (Int32) × (Int32) × (Nat → Int32) × (Nat → Int32) × (Int32) × (Int32) × (Int32)) (fun r u => post r u.1 u.2.1 u.2.2.1 u.2.2.2.1 u.2.2.2.2.1 u.2.2.2.2.2.1 u.2.2.2.2.2.2.1 u.2.2.2.2.2.2.2.1 u.2.2.2.2.2.2.2.2.1 u.2.2.2.2.2.2.2.2.2.1 u.2.2.2.2.2.2.2.2.2.2.1 u.2.2.2.2.2.2.2.2.2.2.2.1 u.2.2.2.2.2.2.2.2.2.2.2.2.1 u.2.2.2.2.2.2.2.2.2.2.2.2.2.1 u.2.2.2.2.2.2.2.2.2.2.2.2.2.2.1 u.2.2.2.2.2.2.2.2.2.2.2.2.2.2.2.1 u.2.2.2.2.2.2.2.2.2.2.2.2.2.2.2.2.1 u.2.2.2.2.2.2.2.2.2.2.2.2.2.2.2.2.2.1 u.2.2.2.2.2.2.2.2.2.2.2.2.2.2.2.2.2.2.1 u.2.2.2.2.2.2.2.2.2.2.2.2.2.2.2.2.2.2.2.1 u.2.2.2.2.2.2.2.2.2.2.2.2.2.2.2.2.2.2.2.2.1 u.2.2.2.2.2.2.2.2.2.2.2.2.2.2.2.2.2.2.2.2.2.1 u.2.2.2.2.2.2.2.2.2.2.2.2.2.2.2.2.2.2.2.2.2.2) (fun u H => mW E q u.1 a_tape u.2.1 u.2.2.1 u.2.2.2.1 u.2.2.2.2.1 u.2.2.2.2.2.1 u.2.2.2.2.2.2.1 u.2.2.2.2.2.2.2.1 u.2.2.2.2.2.2.2.2.1 u.2.2.2.2.2.2.2.2.2.1 u.2.2.2.2.2.2.2.2.2.2.1 u.2.2.2.2.2.2.2.2.2.2.2.1 u.2.2.2.2.2.2.2.2.2.2.2.2.1 u.2.2.2.2.2.2.2.2.2.2.2.2.2.1 u.2.2.2.2.2.2.2.2.2.2.2.2.2.2.1 u.2.2.2.2.2.2.2.2.2.2.2.2.2.2.2.1 u.2.2.2.2.2.2.2.2.2.2.2.2.2.2.2.2.1 u.2.2.2.2.2.2.2.2.2.2.2.2.2.2.2.2.2.1 u.2.2.2.2.2.2.2.2.2.2.2.2.2.2.2.2.2.2.1 u.2.2.2.2.2.2.2.2.2.2.2.2.2.2.2.2.2.2.2.1 u.2.2.2.2.2.2.2.2.2.2.2.2.2.2.2.2.2.2.2.2.1 u.2.2.2.2.2.2.2.2.2.2.2.2.2.2.2.2.2.2.2.2.2.1 u.2.2.2.2.2.2.2.2.2.2.2.2.2.2.2.2.2.2.2.2.2.2 f_land f_huts f_singers f_evening a_at a_knows a_climbed a_snow a_level f_begun f_minute f_avalanches a_run a_covers a_routes a_longest a_steep a_laid a_far f_sight a_runs f_choir f_voices a_rest a_wins f_seed a_other a_kept H) (mA q)) args s 0 0 (mA q)) (F0 m 118 ls [.int y2, .int y1, .int y0, .ref (q + 5)]) := by
  have hx := zc.1
  have hb := zc.2.1
  refine lv_iadd hx hb dX11_text_118 ?_
  refine lv_topi (fun v_1 ev_1 => ?_)
  have hw := hw v_1 ev_1
  refine mst_5 zc hK hM hS hw.1 dX11_text_119 (fun a_many_1 H locs ea_many_1 hM hS => ?_)
  have hw := hw.2 a_many_1 ea_many_1
  refine lv_aload_n hx hb dX11_text_120 rfl (lv_at hl 0 rfl) ?_
  refine lv_iload_n hx hb dX11_text_121 rfl (lv_at hl 1 rfl) ?_
  refine lv_iload_n hx hb dX11_text_122 rfl (lv_at hl 2 rfl) ?_
  refine zVw_v [.int x1, .int x3] [] zc ky_X11_storeAll kz_X11_storeAll km_11_297 (c_m_storeAll l hw) (mPreV0 hK hM) hS rfl rfl hl.1 (Nat.le_of_ble_eq_true rfl) ⟨rfl, rfl⟩ ⟨Nat.le_of_ble_eq_true rfl, Nat.le_of_ble_eq_true rfl⟩ ⟨(Nat.zero_le _), (Nat.zero_le _)⟩ dX11_text_123 (fun u H locs hw hM hS => ?_)
  obtain ⟨a_lands_1, a_evenings_1, a_sights_1, a_choirs_1⟩ := u
  refine lv_iload_n hx hb dX11_text_126 rfl (lv_at hl 2 rfl) ?_
  exact zret_iw ⟨f_code, a_size, a_fault, a_faultPlace, a_many_1, a_lands_1, a_evenings_1, a_sights_1, a_choirs_1, f_reached, f_length, f_begins, f_sort, f_value, f_word, f_wrongAt, f_laterFault, f_laterPlace, a_told, a_read, f_farHut, f_farSinger, f_good⟩ zc hS hw hM dX11_text_127
set_option maxRecDepth 20000 in
theorem t_m_text_100 {p : Program} {l : Launch} {e : Env} {s : State} {m : MethodId} {args : Array Value} {below : List Frame} {meth : Method} {c : Code} {E : zE} {q : Nat} {f_code : Int32} {a_tape : Nat → Int32} {a_size : Nat → Int32} {a_fault : Nat → Int32} {a_faultPlace : Nat → Int32} {a_many : Nat → Int32} {a_lands : Nat → Int32} {a_evenings : Nat → Int32} {a_sights : Nat → Int32} {a_choirs : Nat → Int32} {f_reached : Int32} {f_length : Int32} {f_begins : Int32} {f_sort : Int32} {f_value : Int32} {f_word : Int64} {f_wrongAt : Int32} {f_laterFault : Int32} {f_laterPlace : Int32} {a_told : Nat → Int32} {a_read : Nat → Int32} {f_farHut : Int32} {f_farSinger : Int32} {f_good : Int32} {f_land : Int32} {f_huts : Int32} {f_singers : Int32} {f_evening : Int32} {a_at : Nat → Int32} {a_knows : Nat → Int32} {a_climbed : Nat → Int32} {a_snow : Nat → Int32} {a_level : Nat → Int32} {f_begun : Int32} {f_minute : Int32} {f_avalanches : Int32} {a_run : Nat → Int32} {a_covers : Nat → Int32} {a_routes : Nat → Int32} {a_longest : Nat → Int32} {a_steep : Nat → Int32} {a_laid : Nat → Int32} {a_far : Nat → Int32} {f_sight : Int32} {a_runs : Nat → Int32} {f_choir : Int32} {f_voices : Int32} {a_rest : Nat → Int64} {a_wins : Nat → Int32} {f_seed : Int32} {a_other : Nat → Int32} {a_kept : Nat → Int32} {post : Int32 → (Int32) → (Nat → Int32) → (Nat → Int32) → (Nat → Int32) → (Nat → Int32) → (Nat → Int32) → (Nat → Int32) → (Nat → Int32) → (Nat → Int32) → (Int32) → (Int32) → (Int32) → (Int32) → (Int32) → (Int64) → (Int32) → (Int32) → (Int32) → (Nat → Int32) → (Nat → Int32) → (Int32) → (Int32) → (Int32) → Prop} {x1 : Int32} {x2 : Int32} {y0 : Int32} {ls : Array Slot} {H : Heap} {locs : List Loc}
    (zc : zC p s m args meth c cX11_text 4 RX11 (some .int))
    (hK : zK E s)
    (hM : mW E q f_code a_tape a_size a_fault a_faultPlace a_many a_lands a_evenings a_sights a_choirs f_reached f_length f_begins f_sort f_value f_word f_wrongAt f_laterFault f_laterPlace a_told a_read f_farHut f_farSinger f_good f_land f_huts f_singers f_evening a_at a_knows a_climbed a_snow a_level f_begun f_minute f_avalanches a_run a_covers a_routes a_longest a_steep a_laid a_far f_sight a_runs f_choir f_voices a_rest a_wins f_seed a_other a_kept H)
    (hS : va_S (mA q) s.heap H locs)
    (hl : lv_has ls 4 [(0, .ref q), (1, .int x1), (2, .int x2)])
    (hw : q_m_text_100 f_code a_tape a_size a_fault a_faultPlace a_many a_lands a_evenings a_sights a_choirs f_reached f_length f_begins f_sort f_value f_word f_wrongAt f_laterFault f_laterPlace a_told a_read f_farHut f_farSinger f_good x1 x2 y0 post) :
    W p l e rm_m_text s m args below meth c H locs 0 0 (MQ below (zQi (S := (Int32) × (Nat → Int32) × (Nat → Int32) × (Nat → Int32) × (Nat → Int32) × (Nat → Int32) × (Nat → Int32) × (Nat → Int32) × (Nat → Int32) × (Int32) × (Int32) × (Int32) × (Int32) × (Int32) × (Int64) × (Int32) × (Int32) × (Int32) × (Nat → Int32) × (Nat → Int32) × (Int32) × (Int32) × (Int32)) (fun r u => post r u.1 u.2.1 u.2.2.1 u.2.2.2.1 u.2.2.2.2.1 u.2.2.2.2.2.1 u.2.2.2.2.2.2.1 u.2.2.2.2.2.2.2.1 u.2.2.2.2.2.2.2.2.1 u.2.2.2.2.2.2.2.2.2.1 u.2.2.2.2.2.2.2.2.2.2.1 u.2.2.2.2.2.2.2.2.2.2.2.1 u.2.2.2.2.2.2.2.2.2.2.2.2.1 u.2.2.2.2.2.2.2.2.2.2.2.2.2.1 u.2.2.2.2.2.2.2.2.2.2.2.2.2.2.1 u.2.2.2.2.2.2.2.2.2.2.2.2.2.2.2.1 u.2.2.2.2.2.2.2.2.2.2.2.2.2.2.2.2.1 u.2.2.2.2.2.2.2.2.2.2.2.2.2.2.2.2.2.1 u.2.2.2.2.2.2.2.2.2.2.2.2.2.2.2.2.2.2.1 u.2.2.2.2.2.2.2.2.2.2.2.2.2.2.2.2.2.2.2.1 u.2.2.2.2.2.2.2.2.2.2.2.2.2.2.2.2.2.2.2.2.1 u.2.2.2.2.2.2.2.2.2.2.2.2.2.2.2.2.2.2.2.2.2.1 u.2.2.2.2.2.2.2.2.2.2.2.2.2.2.2.2.2.2.2.2.2.2) (fun u H => mW E q u.1 a_tape u.2.1 u.2.2.1 u.2.2.2.1 u.2.2.2.2.1 u.2.2.2.2.2.1 u.2.2.2.2.2.2.1 u.2.2.2.2.2.2.2.1 u.2.2.2.2.2.2.2.2.1 u.2.2.2.2.2.2.2.2.2.1 u.2.2.2.2.2.2.2.2.2.2.1 u.2.2.2.2.2.2.2.2.2.2.2.1 u.2.2.2.2.2.2.2.2.2.2.2.2.1 u.2.2.2.2.2.2.2.2.2.2.2.2.2.1 u.2.2.2.2.2.2.2.2.2.2.2.2.2.2.1 u.2.2.2.2.2.2.2.2.2.2.2.2.2.2.2.1 u.2.2.2.2.2.2.2.2.2.2.2.2.2.2.2.2.1 u.2.2.2.2.2.2.2.2.2.2.2.2.2.2.2.2.2.1 u.2.2.2.2.2.2.2.2.2.2.2.2.2.2.2.2.2.2.1 u.2.2.2.2.2.2.2.2.2.2.2.2.2.2.2.2.2.2.2.1 u.2.2.2.2.2.2.2.2.2.2.2.2.2.2.2.2.2.2.2.2.1 u.2.2.2.2.2.2.2.2.2.2.2.2.2.2.2.2.2.2.2.2.2.1 u.2.2.2.2.2.2.2.2.2.2.2.2.2.2.2.2.2.2.2.2.2.2 f_land f_huts f_singers f_evening a_at a_knows a_climbed a_snow a_level f_begun f_minute f_avalanches a_run a_covers a_routes a_longest a_steep a_laid a_far f_sight a_runs f_choir f_voices a_rest a_wins f_seed a_other a_kept H) (mA q)) args s 0 0 (mA q)) (F0 m 100 ls [.int y0]) := by
  have hx := zc.1
  have hb := zc.2.1
  refine lv_istore_n (lv' := [(3, .int y0), (0, .ref q), (1, .int x1), (2, .int x2)]) hx hb dX11_text_100 rfl hl (by decide) rfl (fun ls hl => ?_)
  refine lv_aload_n hx hb dX11_text_101 rfl (lv_at hl 1 rfl) ?_
  refine mg_11_23_0 zc hK hM dX11_text_102 ?_
  refine lv_iload_n hx hb dX11_text_105 rfl (lv_at hl 2 rfl) ?_
  refine lv_dup2_11 hx hb dX11_text_106 rfl rfl ?_
  refine mld_5 zc hK hM hw.1 dX11_text_107 ?_
  have hw := hw.2
  refine lv_iload_n hx hb dX11_text_108 rfl (lv_at hl 3 rfl) ?_
  refine lv_iconst (v := (-1 : Int32)) hx hb dX11_text_109 (by decide) ?_
  refine lv_icmp_ne (tgt := 117) hx hb dX11_text_110 (by decide) (fun hc => ?_) (fun hc => ?_)
  · have hw := hw.1 hc
    refine lv_iconst (v := (0 : Int32)) hx hb dX11_text_117 (by decide) ?_
    exact t_m_text_118 zc hK hM hS  (lv_sub hl [1, 2, 0] rfl) hw
  · have hw := hw.2 hc
    refine lv_iconst (v := (1 : Int32)) hx hb dX11_text_113 (by decide) ?_
    refine lv_goto (tgt := 118) hx hb dX11_text_114 (by decide) ?_
    exact t_m_text_118 zc hK hM hS  (lv_sub hl [1, 2, 0] rfl) hw
set_option maxRecDepth 20000 in
theorem t_m_text_75 {p : Program} {l : Launch} {e : Env} {s : State} {m : MethodId} {args : Array Value} {below : List Frame} {meth : Method} {c : Code} {E : zE} {q : Nat} {f_code : Int32} {a_tape : Nat → Int32} {a_size : Nat → Int32} {a_fault : Nat → Int32} {a_faultPlace : Nat → Int32} {a_many : Nat → Int32} {a_lands : Nat → Int32} {a_evenings : Nat → Int32} {a_sights : Nat → Int32} {a_choirs : Nat → Int32} {f_reached : Int32} {f_length : Int32} {f_begins : Int32} {f_sort : Int32} {f_value : Int32} {f_word : Int64} {f_wrongAt : Int32} {f_laterFault : Int32} {f_laterPlace : Int32} {a_told : Nat → Int32} {a_read : Nat → Int32} {f_farHut : Int32} {f_farSinger : Int32} {f_good : Int32} {f_land : Int32} {f_huts : Int32} {f_singers : Int32} {f_evening : Int32} {a_at : Nat → Int32} {a_knows : Nat → Int32} {a_climbed : Nat → Int32} {a_snow : Nat → Int32} {a_level : Nat → Int32} {f_begun : Int32} {f_minute : Int32} {f_avalanches : Int32} {a_run : Nat → Int32} {a_covers : Nat → Int32} {a_routes : Nat → Int32} {a_longest : Nat → Int32} {a_steep : Nat → Int32} {a_laid : Nat → Int32} {a_far : Nat → Int32} {f_sight : Int32} {a_runs : Nat → Int32} {f_choir : Int32} {f_voices : Int32} {a_rest : Nat → Int64} {a_wins : Nat → Int32} {f_seed : Int32} {a_other : Nat → Int32} {a_kept : Nat → Int32} {post : Int32 → (Int32) → (Nat → Int32) → (Nat → Int32) → (Nat → Int32) → (Nat → Int32) → (Nat → Int32) → (Nat → Int32) → (Nat → Int32) → (Nat → Int32) → (Int32) → (Int32) → (Int32) → (Int32) → (Int32) → (Int64) → (Int32) → (Int32) → (Int32) → (Nat → Int32) → (Nat → Int32) → (Int32) → (Int32) → (Int32) → Prop} {x1 : Int32} {x2 : Int32} {ls : Array Slot} {H : Heap} {locs : List Loc}
    (zc : zC p s m args meth c cX11_text 4 RX11 (some .int))
    (hK : zK E s)
    (hM : mW E q f_code a_tape a_size a_fault a_faultPlace a_many a_lands a_evenings a_sights a_choirs f_reached f_length f_begins f_sort f_value f_word f_wrongAt f_laterFault f_laterPlace a_told a_read f_farHut f_farSinger f_good f_land f_huts f_singers f_evening a_at a_knows a_climbed a_snow a_level f_begun f_minute f_avalanches a_run a_covers a_routes a_longest a_steep a_laid a_far f_sight a_runs f_choir f_voices a_rest a_wins f_seed a_other a_kept H)
    (hS : va_S (mA q) s.heap H locs)
    (hl : lv_has ls 4 [(0, .ref q), (1, .int x1), (2, .int x2)])
    (hw : q_m_text_75 f_code a_tape a_size a_fault a_faultPlace a_many a_lands a_evenings a_sights a_choirs f_reached f_length f_begins f_sort f_value f_word f_wrongAt f_laterFault f_laterPlace a_told a_read f_farHut f_farSinger f_good x1 x2 post) :
    W p l e rm_m_text s m args below meth c H locs 0 0 (MQ below (zQi (S := (Int32) × (Nat → Int32) × (Nat → Int32) × (Nat → Int32) × (Nat → Int32) × (Nat → Int32) × (Nat → Int32) × (Nat → Int32) × (Nat → Int32) × (Int32) × (Int32) × (Int32) × (Int32) × (Int32) × (Int64) × (Int32) × (Int32) × (Int32) × (Nat → Int32) × (Nat → Int32) × (Int32) × (Int32) × (Int32)) (fun r u => post r u.1 u.2.1 u.2.2.1 u.2.2.2.1 u.2.2.2.2.1 u.2.2.2.2.2.1 u.2.2.2.2.2.2.1 u.2.2.2.2.2.2.2.1 u.2.2.2.2.2.2.2.2.1 u.2.2.2.2.2.2.2.2.2.1 u.2.2.2.2.2.2.2.2.2.2.1 u.2.2.2.2.2.2.2.2.2.2.2.1 u.2.2.2.2.2.2.2.2.2.2.2.2.1 u.2.2.2.2.2.2.2.2.2.2.2.2.2.1 u.2.2.2.2.2.2.2.2.2.2.2.2.2.2.1 u.2.2.2.2.2.2.2.2.2.2.2.2.2.2.2.1 u.2.2.2.2.2.2.2.2.2.2.2.2.2.2.2.2.1 u.2.2.2.2.2.2.2.2.2.2.2.2.2.2.2.2.2.1 u.2.2.2.2.2.2.2.2.2.2.2.2.2.2.2.2.2.2.1 u.2.2.2.2.2.2.2.2.2.2.2.2.2.2.2.2.2.2.2.1 u.2.2.2.2.2.2.2.2.2.2.2.2.2.2.2.2.2.2.2.2.1 u.2.2.2.2.2.2.2.2.2.2.2.2.2.2.2.2.2.2.2.2.2.1 u.2.2.2.2.2.2.2.2.2.2.2.2.2.2.2.2.2.2.2.2.2.2) (fun u H => mW E q u.1 a_tape u.2.1 u.2.2.1 u.2.2.2.1 u.2.2.2.2.1 u.2.2.2.2.2.1 u.2.2.2.2.2.2.1 u.2.2.2.2.2.2.2.1 u.2.2.2.2.2.2.2.2.1 u.2.2.2.2.2.2.2.2.2.1 u.2.2.2.2.2.2.2.2.2.2.1 u.2.2.2.2.2.2.2.2.2.2.2.1 u.2.2.2.2.2.2.2.2.2.2.2.2.1 u.2.2.2.2.2.2.2.2.2.2.2.2.2.1 u.2.2.2.2.2.2.2.2.2.2.2.2.2.2.1 u.2.2.2.2.2.2.2.2.2.2.2.2.2.2.2.1 u.2.2.2.2.2.2.2.2.2.2.2.2.2.2.2.2.1 u.2.2.2.2.2.2.2.2.2.2.2.2.2.2.2.2.2.1 u.2.2.2.2.2.2.2.2.2.2.2.2.2.2.2.2.2.2.1 u.2.2.2.2.2.2.2.2.2.2.2.2.2.2.2.2.2.2.2.1 u.2.2.2.2.2.2.2.2.2.2.2.2.2.2.2.2.2.2.2.2.1 u.2.2.2.2.2.2.2.2.2.2.2.2.2.2.2.2.2.2.2.2.2.1 u.2.2.2.2.2.2.2.2.2.2.2.2.2.2.2.2.2.2.2.2.2.2 f_land f_huts f_singers f_evening a_at a_knows a_climbed a_snow a_level f_begun f_minute f_avalanches a_run a_covers a_routes a_longest a_steep a_laid a_far f_sight a_runs f_choir f_voices a_rest a_wins f_seed a_other a_kept H) (mA q)) args s 0 0 (mA q)) (F0 m 75 ls []) := by
  have hx := zc.1
  have hb := zc.2.1
  refine lv_aload_n hx hb dX11_text_75 rfl (lv_at hl 0 rfl) ?_
  refine lv_iload_n hx hb dX11_text_76 rfl (lv_at hl 1 rfl) ?_
  refine zVw_i [.int x1] [] zc ky_X11_readText kz_X11_readText km_11_294 (c_m_readText l hw) (mPreV0 hK hM) hS rfl rfl hl.1 (Nat.le_of_ble_eq_true rfl) ⟨rfl, rfl⟩ ⟨Nat.le_of_ble_eq_true rfl, Nat.le_of_ble_eq_true rfl⟩ ⟨(Nat.zero_le _), (Nat.zero_le _)⟩ dX11_text_77 (fun r_1 u H locs hw hM hS => ?_)
  obtain ⟨a_fault_1, a_faultPlace_1, f_reached_1, f_begins_1, f_sort_1, f_value_1, f_word_1, f_wrongAt_1, f_laterFault_1, f_laterPlace_1, a_told_1, a_read_1, f_farHut_1, f_farSinger_1, f_good_1⟩ := u
  refine lv_if_ne (tgt := 85) hx hb dX11_text_80 (by decide) (fun hc => ?_) (fun hc => ?_)
  · have hw := hw.1 hc
    refine lv_iload_n hx hb dX11_text_85 rfl (lv_at hl 2 rfl) ?_
    refine lv_iconst (v := (-1 : Int32)) hx hb dX11_text_86 (by decide) ?_
    refine lv_icmp_ne (tgt := 99) hx hb dX11_text_87 (by decide) (fun hc => ?_) (fun hc => ?_)
    · have hw := hw.1 hc
      refine lv_iload_n hx hb dX11_text_99 rfl (lv_at hl 2 rfl) ?_
      exact t_m_text_100 zc hK hM hS  (lv_sub hl [0, 1, 2] rfl) hw
    · have hw := hw.2 hc
      refine lv_aload_n hx hb dX11_text_90 rfl (lv_at hl 0 rfl) ?_
      refine mg_11_23_0 zc hK hM dX11_text_91 ?_
      refine lv_iload_n hx hb dX11_text_94 rfl (lv_at hl 1 rfl) ?_
      refine mld_5 zc hK hM hw.1 dX11_text_95 ?_
      have hw := hw.2
      refine lv_goto (tgt := 100) hx hb dX11_text_96 (by decide) ?_
      exact t_m_text_100 zc hK hM hS  (lv_sub hl [0, 1, 2] rfl) hw
  · have hw := hw.2 hc
    refine lv_iconst (v := (-1 : Int32)) hx hb dX11_text_83 (by decide) ?_
    exact zret_iw ⟨f_code, a_size, a_fault_1, a_faultPlace_1, a_many, a_lands, a_evenings, a_sights, a_choirs, f_reached_1, f_length, f_begins_1, f_sort_1, f_value_1, f_word_1, f_wrongAt_1, f_laterFault_1, f_laterPlace_1, a_told_1, a_read_1, f_farHut_1, f_farSinger_1, f_good_1⟩ zc hS hw hM dX11_text_84
set_option maxRecDepth 20000 in
theorem t_m_text_0 {p : Program} {l : Launch} {e : Env} {s : State} {m : MethodId} {args : Array Value} {below : List Frame} {meth : Method} {c : Code} {E : zE} {q : Nat} {f_code : Int32} {a_tape : Nat → Int32} {a_size : Nat → Int32} {a_fault : Nat → Int32} {a_faultPlace : Nat → Int32} {a_many : Nat → Int32} {a_lands : Nat → Int32} {a_evenings : Nat → Int32} {a_sights : Nat → Int32} {a_choirs : Nat → Int32} {f_reached : Int32} {f_length : Int32} {f_begins : Int32} {f_sort : Int32} {f_value : Int32} {f_word : Int64} {f_wrongAt : Int32} {f_laterFault : Int32} {f_laterPlace : Int32} {a_told : Nat → Int32} {a_read : Nat → Int32} {f_farHut : Int32} {f_farSinger : Int32} {f_good : Int32} {f_land : Int32} {f_huts : Int32} {f_singers : Int32} {f_evening : Int32} {a_at : Nat → Int32} {a_knows : Nat → Int32} {a_climbed : Nat → Int32} {a_snow : Nat → Int32} {a_level : Nat → Int32} {f_begun : Int32} {f_minute : Int32} {f_avalanches : Int32} {a_run : Nat → Int32} {a_covers : Nat → Int32} {a_routes : Nat → Int32} {a_longest : Nat → Int32} {a_steep : Nat → Int32} {a_laid : Nat → Int32} {a_far : Nat → Int32} {f_sight : Int32} {a_runs : Nat → Int32} {f_choir : Int32} {f_voices : Int32} {a_rest : Nat → Int64} {a_wins : Nat → Int32} {f_seed : Int32} {a_other : Nat → Int32} {a_kept : Nat → Int32} {post : Int32 → (Int32) → (Nat → Int32) → (Nat → Int32) → (Nat → Int32) → (Nat → Int32) → (Nat → Int32) → (Nat → Int32) → (Nat → Int32) → (Nat → Int32) → (Int32) → (Int32) → (Int32) → (Int32) → (Int32) → (Int64) → (Int32) → (Int32) → (Int32) → (Nat → Int32) → (Nat → Int32) → (Int32) → (Int32) → (Int32) → Prop} {x1 : Int32} {x2 : Int32} {ls : Array Slot} {H : Heap} {locs : List Loc}
    (zc : zC p s m args meth c cX11_text 4 RX11 (some .int))
    (hK : zK E s)
    (hM : mW E q f_code a_tape a_size a_fault a_faultPlace a_many a_lands a_evenings a_sights a_choirs f_reached f_length f_begins f_sort f_value f_word f_wrongAt f_laterFault f_laterPlace a_told a_read f_farHut f_farSinger f_good f_land f_huts f_singers f_evening a_at a_knows a_climbed a_snow a_level f_begun f_minute f_avalanches a_run a_covers a_routes a_longest a_steep a_laid a_far f_sight a_runs f_choir f_voices a_rest a_wins f_seed a_other a_kept H)
    (hS : va_S (mA q) s.heap H locs)
    (hl : lv_has ls 4 [(0, .ref q), (1, .int x1), (2, .int x2)])
    (hw : q_m_text_0 f_code a_tape a_size a_fault a_faultPlace a_many a_lands a_evenings a_sights a_choirs f_reached f_length f_begins f_sort f_value f_word f_wrongAt f_laterFault f_laterPlace a_told a_read f_farHut f_farSinger f_good x1 x2 post) :
    W p l e rm_m_text s m args below meth c H locs 0 0 (MQ below (zQi (S := (Int32) × (Nat → Int32) × (Nat → Int32) × (Nat → Int32) × (Nat → Int32) × (Nat → Int32) × (Nat → Int32) × (Nat → Int32) × (Nat → Int32) × (Int32) × (Int32) × (Int32) × (Int32) × (Int32) × (Int64) × (Int32) × (Int32) × (Int32) × (Nat → Int32) × (Nat → Int32) × (Int32) × (Int32) × (Int32)) (fun r u => post r u.1 u.2.1 u.2.2.1 u.2.2.2.1 u.2.2.2.2.1 u.2.2.2.2.2.1 u.2.2.2.2.2.2.1 u.2.2.2.2.2.2.2.1 u.2.2.2.2.2.2.2.2.1 u.2.2.2.2.2.2.2.2.2.1 u.2.2.2.2.2.2.2.2.2.2.1 u.2.2.2.2.2.2.2.2.2.2.2.1 u.2.2.2.2.2.2.2.2.2.2.2.2.1 u.2.2.2.2.2.2.2.2.2.2.2.2.2.1 u.2.2.2.2.2.2.2.2.2.2.2.2.2.2.1 u.2.2.2.2.2.2.2.2.2.2.2.2.2.2.2.1 u.2.2.2.2.2.2.2.2.2.2.2.2.2.2.2.2.1 u.2.2.2.2.2.2.2.2.2.2.2.2.2.2.2.2.2.1 u.2.2.2.2.2.2.2.2.2.2.2.2.2.2.2.2.2.2.1 u.2.2.2.2.2.2.2.2.2.2.2.2.2.2.2.2.2.2.2.1 u.2.2.2.2.2.2.2.2.2.2.2.2.2.2.2.2.2.2.2.2.1 u.2.2.2.2.2.2.2.2.2.2.2.2.2.2.2.2.2.2.2.2.2.1 u.2.2.2.2.2.2.2.2.2.2.2.2.2.2.2.2.2.2.2.2.2.2) (fun u H => mW E q u.1 a_tape u.2.1 u.2.2.1 u.2.2.2.1 u.2.2.2.2.1 u.2.2.2.2.2.1 u.2.2.2.2.2.2.1 u.2.2.2.2.2.2.2.1 u.2.2.2.2.2.2.2.2.1 u.2.2.2.2.2.2.2.2.2.1 u.2.2.2.2.2.2.2.2.2.2.1 u.2.2.2.2.2.2.2.2.2.2.2.1 u.2.2.2.2.2.2.2.2.2.2.2.2.1 u.2.2.2.2.2.2.2.2.2.2.2.2.2.1 u.2.2.2.2.2.2.2.2.2.2.2.2.2.2.1 u.2.2.2.2.2.2.2.2.2.2.2.2.2.2.2.1 u.2.2.2.2.2.2.2.2.2.2.2.2.2.2.2.2.1 u.2.2.2.2.2.2.2.2.2.2.2.2.2.2.2.2.2.1 u.2.2.2.2.2.2.2.2.2.2.2.2.2.2.2.2.2.2.1 u.2.2.2.2.2.2.2.2.2.2.2.2.2.2.2.2.2.2.2.1 u.2.2.2.2.2.2.2.2.2.2.2.2.2.2.2.2.2.2.2.2.1 u.2.2.2.2.2.2.2.2.2.2.2.2.2.2.2.2.2.2.2.2.2.1 u.2.2.2.2.2.2.2.2.2.2.2.2.2.2.2.2.2.2.2.2.2.2 f_land f_huts f_singers f_evening a_at a_knows a_climbed a_snow a_level f_begun f_minute f_avalanches a_run a_covers a_routes a_longest a_steep a_laid a_far f_sight a_runs f_choir f_voices a_rest a_wins f_seed a_other a_kept H) (mA q)) args s 0 0 (mA q)) (F0 m 0 ls []) := by
  have hx := zc.1
  have hb := zc.2.1
  refine lv_aload_n hx hb dX11_text_0 rfl (lv_at hl 0 rfl) ?_
  refine lv_iconst (v := (0 : Int32)) hx hb dX11_text_1 (by decide) ?_
  refine mp_11_97_0 zc hK hM hS dX11_text_2 (fun H locs hM hS => ?_)
  refine lv_aload_n hx hb dX11_text_5 rfl (lv_at hl 0 rfl) ?_
  refine lv_aload_n hx hb dX11_text_6 rfl (lv_at hl 0 rfl) ?_
  refine mg_11_13_0 zc hK hM dX11_text_7 ?_
  refine lv_iconst (v := (0 : Int32)) hx hb dX11_text_10 (by decide) ?_
  refine mld_2 zc hK hM (by unfold vp_in; decide) dX11_text_11 ?_
  refine lv_topi (fun v_1 ev_1 => ?_)
  have hw := hw v_1 ev_1
  refine mp_11_120_0 zc hK hM hS dX11_text_12 (fun H locs hM hS => ?_)
  refine lv_aload_n hx hb dX11_text_15 rfl (lv_at hl 0 rfl) ?_
  refine mg_11_13_0 zc hK hM dX11_text_16 ?_
  refine lv_iconst (v := (0 : Int32)) hx hb dX11_text_19 (by decide) ?_
  refine lv_iconst (v := (0 : Int32)) hx hb dX11_text_20 (by decide) ?_
  refine mst_2 zc hK hM hS (by unfold vp_in; decide) dX11_text_21 (fun a_size_1 H locs ea_size_1 hM hS => ?_)
  have hw := hw a_size_1 ea_size_1
  refine lv_aload_n hx hb dX11_text_22 rfl (lv_at hl 0 rfl) ?_
  refine mg_11_17_0 zc hK hM dX11_text_23 ?_
  refine lv_iconst (v := (0 : Int32)) hx hb dX11_text_26 (by decide) ?_
  refine lv_iconst (v := (0 : Int32)) hx hb dX11_text_27 (by decide) ?_
  refine mst_3 zc hK hM hS (by unfold vp_in; decide) dX11_text_28 (fun a_fault_1 H locs ea_fault_1 hM hS => ?_)
  have hw := hw a_fault_1 ea_fault_1
  refine lv_aload_n hx hb dX11_text_29 rfl (lv_at hl 0 rfl) ?_
  refine mg_11_20_0 zc hK hM dX11_text_30 ?_
  refine lv_iconst (v := (0 : Int32)) hx hb dX11_text_33 (by decide) ?_
  refine lv_iconst (v := (-1 : Int32)) hx hb dX11_text_34 (by decide) ?_
  refine mst_4 zc hK hM hS (by unfold vp_in; decide) dX11_text_35 (fun a_faultPlace_1 H locs ea_faultPlace_1 hM hS => ?_)
  have hw := hw a_faultPlace_1 ea_faultPlace_1
  refine lv_iload_n hx hb dX11_text_36 rfl (lv_at hl 1 rfl) ?_
  refine lv_iconst (v := (0 : Int32)) hx hb dX11_text_37 (by decide) ?_
  refine lv_iconst (v := (3 : Int32)) hx hb dX11_text_38 (by decide) ?_
  refine zS_i [.int x1, .int (0 : Int32), .int (3 : Int32)] [] zc ky_X11_in kz_X11_in km_11_109 (c_m_in l hw) (zPre0 _) rfl rfl hl.1 (Nat.le_of_ble_eq_true rfl) ⟨rfl, rfl⟩ ⟨Nat.le_of_ble_eq_true rfl, Nat.le_of_ble_eq_true rfl⟩ ⟨(Nat.zero_le _), (Nat.zero_le _)⟩ dX11_text_39 (fun r_1 hw => ?_)
  refine lv_if_eq (tgt := 72) hx hb dX11_text_42 (by decide) (fun hc => ?_) (fun hc => ?_)
  · have hw := hw.1 hc
    refine lv_bipush (v := (-2 : Int32)) hx hb dX11_text_72 (by decide) ?_
    exact zret_iw ⟨(0 : Int32), a_size_1, a_fault_1, a_faultPlace_1, a_many, a_lands, a_evenings, a_sights, a_choirs, f_reached, v_1, f_begins, f_sort, f_value, f_word, f_wrongAt, f_laterFault, f_laterPlace, a_told, a_read, f_farHut, f_farSinger, f_good⟩ zc hS hw hM dX11_text_74
  · have hw := hw.2 hc
    refine lv_iload_n hx hb dX11_text_45 rfl (lv_at hl 2 rfl) ?_
    refine lv_iconst (v := (-1 : Int32)) hx hb dX11_text_46 (by decide) ?_
    refine lv_icmp_ne (tgt := 63) hx hb dX11_text_47 (by decide) (fun hc => ?_) (fun hc => ?_)
    · have hw := hw.1 hc
      refine lv_aload_n hx hb dX11_text_63 rfl (lv_at hl 0 rfl) ?_
      refine lv_iload_n hx hb dX11_text_64 rfl (lv_at hl 1 rfl) ?_
      refine lv_iload_n hx hb dX11_text_65 rfl (lv_at hl 2 rfl) ?_
      refine zV_i [.int x1, .int x2] [] zc ky_X11_is kz_X11_is km_11_291 (c_m_is l hw) (mPreV0 hK hM) rfl rfl hl.1 (Nat.le_of_ble_eq_true rfl) ⟨rfl, rfl⟩ ⟨Nat.le_of_ble_eq_true rfl, Nat.le_of_ble_eq_true rfl⟩ ⟨(Nat.zero_le _), (Nat.zero_le _)⟩ dX11_text_66 (fun r_2 hw => ?_)
      refine lv_if_ne (tgt := 75) hx hb dX11_text_69 (by decide) (fun hc => ?_) (fun hc => ?_)
      · have hw := hw.1 hc
        exact t_m_text_75 zc hK hM hS  (lv_sub hl [0, 1, 2] rfl) hw
      · have hw := hw.2 hc
        refine lv_bipush (v := (-2 : Int32)) hx hb dX11_text_72 (by decide) ?_
        exact zret_iw ⟨(0 : Int32), a_size_1, a_fault_1, a_faultPlace_1, a_many, a_lands, a_evenings, a_sights, a_choirs, f_reached, v_1, f_begins, f_sort, f_value, f_word, f_wrongAt, f_laterFault, f_laterPlace, a_told, a_read, f_farHut, f_farSinger, f_good⟩ zc hS hw hM dX11_text_74
    · have hw := hw.2 hc
      refine lv_aload_n hx hb dX11_text_50 rfl (lv_at hl 0 rfl) ?_
      refine mg_11_23_0 zc hK hM dX11_text_51 ?_
      refine lv_iload_n hx hb dX11_text_54 rfl (lv_at hl 1 rfl) ?_
      refine mld_5 zc hK hM hw.1 dX11_text_55 ?_
      have hw := hw.2
      refine lv_iconst (v := (2 : Int32)) hx hb dX11_text_56 (by decide) ?_
      refine lv_icmp_ne (tgt := 75) hx hb dX11_text_57 (by decide) (fun hc => ?_) (fun hc => ?_)
      · have hw := hw.1 hc
        exact t_m_text_75 zc hK hM hS  (lv_sub hl [0, 1, 2] rfl) hw
      · have hw := hw.2 hc
        refine lv_goto (tgt := 72) hx hb dX11_text_60 (by decide) ?_
        refine lv_bipush (v := (-2 : Int32)) hx hb dX11_text_72 (by decide) ?_
        exact zret_iw ⟨(0 : Int32), a_size_1, a_fault_1, a_faultPlace_1, a_many, a_lands, a_evenings, a_sights, a_choirs, f_reached, v_1, f_begins, f_sort, f_value, f_word, f_wrongAt, f_laterFault, f_laterPlace, a_told, a_read, f_farHut, f_farSinger, f_good⟩ zc hS hw hM dX11_text_74
set_option maxRecDepth 20000 in
theorem c_m_text (l : Launch) {E : zE} {q : Nat} {f_code : Int32} {a_tape : Nat → Int32} {a_size : Nat → Int32} {a_fault : Nat → Int32} {a_faultPlace : Nat → Int32} {a_many : Nat → Int32} {a_lands : Nat → Int32} {a_evenings : Nat → Int32} {a_sights : Nat → Int32} {a_choirs : Nat → Int32} {f_reached : Int32} {f_length : Int32} {f_begins : Int32} {f_sort : Int32} {f_value : Int32} {f_word : Int64} {f_wrongAt : Int32} {f_laterFault : Int32} {f_laterPlace : Int32} {a_told : Nat → Int32} {a_read : Nat → Int32} {f_farHut : Int32} {f_farSinger : Int32} {f_good : Int32} {f_land : Int32} {f_huts : Int32} {f_singers : Int32} {f_evening : Int32} {a_at : Nat → Int32} {a_knows : Nat → Int32} {a_climbed : Nat → Int32} {a_snow : Nat → Int32} {a_level : Nat → Int32} {f_begun : Int32} {f_minute : Int32} {f_avalanches : Int32} {a_run : Nat → Int32} {a_covers : Nat → Int32} {a_routes : Nat → Int32} {a_longest : Nat → Int32} {a_steep : Nat → Int32} {a_laid : Nat → Int32} {a_far : Nat → Int32} {f_sight : Int32} {a_runs : Nat → Int32} {f_choir : Int32} {f_voices : Int32} {a_rest : Nat → Int64} {a_wins : Nat → Int32} {f_seed : Int32} {a_other : Nat → Int32} {a_kept : Nat → Int32} {x1 : Int32} {x2 : Int32} {post : Int32 → (Int32) → (Nat → Int32) → (Nat → Int32) → (Nat → Int32) → (Nat → Int32) → (Nat → Int32) → (Nat → Int32) → (Nat → Int32) → (Nat → Int32) → (Int32) → (Int32) → (Int32) → (Int32) → (Int32) → (Int64) → (Int32) → (Int32) → (Int32) → (Nat → Int32) → (Nat → Int32) → (Int32) → (Int32) → (Int32) → Prop} (hw : q_m_text_0 f_code a_tape a_size a_fault a_faultPlace a_many a_lands a_evenings a_sights a_choirs f_reached f_length f_begins f_sort f_value f_word f_wrongAt f_laterFault f_laterPlace a_told a_read f_farHut f_farSinger f_good x1 x2 post) : Met l yX11_text (Cond.code yX11_text cX11_text 4 (some .int) :: zb) rm_m_text (va_Pc [.ref q, .int x1, .int x2] (fun U => mW E q f_code a_tape a_size a_fault a_faultPlace a_many a_lands a_evenings a_sights a_choirs f_reached f_length f_begins f_sort f_value f_word f_wrongAt f_laterFault f_laterPlace a_told a_read f_farHut f_farSinger f_good f_land f_huts f_singers f_evening a_at a_knows a_climbed a_snow a_level f_begun f_minute f_avalanches a_run a_covers a_routes a_longest a_steep a_laid a_far f_sight a_runs f_choir f_voices a_rest a_wins f_seed a_other a_kept U.heap ∧ zK E U)) (zQi (S := (Int32) × (Nat → Int32) × (Nat → Int32) × (Nat → Int32) × (Nat → Int32) × (Nat → Int32) × (Nat → Int32) × (Nat → Int32) × (Nat → Int32) × (Int32) × (Int32) × (Int32) × (Int32) × (Int32) × (Int64) × (Int32) × (Int32) × (Int32) × (Nat → Int32) × (Nat → Int32) × (Int32) × (Int32) × (Int32)) (fun r u => post r u.1 u.2.1 u.2.2.1 u.2.2.2.1 u.2.2.2.2.1 u.2.2.2.2.2.1 u.2.2.2.2.2.2.1 u.2.2.2.2.2.2.2.1 u.2.2.2.2.2.2.2.2.1 u.2.2.2.2.2.2.2.2.2.1 u.2.2.2.2.2.2.2.2.2.2.1 u.2.2.2.2.2.2.2.2.2.2.2.1 u.2.2.2.2.2.2.2.2.2.2.2.2.1 u.2.2.2.2.2.2.2.2.2.2.2.2.2.1 u.2.2.2.2.2.2.2.2.2.2.2.2.2.2.1 u.2.2.2.2.2.2.2.2.2.2.2.2.2.2.2.1 u.2.2.2.2.2.2.2.2.2.2.2.2.2.2.2.2.1 u.2.2.2.2.2.2.2.2.2.2.2.2.2.2.2.2.2.1 u.2.2.2.2.2.2.2.2.2.2.2.2.2.2.2.2.2.2.1 u.2.2.2.2.2.2.2.2.2.2.2.2.2.2.2.2.2.2.2.1 u.2.2.2.2.2.2.2.2.2.2.2.2.2.2.2.2.2.2.2.2.1 u.2.2.2.2.2.2.2.2.2.2.2.2.2.2.2.2.2.2.2.2.2.1 u.2.2.2.2.2.2.2.2.2.2.2.2.2.2.2.2.2.2.2.2.2.2) (fun u H => mW E q u.1 a_tape u.2.1 u.2.2.1 u.2.2.2.1 u.2.2.2.2.1 u.2.2.2.2.2.1 u.2.2.2.2.2.2.1 u.2.2.2.2.2.2.2.1 u.2.2.2.2.2.2.2.2.1 u.2.2.2.2.2.2.2.2.2.1 u.2.2.2.2.2.2.2.2.2.2.1 u.2.2.2.2.2.2.2.2.2.2.2.1 u.2.2.2.2.2.2.2.2.2.2.2.2.1 u.2.2.2.2.2.2.2.2.2.2.2.2.2.1 u.2.2.2.2.2.2.2.2.2.2.2.2.2.2.1 u.2.2.2.2.2.2.2.2.2.2.2.2.2.2.2.1 u.2.2.2.2.2.2.2.2.2.2.2.2.2.2.2.2.1 u.2.2.2.2.2.2.2.2.2.2.2.2.2.2.2.2.2.1 u.2.2.2.2.2.2.2.2.2.2.2.2.2.2.2.2.2.2.1 u.2.2.2.2.2.2.2.2.2.2.2.2.2.2.2.2.2.2.2.1 u.2.2.2.2.2.2.2.2.2.2.2.2.2.2.2.2.2.2.2.2.1 u.2.2.2.2.2.2.2.2.2.2.2.2.2.2.2.2.2.2.2.2.2.1 u.2.2.2.2.2.2.2.2.2.2.2.2.2.2.2.2.2.2.2.2.2.2 f_land f_huts f_singers f_evening a_at a_knows a_climbed a_snow a_level f_begun f_minute f_avalanches a_run a_covers a_routes a_longest a_steep a_laid a_far f_sight a_runs f_choir f_voices a_rest a_wins f_seed a_other a_kept H) (mA q)) 0 0 (mA q) := by
  refine Met.ofW (cc := cX11_text) (maxL := 4) (ret := (some .int)) (by decide) rfl ?_
  intro p e s m args below meth c s₁ B hml hv
  obtain ⟨rfl, hM, hK⟩ := hv
  have zc := zc_of B hml
  have hl := lv_entry ([.ref q, .int x1, .int x2]) (n := 4) (Nat.le_of_ble_eq_true rfl)
  rw [lg_entry_eq]
  generalize (lg_sl ([.ref q, .int x1, .int x2]) ++ List.replicate (4 - (lg_sl ([.ref q, .int x1, .int x2])).length) Slot.unset).toArray = ls at hl ⊢
  have hl : lv_has ls 4 [(0, .ref q), (1, .int x1), (2, .int x2)] := hl
  exact t_m_text_0 zc hK hM va_S.rf (lv_sub hl [0, 1, 2] rfl) hw
-- m_fault
abbrev rm_m_fault : Room := { frames := 0, cells := 0, slots := 0, locals := 0 }
def q_m_fault_0 (f_code : Int32) (a_fault : Nat → Int32) (a_faultPlace : Nat → Int32) (x1 : Int32) (post : Int32 → (Int32) → Prop) : Prop :=
  (¬ x1 = 0 → ((¬ x1 = (1 : Int32) → (post (-1 : Int32) (0 : Int32))) ∧ (x1 = (1 : Int32) → (post (a_faultPlace (Int32.toNatClampNeg (0 : Int32))) (0 : Int32))))) ∧ (x1 = 0 → (post (a_fault (Int32.toNatClampNeg (0 : Int32))) (0 : Int32)))
set_option maxRecDepth 20000 in
theorem t_m_fault_0 {p : Program} {l : Launch} {e : Env} {s : State} {m : MethodId} {args : Array Value} {below : List Frame} {meth : Method} {c : Code} {E : zE} {q : Nat} {f_code : Int32} {a_tape : Nat → Int32} {a_size : Nat → Int32} {a_fault : Nat → Int32} {a_faultPlace : Nat → Int32} {a_many : Nat → Int32} {a_lands : Nat → Int32} {a_evenings : Nat → Int32} {a_sights : Nat → Int32} {a_choirs : Nat → Int32} {f_reached : Int32} {f_length : Int32} {f_begins : Int32} {f_sort : Int32} {f_value : Int32} {f_word : Int64} {f_wrongAt : Int32} {f_laterFault : Int32} {f_laterPlace : Int32} {a_told : Nat → Int32} {a_read : Nat → Int32} {f_farHut : Int32} {f_farSinger : Int32} {f_good : Int32} {f_land : Int32} {f_huts : Int32} {f_singers : Int32} {f_evening : Int32} {a_at : Nat → Int32} {a_knows : Nat → Int32} {a_climbed : Nat → Int32} {a_snow : Nat → Int32} {a_level : Nat → Int32} {f_begun : Int32} {f_minute : Int32} {f_avalanches : Int32} {a_run : Nat → Int32} {a_covers : Nat → Int32} {a_routes : Nat → Int32} {a_longest : Nat → Int32} {a_steep : Nat → Int32} {a_laid : Nat → Int32} {a_far : Nat → Int32} {f_sight : Int32} {a_runs : Nat → Int32} {f_choir : Int32} {f_voices : Int32} {a_rest : Nat → Int64} {a_wins : Nat → Int32} {f_seed : Int32} {a_other : Nat → Int32} {a_kept : Nat → Int32} {post : Int32 → (Int32) → Prop} {x1 : Int32} {ls : Array Slot} {H : Heap} {locs : List Loc}
    (zc : zC p s m args meth c cX11_fault 2 RX11 (some .int))
    (hK : zK E s)
    (hM : mW E q f_code a_tape a_size a_fault a_faultPlace a_many a_lands a_evenings a_sights a_choirs f_reached f_length f_begins f_sort f_value f_word f_wrongAt f_laterFault f_laterPlace a_told a_read f_farHut f_farSinger f_good f_land f_huts f_singers f_evening a_at a_knows a_climbed a_snow a_level f_begun f_minute f_avalanches a_run a_covers a_routes a_longest a_steep a_laid a_far f_sight a_runs f_choir f_voices a_rest a_wins f_seed a_other a_kept H)
    (hS : va_S (mA q) s.heap H locs)
    (hl : lv_has ls 2 [(0, .ref q), (1, .int x1)])
    (hw : q_m_fault_0 f_code a_fault a_faultPlace x1 post) :
    W p l e rm_m_fault s m args below meth c H locs 0 0 (MQ below (zQi (S := (Int32)) (fun r u => post r u) (fun u H => mW E q u a_tape a_size a_fault a_faultPlace a_many a_lands a_evenings a_sights a_choirs f_reached f_length f_begins f_sort f_value f_word f_wrongAt f_laterFault f_laterPlace a_told a_read f_farHut f_farSinger f_good f_land f_huts f_singers f_evening a_at a_knows a_climbed a_snow a_level f_begun f_minute f_avalanches a_run a_covers a_routes a_longest a_steep a_laid a_far f_sight a_runs f_choir f_voices a_rest a_wins f_seed a_other a_kept H) (mA q)) args s 0 0 (mA q)) (F0 m 0 ls []) := by
  have hx := zc.1
  have hb := zc.2.1
  refine lv_aload_n hx hb dX11_fault_0 rfl (lv_at hl 0 rfl) ?_
  refine lv_iconst (v := (0 : Int32)) hx hb dX11_fault_1 (by decide) ?_
  refine mp_11_97_0 zc hK hM hS dX11_fault_2 (fun H locs hM hS => ?_)
  refine lv_iload_n hx hb dX11_fault_5 rfl (lv_at hl 1 rfl) ?_
  refine lv_if_ne (tgt := 18) hx hb dX11_fault_6 (by decide) (fun hc => ?_) (fun hc => ?_)
  · have hw := hw.1 hc
    refine lv_iload_n hx hb dX11_fault_18 rfl (lv_at hl 1 rfl) ?_
    refine lv_iconst (v := (1 : Int32)) hx hb dX11_fault_19 (by decide) ?_
    refine lv_icmp_ne (tgt := 32) hx hb dX11_fault_20 (by decide) (fun hc => ?_) (fun hc => ?_)
    · have hw := hw.1 hc
      refine lv_iconst (v := (-1 : Int32)) hx hb dX11_fault_32 (by decide) ?_
      exact zret_iw (0 : Int32) zc hS hw hM dX11_fault_33
    · have hw := hw.2 hc
      refine lv_aload_n hx hb dX11_fault_23 rfl (lv_at hl 0 rfl) ?_
      refine mg_11_20_0 zc hK hM dX11_fault_24 ?_
      refine lv_iconst (v := (0 : Int32)) hx hb dX11_fault_27 (by decide) ?_
      refine mld_4 zc hK hM (by unfold vp_in; decide) dX11_fault_28 ?_
      refine lv_goto (tgt := 33) hx hb dX11_fault_29 (by decide) ?_
      exact zret_iw (0 : Int32) zc hS hw hM dX11_fault_33
  · have hw := hw.2 hc
    refine lv_aload_n hx hb dX11_fault_9 rfl (lv_at hl 0 rfl) ?_
    refine mg_11_17_0 zc hK hM dX11_fault_10 ?_
    refine lv_iconst (v := (0 : Int32)) hx hb dX11_fault_13 (by decide) ?_
    refine mld_3 zc hK hM (by unfold vp_in; decide) dX11_fault_14 ?_
    refine lv_goto (tgt := 33) hx hb dX11_fault_15 (by decide) ?_
    exact zret_iw (0 : Int32) zc hS hw hM dX11_fault_33
set_option maxRecDepth 20000 in
theorem c_m_fault (l : Launch) {E : zE} {q : Nat} {f_code : Int32} {a_tape : Nat → Int32} {a_size : Nat → Int32} {a_fault : Nat → Int32} {a_faultPlace : Nat → Int32} {a_many : Nat → Int32} {a_lands : Nat → Int32} {a_evenings : Nat → Int32} {a_sights : Nat → Int32} {a_choirs : Nat → Int32} {f_reached : Int32} {f_length : Int32} {f_begins : Int32} {f_sort : Int32} {f_value : Int32} {f_word : Int64} {f_wrongAt : Int32} {f_laterFault : Int32} {f_laterPlace : Int32} {a_told : Nat → Int32} {a_read : Nat → Int32} {f_farHut : Int32} {f_farSinger : Int32} {f_good : Int32} {f_land : Int32} {f_huts : Int32} {f_singers : Int32} {f_evening : Int32} {a_at : Nat → Int32} {a_knows : Nat → Int32} {a_climbed : Nat → Int32} {a_snow : Nat → Int32} {a_level : Nat → Int32} {f_begun : Int32} {f_minute : Int32} {f_avalanches : Int32} {a_run : Nat → Int32} {a_covers : Nat → Int32} {a_routes : Nat → Int32} {a_longest : Nat → Int32} {a_steep : Nat → Int32} {a_laid : Nat → Int32} {a_far : Nat → Int32} {f_sight : Int32} {a_runs : Nat → Int32} {f_choir : Int32} {f_voices : Int32} {a_rest : Nat → Int64} {a_wins : Nat → Int32} {f_seed : Int32} {a_other : Nat → Int32} {a_kept : Nat → Int32} {x1 : Int32} {post : Int32 → (Int32) → Prop} (hw : q_m_fault_0 f_code a_fault a_faultPlace x1 post) : Met l yX11_fault (Cond.code yX11_fault cX11_fault 2 (some .int) :: zb) rm_m_fault (va_Pc [.ref q, .int x1] (fun U => mW E q f_code a_tape a_size a_fault a_faultPlace a_many a_lands a_evenings a_sights a_choirs f_reached f_length f_begins f_sort f_value f_word f_wrongAt f_laterFault f_laterPlace a_told a_read f_farHut f_farSinger f_good f_land f_huts f_singers f_evening a_at a_knows a_climbed a_snow a_level f_begun f_minute f_avalanches a_run a_covers a_routes a_longest a_steep a_laid a_far f_sight a_runs f_choir f_voices a_rest a_wins f_seed a_other a_kept U.heap ∧ zK E U)) (zQi (S := (Int32)) (fun r u => post r u) (fun u H => mW E q u a_tape a_size a_fault a_faultPlace a_many a_lands a_evenings a_sights a_choirs f_reached f_length f_begins f_sort f_value f_word f_wrongAt f_laterFault f_laterPlace a_told a_read f_farHut f_farSinger f_good f_land f_huts f_singers f_evening a_at a_knows a_climbed a_snow a_level f_begun f_minute f_avalanches a_run a_covers a_routes a_longest a_steep a_laid a_far f_sight a_runs f_choir f_voices a_rest a_wins f_seed a_other a_kept H) (mA q)) 0 0 (mA q) := by
  refine Met.ofW (cc := cX11_fault) (maxL := 2) (ret := (some .int)) (by decide) rfl ?_
  intro p e s m args below meth c s₁ B hml hv
  obtain ⟨rfl, hM, hK⟩ := hv
  have zc := zc_of B hml
  have hl := lv_entry ([.ref q, .int x1]) (n := 2) (Nat.le_of_ble_eq_true rfl)
  rw [lg_entry_eq]
  generalize (lg_sl ([.ref q, .int x1]) ++ List.replicate (2 - (lg_sl ([.ref q, .int x1])).length) Slot.unset).toArray = ls at hl ⊢
  have hl : lv_has ls 2 [(0, .ref q), (1, .int x1)] := hl
  exact t_m_fault_0 zc hK hM va_S.rf (lv_sub hl [0, 1] rfl) hw
-- m_of
abbrev rm_m_of : Room := { frames := 0, cells := 0, slots := 0, locals := 0 }
def q_m_of_0 (a_lands : Nat → Int32) (f_land : Int32) (x1 : Int32) (post : Int32 → Prop) : Prop :=
  vp_in (((132 : Int32) * f_land) + x1) 1056 ∧ (post (a_lands (Int32.toNatClampNeg (((132 : Int32) * f_land) + x1))))
set_option maxRecDepth 20000 in
theorem t_m_of_0 {p : Program} {l : Launch} {e : Env} {s : State} {m : MethodId} {args : Array Value} {below : List Frame} {meth : Method} {c : Code} {E : zE} {q : Nat} {f_code : Int32} {a_tape : Nat → Int32} {a_size : Nat → Int32} {a_fault : Nat → Int32} {a_faultPlace : Nat → Int32} {a_many : Nat → Int32} {a_lands : Nat → Int32} {a_evenings : Nat → Int32} {a_sights : Nat → Int32} {a_choirs : Nat → Int32} {f_reached : Int32} {f_length : Int32} {f_begins : Int32} {f_sort : Int32} {f_value : Int32} {f_word : Int64} {f_wrongAt : Int32} {f_laterFault : Int32} {f_laterPlace : Int32} {a_told : Nat → Int32} {a_read : Nat → Int32} {f_farHut : Int32} {f_farSinger : Int32} {f_good : Int32} {f_land : Int32} {f_huts : Int32} {f_singers : Int32} {f_evening : Int32} {a_at : Nat → Int32} {a_knows : Nat → Int32} {a_climbed : Nat → Int32} {a_snow : Nat → Int32} {a_level : Nat → Int32} {f_begun : Int32} {f_minute : Int32} {f_avalanches : Int32} {a_run : Nat → Int32} {a_covers : Nat → Int32} {a_routes : Nat → Int32} {a_longest : Nat → Int32} {a_steep : Nat → Int32} {a_laid : Nat → Int32} {a_far : Nat → Int32} {f_sight : Int32} {a_runs : Nat → Int32} {f_choir : Int32} {f_voices : Int32} {a_rest : Nat → Int64} {a_wins : Nat → Int32} {f_seed : Int32} {a_other : Nat → Int32} {a_kept : Nat → Int32} {post : Int32 → Prop} {x1 : Int32} {ls : Array Slot}
    (zc : zC p s m args meth c cX11_of 2 RX11 (some .int))
    (hK : zK E s)
    (hM : mW E q f_code a_tape a_size a_fault a_faultPlace a_many a_lands a_evenings a_sights a_choirs f_reached f_length f_begins f_sort f_value f_word f_wrongAt f_laterFault f_laterPlace a_told a_read f_farHut f_farSinger f_good f_land f_huts f_singers f_evening a_at a_knows a_climbed a_snow a_level f_begun f_minute f_avalanches a_run a_covers a_routes a_longest a_steep a_laid a_far f_sight a_runs f_choir f_voices a_rest a_wins f_seed a_other a_kept s.heap)
    (hl : lv_has ls 2 [(0, .ref q), (1, .int x1)])
    (hw : q_m_of_0 a_lands f_land x1 post) :
    W p l e rm_m_of s m args below meth c s.heap [] 0 0 (MQ below (vp_Si post) args s 0 0 (fun _ => False)) (F0 m 0 ls []) := by
  have hx := zc.1
  have hb := zc.2.1
  refine lv_aload_n hx hb dX11_of_0 rfl (lv_at hl 0 rfl) ?_
  refine mg_11_26_0 zc hK hM dX11_of_1 ?_
  refine lv_sipush (v := (132 : Int32)) hx hb dX11_of_4 (by decide) ?_
  refine lv_aload_n hx hb dX11_of_7 rfl (lv_at hl 0 rfl) ?_
  refine mg_11_300_0 zc hK hM dX11_of_8 ?_
  refine lv_imul hx hb dX11_of_11 ?_
  refine lv_iload_n hx hb dX11_of_12 rfl (lv_at hl 1 rfl) ?_
  refine lv_iadd hx hb dX11_of_13 ?_
  refine mld_6 zc hK hM hw.1 dX11_of_14 ?_
  have hw := hw.2
  exact zret_i zc hw dX11_of_15
set_option maxRecDepth 20000 in
theorem c_m_of (l : Launch) {E : zE} {q : Nat} {f_code : Int32} {a_tape : Nat → Int32} {a_size : Nat → Int32} {a_fault : Nat → Int32} {a_faultPlace : Nat → Int32} {a_many : Nat → Int32} {a_lands : Nat → Int32} {a_evenings : Nat → Int32} {a_sights : Nat → Int32} {a_choirs : Nat → Int32} {f_reached : Int32} {f_length : Int32} {f_begins : Int32} {f_sort : Int32} {f_value : Int32} {f_word : Int64} {f_wrongAt : Int32} {f_laterFault : Int32} {f_laterPlace : Int32} {a_told : Nat → Int32} {a_read : Nat → Int32} {f_farHut : Int32} {f_farSinger : Int32} {f_good : Int32} {f_land : Int32} {f_huts : Int32} {f_singers : Int32} {f_evening : Int32} {a_at : Nat → Int32} {a_knows : Nat → Int32} {a_climbed : Nat → Int32} {a_snow : Nat → Int32} {a_level : Nat → Int32} {f_begun : Int32} {f_minute : Int32} {f_avalanches : Int32} {a_run : Nat → Int32} {a_covers : Nat → Int32} {a_routes : Nat → Int32} {a_longest : Nat → Int32} {a_steep : Nat → Int32} {a_laid : Nat → Int32} {a_far : Nat → Int32} {f_sight : Int32} {a_runs : Nat → Int32} {f_choir : Int32} {f_voices : Int32} {a_rest : Nat → Int64} {a_wins : Nat → Int32} {f_seed : Int32} {a_other : Nat → Int32} {a_kept : Nat → Int32} {x1 : Int32} {post : Int32 → Prop} (hw : q_m_of_0 a_lands f_land x1 post) : Met l yX11_of (Cond.code yX11_of cX11_of 2 (some .int) :: zb) rm_m_of (va_Pc [.ref q, .int x1] (fun U => mW E q f_code a_tape a_size a_fault a_faultPlace a_many a_lands a_evenings a_sights a_choirs f_reached f_length f_begins f_sort f_value f_word f_wrongAt f_laterFault f_laterPlace a_told a_read f_farHut f_farSinger f_good f_land f_huts f_singers f_evening a_at a_knows a_climbed a_snow a_level f_begun f_minute f_avalanches a_run a_covers a_routes a_longest a_steep a_laid a_far f_sight a_runs f_choir f_voices a_rest a_wins f_seed a_other a_kept U.heap ∧ zK E U)) (vp_Si post) 0 0 (fun _ => False) := by
  refine Met.ofW (cc := cX11_of) (maxL := 2) (ret := (some .int)) (by decide) rfl ?_
  intro p e s m args below meth c s₁ B hml hv
  obtain ⟨rfl, hM, hK⟩ := hv
  have zc := zc_of B hml
  have hl := lv_entry ([.ref q, .int x1]) (n := 2) (Nat.le_of_ble_eq_true rfl)
  rw [lg_entry_eq]
  generalize (lg_sl ([.ref q, .int x1]) ++ List.replicate (2 - (lg_sl ([.ref q, .int x1])).length) Slot.unset).toArray = ls at hl ⊢
  have hl : lv_has ls 2 [(0, .ref q), (1, .int x1)] := hl
  exact t_m_of_0 zc hK hM (lv_sub hl [0, 1] rfl) hw
-- m_hand
abbrev rm_m_hand : Room := { frames := 2, cells := 0, slots := 0, locals := 44 }
def q_m_hand_0 (a_many : Nat → Int32) (a_lands : Nat → Int32) (f_land : Int32) (f_huts : Int32) (f_singers : Int32) (x1 : Int32) (post : Int32 → (Int32) → (Int32) → (Int32) → Prop) : Prop :=
  q_m_is_0 a_many (0 : Int32) x1 (fun r_1 => (¬ r_1 = 0 → (q_m_of_0 a_lands x1 (0 : Int32) (fun r_2 => q_m_of_0 a_lands x1 (1 : Int32) (fun r_3 => post (1 : Int32) x1 r_2 r_3)))) ∧ (r_1 = 0 → (post (0 : Int32) f_land f_huts f_singers)))
set_option maxRecDepth 20000 in
theorem t_m_hand_0 {p : Program} {l : Launch} {e : Env} {s : State} {m : MethodId} {args : Array Value} {below : List Frame} {meth : Method} {c : Code} {E : zE} {q : Nat} {f_code : Int32} {a_tape : Nat → Int32} {a_size : Nat → Int32} {a_fault : Nat → Int32} {a_faultPlace : Nat → Int32} {a_many : Nat → Int32} {a_lands : Nat → Int32} {a_evenings : Nat → Int32} {a_sights : Nat → Int32} {a_choirs : Nat → Int32} {f_reached : Int32} {f_length : Int32} {f_begins : Int32} {f_sort : Int32} {f_value : Int32} {f_word : Int64} {f_wrongAt : Int32} {f_laterFault : Int32} {f_laterPlace : Int32} {a_told : Nat → Int32} {a_read : Nat → Int32} {f_farHut : Int32} {f_farSinger : Int32} {f_good : Int32} {f_land : Int32} {f_huts : Int32} {f_singers : Int32} {f_evening : Int32} {a_at : Nat → Int32} {a_knows : Nat → Int32} {a_climbed : Nat → Int32} {a_snow : Nat → Int32} {a_level : Nat → Int32} {f_begun : Int32} {f_minute : Int32} {f_avalanches : Int32} {a_run : Nat → Int32} {a_covers : Nat → Int32} {a_routes : Nat → Int32} {a_longest : Nat → Int32} {a_steep : Nat → Int32} {a_laid : Nat → Int32} {a_far : Nat → Int32} {f_sight : Int32} {a_runs : Nat → Int32} {f_choir : Int32} {f_voices : Int32} {a_rest : Nat → Int64} {a_wins : Nat → Int32} {f_seed : Int32} {a_other : Nat → Int32} {a_kept : Nat → Int32} {post : Int32 → (Int32) → (Int32) → (Int32) → Prop} {x1 : Int32} {ls : Array Slot} {H : Heap} {locs : List Loc}
    (zc : zC p s m args meth c cX11_hand 2 RX11 (some .boolean))
    (hK : zK E s)
    (hM : mW E q f_code a_tape a_size a_fault a_faultPlace a_many a_lands a_evenings a_sights a_choirs f_reached f_length f_begins f_sort f_value f_word f_wrongAt f_laterFault f_laterPlace a_told a_read f_farHut f_farSinger f_good f_land f_huts f_singers f_evening a_at a_knows a_climbed a_snow a_level f_begun f_minute f_avalanches a_run a_covers a_routes a_longest a_steep a_laid a_far f_sight a_runs f_choir f_voices a_rest a_wins f_seed a_other a_kept H)
    (hS : va_S (mA q) s.heap H locs)
    (hl : lv_has ls 2 [(0, .ref q), (1, .int x1)])
    (hw : q_m_hand_0 a_many a_lands f_land f_huts f_singers x1 post) :
    W p l e rm_m_hand s m args below meth c H locs 0 0 (MQ below (zQi (S := (Int32) × (Int32) × (Int32)) (fun r u => post r u.1 u.2.1 u.2.2) (fun u H => mW E q f_code a_tape a_size a_fault a_faultPlace a_many a_lands a_evenings a_sights a_choirs f_reached f_length f_begins f_sort f_value f_word f_wrongAt f_laterFault f_laterPlace a_told a_read f_farHut f_farSinger f_good u.1 u.2.1 u.2.2 f_evening a_at a_knows a_climbed a_snow a_level f_begun f_minute f_avalanches a_run a_covers a_routes a_longest a_steep a_laid a_far f_sight a_runs f_choir f_voices a_rest a_wins f_seed a_other a_kept H) (mA q)) args s 0 0 (mA q)) (F0 m 0 ls []) := by
  have hx := zc.1
  have hb := zc.2.1
  refine lv_aload_n hx hb dX11_hand_0 rfl (lv_at hl 0 rfl) ?_
  refine lv_iconst (v := (0 : Int32)) hx hb dX11_hand_1 (by decide) ?_
  refine lv_iload_n hx hb dX11_hand_2 rfl (lv_at hl 1 rfl) ?_
  refine zV_i [.int (0 : Int32), .int x1] [] zc ky_X11_is kz_X11_is km_11_291 (c_m_is l hw) (mPreV0 hK hM) rfl rfl hl.1 (Nat.le_of_ble_eq_true rfl) ⟨rfl, rfl⟩ ⟨Nat.le_of_ble_eq_true rfl, Nat.le_of_ble_eq_true rfl⟩ ⟨(Nat.zero_le _), (Nat.zero_le _)⟩ dX11_hand_3 (fun r_1 hw => ?_)
  refine lv_if_ne (tgt := 11) hx hb dX11_hand_6 (by decide) (fun hc => ?_) (fun hc => ?_)
  · have hw := hw.1 hc
    refine lv_aload_n hx hb dX11_hand_11 rfl (lv_at hl 0 rfl) ?_
    refine lv_iload_n hx hb dX11_hand_12 rfl (lv_at hl 1 rfl) ?_
    refine mp_11_300_0 zc hK hM hS dX11_hand_13 (fun H locs hM hS => ?_)
    refine lv_aload_n hx hb dX11_hand_16 rfl (lv_at hl 0 rfl) ?_
    refine lv_aload_n hx hb dX11_hand_17 rfl (lv_at hl 0 rfl) ?_
    refine lv_iconst (v := (0 : Int32)) hx hb dX11_hand_18 (by decide) ?_
    refine zV_i [.int (0 : Int32)] [.ref q] zc ky_X11_of kz_X11_of km_11_303 (c_m_of l hw) (mPreV0 hK hM) rfl rfl hl.1 (Nat.le_of_ble_eq_true rfl) ⟨rfl, rfl⟩ ⟨Nat.le_of_ble_eq_true rfl, Nat.le_of_ble_eq_true rfl⟩ ⟨(Nat.zero_le _), (Nat.zero_le _)⟩ dX11_hand_19 (fun r_2 hw => ?_)
    refine mp_11_307_0 zc hK hM hS dX11_hand_22 (fun H locs hM hS => ?_)
    refine lv_aload_n hx hb dX11_hand_25 rfl (lv_at hl 0 rfl) ?_
    refine lv_aload_n hx hb dX11_hand_26 rfl (lv_at hl 0 rfl) ?_
    refine lv_iconst (v := (1 : Int32)) hx hb dX11_hand_27 (by decide) ?_
    refine zV_i [.int (1 : Int32)] [.ref q] zc ky_X11_of kz_X11_of km_11_303 (c_m_of l hw) (mPreV0 hK hM) rfl rfl hl.1 (Nat.le_of_ble_eq_true rfl) ⟨rfl, rfl⟩ ⟨Nat.le_of_ble_eq_true rfl, Nat.le_of_ble_eq_true rfl⟩ ⟨(Nat.zero_le _), (Nat.zero_le _)⟩ dX11_hand_28 (fun r_3 hw => ?_)
    refine mp_11_310_0 zc hK hM hS dX11_hand_31 (fun H locs hM hS => ?_)
    refine lv_iconst (v := (1 : Int32)) hx hb dX11_hand_34 (by decide) ?_
    exact zret_zw ⟨x1, r_2, r_3⟩ zc hS rfl hw hM dX11_hand_35
  · have hw := hw.2 hc
    refine lv_iconst (v := (0 : Int32)) hx hb dX11_hand_9 (by decide) ?_
    exact zret_zw ⟨f_land, f_huts, f_singers⟩ zc hS rfl hw hM dX11_hand_10
set_option maxRecDepth 20000 in
theorem c_m_hand (l : Launch) {E : zE} {q : Nat} {f_code : Int32} {a_tape : Nat → Int32} {a_size : Nat → Int32} {a_fault : Nat → Int32} {a_faultPlace : Nat → Int32} {a_many : Nat → Int32} {a_lands : Nat → Int32} {a_evenings : Nat → Int32} {a_sights : Nat → Int32} {a_choirs : Nat → Int32} {f_reached : Int32} {f_length : Int32} {f_begins : Int32} {f_sort : Int32} {f_value : Int32} {f_word : Int64} {f_wrongAt : Int32} {f_laterFault : Int32} {f_laterPlace : Int32} {a_told : Nat → Int32} {a_read : Nat → Int32} {f_farHut : Int32} {f_farSinger : Int32} {f_good : Int32} {f_land : Int32} {f_huts : Int32} {f_singers : Int32} {f_evening : Int32} {a_at : Nat → Int32} {a_knows : Nat → Int32} {a_climbed : Nat → Int32} {a_snow : Nat → Int32} {a_level : Nat → Int32} {f_begun : Int32} {f_minute : Int32} {f_avalanches : Int32} {a_run : Nat → Int32} {a_covers : Nat → Int32} {a_routes : Nat → Int32} {a_longest : Nat → Int32} {a_steep : Nat → Int32} {a_laid : Nat → Int32} {a_far : Nat → Int32} {f_sight : Int32} {a_runs : Nat → Int32} {f_choir : Int32} {f_voices : Int32} {a_rest : Nat → Int64} {a_wins : Nat → Int32} {f_seed : Int32} {a_other : Nat → Int32} {a_kept : Nat → Int32} {x1 : Int32} {post : Int32 → (Int32) → (Int32) → (Int32) → Prop} (hw : q_m_hand_0 a_many a_lands f_land f_huts f_singers x1 post) : Met l yX11_hand (Cond.code yX11_hand cX11_hand 2 (some .boolean) :: zb) rm_m_hand (va_Pc [.ref q, .int x1] (fun U => mW E q f_code a_tape a_size a_fault a_faultPlace a_many a_lands a_evenings a_sights a_choirs f_reached f_length f_begins f_sort f_value f_word f_wrongAt f_laterFault f_laterPlace a_told a_read f_farHut f_farSinger f_good f_land f_huts f_singers f_evening a_at a_knows a_climbed a_snow a_level f_begun f_minute f_avalanches a_run a_covers a_routes a_longest a_steep a_laid a_far f_sight a_runs f_choir f_voices a_rest a_wins f_seed a_other a_kept U.heap ∧ zK E U)) (zQi (S := (Int32) × (Int32) × (Int32)) (fun r u => post r u.1 u.2.1 u.2.2) (fun u H => mW E q f_code a_tape a_size a_fault a_faultPlace a_many a_lands a_evenings a_sights a_choirs f_reached f_length f_begins f_sort f_value f_word f_wrongAt f_laterFault f_laterPlace a_told a_read f_farHut f_farSinger f_good u.1 u.2.1 u.2.2 f_evening a_at a_knows a_climbed a_snow a_level f_begun f_minute f_avalanches a_run a_covers a_routes a_longest a_steep a_laid a_far f_sight a_runs f_choir f_voices a_rest a_wins f_seed a_other a_kept H) (mA q)) 0 0 (mA q) := by
  refine Met.ofW (cc := cX11_hand) (maxL := 2) (ret := (some .boolean)) (by decide) rfl ?_
  intro p e s m args below meth c s₁ B hml hv
  obtain ⟨rfl, hM, hK⟩ := hv
  have zc := zc_of B hml
  have hl := lv_entry ([.ref q, .int x1]) (n := 2) (Nat.le_of_ble_eq_true rfl)
  rw [lg_entry_eq]
  generalize (lg_sl ([.ref q, .int x1]) ++ List.replicate (2 - (lg_sl ([.ref q, .int x1])).length) Slot.unset).toArray = ls at hl ⊢
  have hl : lv_has ls 2 [(0, .ref q), (1, .int x1)] := hl
  exact t_m_hand_0 zc hK hM va_S.rf (lv_sub hl [0, 1] rfl) hw
-- m_isHut
abbrev rm_m_isHut : Room := { frames := 1, cells := 0, slots := 0, locals := 22 }
def q_m_isHut_0 (f_huts : Int32) (x1 : Int32) (post : Int32 → Prop) : Prop :=
  q_m_in_0 x1 (0 : Int32) (f_huts - (1 : Int32)) (fun r_1 => narrow .boolean (.int r_1) = .int r_1 ∧ post r_1)
set_option maxRecDepth 20000 in
theorem t_m_isHut_0 {p : Program} {l : Launch} {e : Env} {s : State} {m : MethodId} {args : Array Value} {below : List Frame} {meth : Method} {c : Code} {E : zE} {q : Nat} {f_code : Int32} {a_tape : Nat → Int32} {a_size : Nat → Int32} {a_fault : Nat → Int32} {a_faultPlace : Nat → Int32} {a_many : Nat → Int32} {a_lands : Nat → Int32} {a_evenings : Nat → Int32} {a_sights : Nat → Int32} {a_choirs : Nat → Int32} {f_reached : Int32} {f_length : Int32} {f_begins : Int32} {f_sort : Int32} {f_value : Int32} {f_word : Int64} {f_wrongAt : Int32} {f_laterFault : Int32} {f_laterPlace : Int32} {a_told : Nat → Int32} {a_read : Nat → Int32} {f_farHut : Int32} {f_farSinger : Int32} {f_good : Int32} {f_land : Int32} {f_huts : Int32} {f_singers : Int32} {f_evening : Int32} {a_at : Nat → Int32} {a_knows : Nat → Int32} {a_climbed : Nat → Int32} {a_snow : Nat → Int32} {a_level : Nat → Int32} {f_begun : Int32} {f_minute : Int32} {f_avalanches : Int32} {a_run : Nat → Int32} {a_covers : Nat → Int32} {a_routes : Nat → Int32} {a_longest : Nat → Int32} {a_steep : Nat → Int32} {a_laid : Nat → Int32} {a_far : Nat → Int32} {f_sight : Int32} {a_runs : Nat → Int32} {f_choir : Int32} {f_voices : Int32} {a_rest : Nat → Int64} {a_wins : Nat → Int32} {f_seed : Int32} {a_other : Nat → Int32} {a_kept : Nat → Int32} {post : Int32 → Prop} {x1 : Int32} {ls : Array Slot}
    (zc : zC p s m args meth c cX11_isHut 2 RX11 (some .boolean))
    (hK : zK E s)
    (hM : mW E q f_code a_tape a_size a_fault a_faultPlace a_many a_lands a_evenings a_sights a_choirs f_reached f_length f_begins f_sort f_value f_word f_wrongAt f_laterFault f_laterPlace a_told a_read f_farHut f_farSinger f_good f_land f_huts f_singers f_evening a_at a_knows a_climbed a_snow a_level f_begun f_minute f_avalanches a_run a_covers a_routes a_longest a_steep a_laid a_far f_sight a_runs f_choir f_voices a_rest a_wins f_seed a_other a_kept s.heap)
    (hl : lv_has ls 2 [(0, .ref q), (1, .int x1)])
    (hw : q_m_isHut_0 f_huts x1 post) :
    W p l e rm_m_isHut s m args below meth c s.heap [] 0 0 (MQ below (vp_Si post) args s 0 0 (fun _ => False)) (F0 m 0 ls []) := by
  have hx := zc.1
  have hb := zc.2.1
  refine lv_iload_n hx hb dX11_isHut_0 rfl (lv_at hl 1 rfl) ?_
  refine lv_iconst (v := (0 : Int32)) hx hb dX11_isHut_1 (by decide) ?_
  refine lv_aload_n hx hb dX11_isHut_2 rfl (lv_at hl 0 rfl) ?_
  refine mg_11_307_0 zc hK hM dX11_isHut_3 ?_
  refine lv_iconst (v := (1 : Int32)) hx hb dX11_isHut_6 (by decide) ?_
  refine lv_isub hx hb dX11_isHut_7 ?_
  refine zS_i [.int x1, .int (0 : Int32), .int (f_huts - (1 : Int32))] [] zc ky_X11_in kz_X11_in km_11_109 (c_m_in l hw) (zPre0 _) rfl rfl hl.1 (Nat.le_of_ble_eq_true rfl) ⟨rfl, rfl⟩ ⟨Nat.le_of_ble_eq_true rfl, Nat.le_of_ble_eq_true rfl⟩ ⟨(Nat.zero_le _), (Nat.zero_le _)⟩ dX11_isHut_8 (fun r_1 hw => ?_)
  exact zret_z zc hw.1 hw.2 dX11_isHut_11
set_option maxRecDepth 20000 in
theorem c_m_isHut (l : Launch) {E : zE} {q : Nat} {f_code : Int32} {a_tape : Nat → Int32} {a_size : Nat → Int32} {a_fault : Nat → Int32} {a_faultPlace : Nat → Int32} {a_many : Nat → Int32} {a_lands : Nat → Int32} {a_evenings : Nat → Int32} {a_sights : Nat → Int32} {a_choirs : Nat → Int32} {f_reached : Int32} {f_length : Int32} {f_begins : Int32} {f_sort : Int32} {f_value : Int32} {f_word : Int64} {f_wrongAt : Int32} {f_laterFault : Int32} {f_laterPlace : Int32} {a_told : Nat → Int32} {a_read : Nat → Int32} {f_farHut : Int32} {f_farSinger : Int32} {f_good : Int32} {f_land : Int32} {f_huts : Int32} {f_singers : Int32} {f_evening : Int32} {a_at : Nat → Int32} {a_knows : Nat → Int32} {a_climbed : Nat → Int32} {a_snow : Nat → Int32} {a_level : Nat → Int32} {f_begun : Int32} {f_minute : Int32} {f_avalanches : Int32} {a_run : Nat → Int32} {a_covers : Nat → Int32} {a_routes : Nat → Int32} {a_longest : Nat → Int32} {a_steep : Nat → Int32} {a_laid : Nat → Int32} {a_far : Nat → Int32} {f_sight : Int32} {a_runs : Nat → Int32} {f_choir : Int32} {f_voices : Int32} {a_rest : Nat → Int64} {a_wins : Nat → Int32} {f_seed : Int32} {a_other : Nat → Int32} {a_kept : Nat → Int32} {x1 : Int32} {post : Int32 → Prop} (hw : q_m_isHut_0 f_huts x1 post) : Met l yX11_isHut (Cond.code yX11_isHut cX11_isHut 2 (some .boolean) :: zb) rm_m_isHut (va_Pc [.ref q, .int x1] (fun U => mW E q f_code a_tape a_size a_fault a_faultPlace a_many a_lands a_evenings a_sights a_choirs f_reached f_length f_begins f_sort f_value f_word f_wrongAt f_laterFault f_laterPlace a_told a_read f_farHut f_farSinger f_good f_land f_huts f_singers f_evening a_at a_knows a_climbed a_snow a_level f_begun f_minute f_avalanches a_run a_covers a_routes a_longest a_steep a_laid a_far f_sight a_runs f_choir f_voices a_rest a_wins f_seed a_other a_kept U.heap ∧ zK E U)) (vp_Si post) 0 0 (fun _ => False) := by
  refine Met.ofW (cc := cX11_isHut) (maxL := 2) (ret := (some .boolean)) (by decide) rfl ?_
  intro p e s m args below meth c s₁ B hml hv
  obtain ⟨rfl, hM, hK⟩ := hv
  have zc := zc_of B hml
  have hl := lv_entry ([.ref q, .int x1]) (n := 2) (Nat.le_of_ble_eq_true rfl)
  rw [lg_entry_eq]
  generalize (lg_sl ([.ref q, .int x1]) ++ List.replicate (2 - (lg_sl ([.ref q, .int x1])).length) Slot.unset).toArray = ls at hl ⊢
  have hl : lv_has ls 2 [(0, .ref q), (1, .int x1)] := hl
  exact t_m_isHut_0 zc hK hM (lv_sub hl [0, 1] rfl) hw
-- m_isSinger
abbrev rm_m_isSinger : Room := { frames := 1, cells := 0, slots := 0, locals := 22 }
def q_m_isSinger_0 (f_singers : Int32) (x1 : Int32) (post : Int32 → Prop) : Prop :=
  q_m_in_0 x1 (0 : Int32) (f_singers - (1 : Int32)) (fun r_1 => narrow .boolean (.int r_1) = .int r_1 ∧ post r_1)
set_option maxRecDepth 20000 in
theorem t_m_isSinger_0 {p : Program} {l : Launch} {e : Env} {s : State} {m : MethodId} {args : Array Value} {below : List Frame} {meth : Method} {c : Code} {E : zE} {q : Nat} {f_code : Int32} {a_tape : Nat → Int32} {a_size : Nat → Int32} {a_fault : Nat → Int32} {a_faultPlace : Nat → Int32} {a_many : Nat → Int32} {a_lands : Nat → Int32} {a_evenings : Nat → Int32} {a_sights : Nat → Int32} {a_choirs : Nat → Int32} {f_reached : Int32} {f_length : Int32} {f_begins : Int32} {f_sort : Int32} {f_value : Int32} {f_word : Int64} {f_wrongAt : Int32} {f_laterFault : Int32} {f_laterPlace : Int32} {a_told : Nat → Int32} {a_read : Nat → Int32} {f_farHut : Int32} {f_farSinger : Int32} {f_good : Int32} {f_land : Int32} {f_huts : Int32} {f_singers : Int32} {f_evening : Int32} {a_at : Nat → Int32} {a_knows : Nat → Int32} {a_climbed : Nat → Int32} {a_snow : Nat → Int32} {a_level : Nat → Int32} {f_begun : Int32} {f_minute : Int32} {f_avalanches : Int32} {a_run : Nat → Int32} {a_covers : Nat → Int32} {a_routes : Nat → Int32} {a_longest : Nat → Int32} {a_steep : Nat → Int32} {a_laid : Nat → Int32} {a_far : Nat → Int32} {f_sight : Int32} {a_runs : Nat → Int32} {f_choir : Int32} {f_voices : Int32} {a_rest : Nat → Int64} {a_wins : Nat → Int32} {f_seed : Int32} {a_other : Nat → Int32} {a_kept : Nat → Int32} {post : Int32 → Prop} {x1 : Int32} {ls : Array Slot}
    (zc : zC p s m args meth c cX11_isSinger 2 RX11 (some .boolean))
    (hK : zK E s)
    (hM : mW E q f_code a_tape a_size a_fault a_faultPlace a_many a_lands a_evenings a_sights a_choirs f_reached f_length f_begins f_sort f_value f_word f_wrongAt f_laterFault f_laterPlace a_told a_read f_farHut f_farSinger f_good f_land f_huts f_singers f_evening a_at a_knows a_climbed a_snow a_level f_begun f_minute f_avalanches a_run a_covers a_routes a_longest a_steep a_laid a_far f_sight a_runs f_choir f_voices a_rest a_wins f_seed a_other a_kept s.heap)
    (hl : lv_has ls 2 [(0, .ref q), (1, .int x1)])
    (hw : q_m_isSinger_0 f_singers x1 post) :
    W p l e rm_m_isSinger s m args below meth c s.heap [] 0 0 (MQ below (vp_Si post) args s 0 0 (fun _ => False)) (F0 m 0 ls []) := by
  have hx := zc.1
  have hb := zc.2.1
  refine lv_iload_n hx hb dX11_isSinger_0 rfl (lv_at hl 1 rfl) ?_
  refine lv_iconst (v := (0 : Int32)) hx hb dX11_isSinger_1 (by decide) ?_
  refine lv_aload_n hx hb dX11_isSinger_2 rfl (lv_at hl 0 rfl) ?_
  refine mg_11_310_0 zc hK hM dX11_isSinger_3 ?_
  refine lv_iconst (v := (1 : Int32)) hx hb dX11_isSinger_6 (by decide) ?_
  refine lv_isub hx hb dX11_isSinger_7 ?_
  refine zS_i [.int x1, .int (0 : Int32), .int (f_singers - (1 : Int32))] [] zc ky_X11_in kz_X11_in km_11_109 (c_m_in l hw) (zPre0 _) rfl rfl hl.1 (Nat.le_of_ble_eq_true rfl) ⟨rfl, rfl⟩ ⟨Nat.le_of_ble_eq_true rfl, Nat.le_of_ble_eq_true rfl⟩ ⟨(Nat.zero_le _), (Nat.zero_le _)⟩ dX11_isSinger_8 (fun r_1 hw => ?_)
  exact zret_z zc hw.1 hw.2 dX11_isSinger_11
set_option maxRecDepth 20000 in
theorem c_m_isSinger (l : Launch) {E : zE} {q : Nat} {f_code : Int32} {a_tape : Nat → Int32} {a_size : Nat → Int32} {a_fault : Nat → Int32} {a_faultPlace : Nat → Int32} {a_many : Nat → Int32} {a_lands : Nat → Int32} {a_evenings : Nat → Int32} {a_sights : Nat → Int32} {a_choirs : Nat → Int32} {f_reached : Int32} {f_length : Int32} {f_begins : Int32} {f_sort : Int32} {f_value : Int32} {f_word : Int64} {f_wrongAt : Int32} {f_laterFault : Int32} {f_laterPlace : Int32} {a_told : Nat → Int32} {a_read : Nat → Int32} {f_farHut : Int32} {f_farSinger : Int32} {f_good : Int32} {f_land : Int32} {f_huts : Int32} {f_singers : Int32} {f_evening : Int32} {a_at : Nat → Int32} {a_knows : Nat → Int32} {a_climbed : Nat → Int32} {a_snow : Nat → Int32} {a_level : Nat → Int32} {f_begun : Int32} {f_minute : Int32} {f_avalanches : Int32} {a_run : Nat → Int32} {a_covers : Nat → Int32} {a_routes : Nat → Int32} {a_longest : Nat → Int32} {a_steep : Nat → Int32} {a_laid : Nat → Int32} {a_far : Nat → Int32} {f_sight : Int32} {a_runs : Nat → Int32} {f_choir : Int32} {f_voices : Int32} {a_rest : Nat → Int64} {a_wins : Nat → Int32} {f_seed : Int32} {a_other : Nat → Int32} {a_kept : Nat → Int32} {x1 : Int32} {post : Int32 → Prop} (hw : q_m_isSinger_0 f_singers x1 post) : Met l yX11_isSinger (Cond.code yX11_isSinger cX11_isSinger 2 (some .boolean) :: zb) rm_m_isSinger (va_Pc [.ref q, .int x1] (fun U => mW E q f_code a_tape a_size a_fault a_faultPlace a_many a_lands a_evenings a_sights a_choirs f_reached f_length f_begins f_sort f_value f_word f_wrongAt f_laterFault f_laterPlace a_told a_read f_farHut f_farSinger f_good f_land f_huts f_singers f_evening a_at a_knows a_climbed a_snow a_level f_begun f_minute f_avalanches a_run a_covers a_routes a_longest a_steep a_laid a_far f_sight a_runs f_choir f_voices a_rest a_wins f_seed a_other a_kept U.heap ∧ zK E U)) (vp_Si post) 0 0 (fun _ => False) := by
  refine Met.ofW (cc := cX11_isSinger) (maxL := 2) (ret := (some .boolean)) (by decide) rfl ?_
  intro p e s m args below meth c s₁ B hml hv
  obtain ⟨rfl, hM, hK⟩ := hv
  have zc := zc_of B hml
  have hl := lv_entry ([.ref q, .int x1]) (n := 2) (Nat.le_of_ble_eq_true rfl)
  rw [lg_entry_eq]
  generalize (lg_sl ([.ref q, .int x1]) ++ List.replicate (2 - (lg_sl ([.ref q, .int x1])).length) Slot.unset).toArray = ls at hl ⊢
  have hl : lv_has ls 2 [(0, .ref q), (1, .int x1)] := hl
  exact t_m_isSinger_0 zc hK hM (lv_sub hl [0, 1] rfl) hw
-- m_isDam
abbrev rm_m_isDam : Room := { frames := 1, cells := 0, slots := 0, locals := 21 }
def q_m_isDam_0 (a_lands : Nat → Int32) (f_land : Int32) (x1 : Int32) (post : Int32 → Prop) : Prop :=
  q_m_of_0 a_lands f_land (3 : Int32) (fun r_1 => q_m_has_0 r_1 x1 (fun r_2 => narrow .boolean (.int r_2) = .int r_2 ∧ post r_2))
set_option maxRecDepth 20000 in
theorem t_m_isDam_0 {p : Program} {l : Launch} {e : Env} {s : State} {m : MethodId} {args : Array Value} {below : List Frame} {meth : Method} {c : Code} {E : zE} {q : Nat} {f_code : Int32} {a_tape : Nat → Int32} {a_size : Nat → Int32} {a_fault : Nat → Int32} {a_faultPlace : Nat → Int32} {a_many : Nat → Int32} {a_lands : Nat → Int32} {a_evenings : Nat → Int32} {a_sights : Nat → Int32} {a_choirs : Nat → Int32} {f_reached : Int32} {f_length : Int32} {f_begins : Int32} {f_sort : Int32} {f_value : Int32} {f_word : Int64} {f_wrongAt : Int32} {f_laterFault : Int32} {f_laterPlace : Int32} {a_told : Nat → Int32} {a_read : Nat → Int32} {f_farHut : Int32} {f_farSinger : Int32} {f_good : Int32} {f_land : Int32} {f_huts : Int32} {f_singers : Int32} {f_evening : Int32} {a_at : Nat → Int32} {a_knows : Nat → Int32} {a_climbed : Nat → Int32} {a_snow : Nat → Int32} {a_level : Nat → Int32} {f_begun : Int32} {f_minute : Int32} {f_avalanches : Int32} {a_run : Nat → Int32} {a_covers : Nat → Int32} {a_routes : Nat → Int32} {a_longest : Nat → Int32} {a_steep : Nat → Int32} {a_laid : Nat → Int32} {a_far : Nat → Int32} {f_sight : Int32} {a_runs : Nat → Int32} {f_choir : Int32} {f_voices : Int32} {a_rest : Nat → Int64} {a_wins : Nat → Int32} {f_seed : Int32} {a_other : Nat → Int32} {a_kept : Nat → Int32} {post : Int32 → Prop} {x1 : Int32} {ls : Array Slot}
    (zc : zC p s m args meth c cX11_isDam 2 RX11 (some .boolean))
    (hK : zK E s)
    (hM : mW E q f_code a_tape a_size a_fault a_faultPlace a_many a_lands a_evenings a_sights a_choirs f_reached f_length f_begins f_sort f_value f_word f_wrongAt f_laterFault f_laterPlace a_told a_read f_farHut f_farSinger f_good f_land f_huts f_singers f_evening a_at a_knows a_climbed a_snow a_level f_begun f_minute f_avalanches a_run a_covers a_routes a_longest a_steep a_laid a_far f_sight a_runs f_choir f_voices a_rest a_wins f_seed a_other a_kept s.heap)
    (hl : lv_has ls 2 [(0, .ref q), (1, .int x1)])
    (hw : q_m_isDam_0 a_lands f_land x1 post) :
    W p l e rm_m_isDam s m args below meth c s.heap [] 0 0 (MQ below (vp_Si post) args s 0 0 (fun _ => False)) (F0 m 0 ls []) := by
  have hx := zc.1
  have hb := zc.2.1
  refine lv_aload_n hx hb dX11_isDam_0 rfl (lv_at hl 0 rfl) ?_
  refine lv_iconst (v := (3 : Int32)) hx hb dX11_isDam_1 (by decide) ?_
  refine zV_i [.int (3 : Int32)] [] zc ky_X11_of kz_X11_of km_11_303 (c_m_of l hw) (mPreV0 hK hM) rfl rfl hl.1 (Nat.le_of_ble_eq_true rfl) ⟨rfl, rfl⟩ ⟨Nat.le_of_ble_eq_true rfl, Nat.le_of_ble_eq_true rfl⟩ ⟨(Nat.zero_le _), (Nat.zero_le _)⟩ dX11_isDam_2 (fun r_1 hw => ?_)
  refine lv_iload_n hx hb dX11_isDam_5 rfl (lv_at hl 1 rfl) ?_
  refine zS_i [.int r_1, .int x1] [] zc ky_X11_has kz_X11_has km_11_101 (c_m_has l hw) (zPre0 _) rfl rfl hl.1 (Nat.le_of_ble_eq_true rfl) ⟨rfl, rfl⟩ ⟨Nat.le_of_ble_eq_true rfl, Nat.le_of_ble_eq_true rfl⟩ ⟨(Nat.zero_le _), (Nat.zero_le _)⟩ dX11_isDam_6 (fun r_2 hw => ?_)
  exact zret_z zc hw.1 hw.2 dX11_isDam_9
set_option maxRecDepth 20000 in
theorem c_m_isDam (l : Launch) {E : zE} {q : Nat} {f_code : Int32} {a_tape : Nat → Int32} {a_size : Nat → Int32} {a_fault : Nat → Int32} {a_faultPlace : Nat → Int32} {a_many : Nat → Int32} {a_lands : Nat → Int32} {a_evenings : Nat → Int32} {a_sights : Nat → Int32} {a_choirs : Nat → Int32} {f_reached : Int32} {f_length : Int32} {f_begins : Int32} {f_sort : Int32} {f_value : Int32} {f_word : Int64} {f_wrongAt : Int32} {f_laterFault : Int32} {f_laterPlace : Int32} {a_told : Nat → Int32} {a_read : Nat → Int32} {f_farHut : Int32} {f_farSinger : Int32} {f_good : Int32} {f_land : Int32} {f_huts : Int32} {f_singers : Int32} {f_evening : Int32} {a_at : Nat → Int32} {a_knows : Nat → Int32} {a_climbed : Nat → Int32} {a_snow : Nat → Int32} {a_level : Nat → Int32} {f_begun : Int32} {f_minute : Int32} {f_avalanches : Int32} {a_run : Nat → Int32} {a_covers : Nat → Int32} {a_routes : Nat → Int32} {a_longest : Nat → Int32} {a_steep : Nat → Int32} {a_laid : Nat → Int32} {a_far : Nat → Int32} {f_sight : Int32} {a_runs : Nat → Int32} {f_choir : Int32} {f_voices : Int32} {a_rest : Nat → Int64} {a_wins : Nat → Int32} {f_seed : Int32} {a_other : Nat → Int32} {a_kept : Nat → Int32} {x1 : Int32} {post : Int32 → Prop} (hw : q_m_isDam_0 a_lands f_land x1 post) : Met l yX11_isDam (Cond.code yX11_isDam cX11_isDam 2 (some .boolean) :: zb) rm_m_isDam (va_Pc [.ref q, .int x1] (fun U => mW E q f_code a_tape a_size a_fault a_faultPlace a_many a_lands a_evenings a_sights a_choirs f_reached f_length f_begins f_sort f_value f_word f_wrongAt f_laterFault f_laterPlace a_told a_read f_farHut f_farSinger f_good f_land f_huts f_singers f_evening a_at a_knows a_climbed a_snow a_level f_begun f_minute f_avalanches a_run a_covers a_routes a_longest a_steep a_laid a_far f_sight a_runs f_choir f_voices a_rest a_wins f_seed a_other a_kept U.heap ∧ zK E U)) (vp_Si post) 0 0 (fun _ => False) := by
  refine Met.ofW (cc := cX11_isDam) (maxL := 2) (ret := (some .boolean)) (by decide) rfl ?_
  intro p e s m args below meth c s₁ B hml hv
  obtain ⟨rfl, hM, hK⟩ := hv
  have zc := zc_of B hml
  have hl := lv_entry ([.ref q, .int x1]) (n := 2) (Nat.le_of_ble_eq_true rfl)
  rw [lg_entry_eq]
  generalize (lg_sl ([.ref q, .int x1]) ++ List.replicate (2 - (lg_sl ([.ref q, .int x1])).length) Slot.unset).toArray = ls at hl ⊢
  have hl : lv_has ls 2 [(0, .ref q), (1, .int x1)] := hl
  exact t_m_isDam_0 zc hK hM (lv_sub hl [0, 1] rfl) hw
-- m_height
abbrev rm_m_height : Room := { frames := 1, cells := 0, slots := 0, locals := 21 }
def q_m_height_0 (a_lands : Nat → Int32) (f_land : Int32) (x1 : Int32) (post : Int32 → Prop) : Prop :=
  q_m_of_0 a_lands f_land ((7 : Int32) + x1) (fun r_1 => post r_1)
set_option maxRecDepth 20000 in
theorem t_m_height_0 {p : Program} {l : Launch} {e : Env} {s : State} {m : MethodId} {args : Array Value} {below : List Frame} {meth : Method} {c : Code} {E : zE} {q : Nat} {f_code : Int32} {a_tape : Nat → Int32} {a_size : Nat → Int32} {a_fault : Nat → Int32} {a_faultPlace : Nat → Int32} {a_many : Nat → Int32} {a_lands : Nat → Int32} {a_evenings : Nat → Int32} {a_sights : Nat → Int32} {a_choirs : Nat → Int32} {f_reached : Int32} {f_length : Int32} {f_begins : Int32} {f_sort : Int32} {f_value : Int32} {f_word : Int64} {f_wrongAt : Int32} {f_laterFault : Int32} {f_laterPlace : Int32} {a_told : Nat → Int32} {a_read : Nat → Int32} {f_farHut : Int32} {f_farSinger : Int32} {f_good : Int32} {f_land : Int32} {f_huts : Int32} {f_singers : Int32} {f_evening : Int32} {a_at : Nat → Int32} {a_knows : Nat → Int32} {a_climbed : Nat → Int32} {a_snow : Nat → Int32} {a_level : Nat → Int32} {f_begun : Int32} {f_minute : Int32} {f_avalanches : Int32} {a_run : Nat → Int32} {a_covers : Nat → Int32} {a_routes : Nat → Int32} {a_longest : Nat → Int32} {a_steep : Nat → Int32} {a_laid : Nat → Int32} {a_far : Nat → Int32} {f_sight : Int32} {a_runs : Nat → Int32} {f_choir : Int32} {f_voices : Int32} {a_rest : Nat → Int64} {a_wins : Nat → Int32} {f_seed : Int32} {a_other : Nat → Int32} {a_kept : Nat → Int32} {post : Int32 → Prop} {x1 : Int32} {ls : Array Slot}
    (zc : zC p s m args meth c cX11_height 2 RX11 (some .int))
    (hK : zK E s)
    (hM : mW E q f_code a_tape a_size a_fault a_faultPlace a_many a_lands a_evenings a_sights a_choirs f_reached f_length f_begins f_sort f_value f_word f_wrongAt f_laterFault f_laterPlace a_told a_read f_farHut f_farSinger f_good f_land f_huts f_singers f_evening a_at a_knows a_climbed a_snow a_level f_begun f_minute f_avalanches a_run a_covers a_routes a_longest a_steep a_laid a_far f_sight a_runs f_choir f_voices a_rest a_wins f_seed a_other a_kept s.heap)
    (hl : lv_has ls 2 [(0, .ref q), (1, .int x1)])
    (hw : q_m_height_0 a_lands f_land x1 post) :
    W p l e rm_m_height s m args below meth c s.heap [] 0 0 (MQ below (vp_Si post) args s 0 0 (fun _ => False)) (F0 m 0 ls []) := by
  have hx := zc.1
  have hb := zc.2.1
  refine lv_aload_n hx hb dX11_height_0 rfl (lv_at hl 0 rfl) ?_
  refine lv_bipush (v := (7 : Int32)) hx hb dX11_height_1 (by decide) ?_
  refine lv_iload_n hx hb dX11_height_3 rfl (lv_at hl 1 rfl) ?_
  refine lv_iadd hx hb dX11_height_4 ?_
  refine zV_i [.int ((7 : Int32) + x1)] [] zc ky_X11_of kz_X11_of km_11_303 (c_m_of l hw) (mPreV0 hK hM) rfl rfl hl.1 (Nat.le_of_ble_eq_true rfl) ⟨rfl, rfl⟩ ⟨Nat.le_of_ble_eq_true rfl, Nat.le_of_ble_eq_true rfl⟩ ⟨(Nat.zero_le _), (Nat.zero_le _)⟩ dX11_height_5 (fun r_1 hw => ?_)
  exact zret_i zc hw dX11_height_8
set_option maxRecDepth 20000 in
theorem c_m_height (l : Launch) {E : zE} {q : Nat} {f_code : Int32} {a_tape : Nat → Int32} {a_size : Nat → Int32} {a_fault : Nat → Int32} {a_faultPlace : Nat → Int32} {a_many : Nat → Int32} {a_lands : Nat → Int32} {a_evenings : Nat → Int32} {a_sights : Nat → Int32} {a_choirs : Nat → Int32} {f_reached : Int32} {f_length : Int32} {f_begins : Int32} {f_sort : Int32} {f_value : Int32} {f_word : Int64} {f_wrongAt : Int32} {f_laterFault : Int32} {f_laterPlace : Int32} {a_told : Nat → Int32} {a_read : Nat → Int32} {f_farHut : Int32} {f_farSinger : Int32} {f_good : Int32} {f_land : Int32} {f_huts : Int32} {f_singers : Int32} {f_evening : Int32} {a_at : Nat → Int32} {a_knows : Nat → Int32} {a_climbed : Nat → Int32} {a_snow : Nat → Int32} {a_level : Nat → Int32} {f_begun : Int32} {f_minute : Int32} {f_avalanches : Int32} {a_run : Nat → Int32} {a_covers : Nat → Int32} {a_routes : Nat → Int32} {a_longest : Nat → Int32} {a_steep : Nat → Int32} {a_laid : Nat → Int32} {a_far : Nat → Int32} {f_sight : Int32} {a_runs : Nat → Int32} {f_choir : Int32} {f_voices : Int32} {a_rest : Nat → Int64} {a_wins : Nat → Int32} {f_seed : Int32} {a_other : Nat → Int32} {a_kept : Nat → Int32} {x1 : Int32} {post : Int32 → Prop} (hw : q_m_height_0 a_lands f_land x1 post) : Met l yX11_height (Cond.code yX11_height cX11_height 2 (some .int) :: zb) rm_m_height (va_Pc [.ref q, .int x1] (fun U => mW E q f_code a_tape a_size a_fault a_faultPlace a_many a_lands a_evenings a_sights a_choirs f_reached f_length f_begins f_sort f_value f_word f_wrongAt f_laterFault f_laterPlace a_told a_read f_farHut f_farSinger f_good f_land f_huts f_singers f_evening a_at a_knows a_climbed a_snow a_level f_begun f_minute f_avalanches a_run a_covers a_routes a_longest a_steep a_laid a_far f_sight a_runs f_choir f_voices a_rest a_wins f_seed a_other a_kept U.heap ∧ zK E U)) (vp_Si post) 0 0 (fun _ => False) := by
  refine Met.ofW (cc := cX11_height) (maxL := 2) (ret := (some .int)) (by decide) rfl ?_
  intro p e s m args below meth c s₁ B hml hv
  obtain ⟨rfl, hM, hK⟩ := hv
  have zc := zc_of B hml
  have hl := lv_entry ([.ref q, .int x1]) (n := 2) (Nat.le_of_ble_eq_true rfl)
  rw [lg_entry_eq]
  generalize (lg_sl ([.ref q, .int x1]) ++ List.replicate (2 - (lg_sl ([.ref q, .int x1])).length) Slot.unset).toArray = ls at hl ⊢
  have hl : lv_has ls 2 [(0, .ref q), (1, .int x1)] := hl
  exact t_m_height_0 zc hK hM (lv_sub hl [0, 1] rfl) hw
-- m_way
abbrev rm_m_way : Room := { frames := 1, cells := 0, slots := 0, locals := 21 }
def q_m_way_0 (a_lands : Nat → Int32) (f_land : Int32) (x1 : Int32) (x2 : Int32) (post : Int32 → Prop) : Prop :=
  q_m_of_0 a_lands f_land (((51 : Int32) + ((9 : Int32) * x1)) + x2) (fun r_1 => post r_1)
set_option maxRecDepth 20000 in
theorem t_m_way_0 {p : Program} {l : Launch} {e : Env} {s : State} {m : MethodId} {args : Array Value} {below : List Frame} {meth : Method} {c : Code} {E : zE} {q : Nat} {f_code : Int32} {a_tape : Nat → Int32} {a_size : Nat → Int32} {a_fault : Nat → Int32} {a_faultPlace : Nat → Int32} {a_many : Nat → Int32} {a_lands : Nat → Int32} {a_evenings : Nat → Int32} {a_sights : Nat → Int32} {a_choirs : Nat → Int32} {f_reached : Int32} {f_length : Int32} {f_begins : Int32} {f_sort : Int32} {f_value : Int32} {f_word : Int64} {f_wrongAt : Int32} {f_laterFault : Int32} {f_laterPlace : Int32} {a_told : Nat → Int32} {a_read : Nat → Int32} {f_farHut : Int32} {f_farSinger : Int32} {f_good : Int32} {f_land : Int32} {f_huts : Int32} {f_singers : Int32} {f_evening : Int32} {a_at : Nat → Int32} {a_knows : Nat → Int32} {a_climbed : Nat → Int32} {a_snow : Nat → Int32} {a_level : Nat → Int32} {f_begun : Int32} {f_minute : Int32} {f_avalanches : Int32} {a_run : Nat → Int32} {a_covers : Nat → Int32} {a_routes : Nat → Int32} {a_longest : Nat → Int32} {a_steep : Nat → Int32} {a_laid : Nat → Int32} {a_far : Nat → Int32} {f_sight : Int32} {a_runs : Nat → Int32} {f_choir : Int32} {f_voices : Int32} {a_rest : Nat → Int64} {a_wins : Nat → Int32} {f_seed : Int32} {a_other : Nat → Int32} {a_kept : Nat → Int32} {post : Int32 → Prop} {x1 : Int32} {x2 : Int32} {ls : Array Slot}
    (zc : zC p s m args meth c cX11_way 3 RX11 (some .int))
    (hK : zK E s)
    (hM : mW E q f_code a_tape a_size a_fault a_faultPlace a_many a_lands a_evenings a_sights a_choirs f_reached f_length f_begins f_sort f_value f_word f_wrongAt f_laterFault f_laterPlace a_told a_read f_farHut f_farSinger f_good f_land f_huts f_singers f_evening a_at a_knows a_climbed a_snow a_level f_begun f_minute f_avalanches a_run a_covers a_routes a_longest a_steep a_laid a_far f_sight a_runs f_choir f_voices a_rest a_wins f_seed a_other a_kept s.heap)
    (hl : lv_has ls 3 [(0, .ref q), (1, .int x1), (2, .int x2)])
    (hw : q_m_way_0 a_lands f_land x1 x2 post) :
    W p l e rm_m_way s m args below meth c s.heap [] 0 0 (MQ below (vp_Si post) args s 0 0 (fun _ => False)) (F0 m 0 ls []) := by
  have hx := zc.1
  have hb := zc.2.1
  refine lv_aload_n hx hb dX11_way_0 rfl (lv_at hl 0 rfl) ?_
  refine lv_bipush (v := (51 : Int32)) hx hb dX11_way_1 (by decide) ?_
  refine lv_bipush (v := (9 : Int32)) hx hb dX11_way_3 (by decide) ?_
  refine lv_iload_n hx hb dX11_way_5 rfl (lv_at hl 1 rfl) ?_
  refine lv_imul hx hb dX11_way_6 ?_
  refine lv_iadd hx hb dX11_way_7 ?_
  refine lv_iload_n hx hb dX11_way_8 rfl (lv_at hl 2 rfl) ?_
  refine lv_iadd hx hb dX11_way_9 ?_
  refine zV_i [.int (((51 : Int32) + ((9 : Int32) * x1)) + x2)] [] zc ky_X11_of kz_X11_of km_11_303 (c_m_of l hw) (mPreV0 hK hM) rfl rfl hl.1 (Nat.le_of_ble_eq_true rfl) ⟨rfl, rfl⟩ ⟨Nat.le_of_ble_eq_true rfl, Nat.le_of_ble_eq_true rfl⟩ ⟨(Nat.zero_le _), (Nat.zero_le _)⟩ dX11_way_10 (fun r_1 hw => ?_)
  exact zret_i zc hw dX11_way_13
set_option maxRecDepth 20000 in
theorem c_m_way (l : Launch) {E : zE} {q : Nat} {f_code : Int32} {a_tape : Nat → Int32} {a_size : Nat → Int32} {a_fault : Nat → Int32} {a_faultPlace : Nat → Int32} {a_many : Nat → Int32} {a_lands : Nat → Int32} {a_evenings : Nat → Int32} {a_sights : Nat → Int32} {a_choirs : Nat → Int32} {f_reached : Int32} {f_length : Int32} {f_begins : Int32} {f_sort : Int32} {f_value : Int32} {f_word : Int64} {f_wrongAt : Int32} {f_laterFault : Int32} {f_laterPlace : Int32} {a_told : Nat → Int32} {a_read : Nat → Int32} {f_farHut : Int32} {f_farSinger : Int32} {f_good : Int32} {f_land : Int32} {f_huts : Int32} {f_singers : Int32} {f_evening : Int32} {a_at : Nat → Int32} {a_knows : Nat → Int32} {a_climbed : Nat → Int32} {a_snow : Nat → Int32} {a_level : Nat → Int32} {f_begun : Int32} {f_minute : Int32} {f_avalanches : Int32} {a_run : Nat → Int32} {a_covers : Nat → Int32} {a_routes : Nat → Int32} {a_longest : Nat → Int32} {a_steep : Nat → Int32} {a_laid : Nat → Int32} {a_far : Nat → Int32} {f_sight : Int32} {a_runs : Nat → Int32} {f_choir : Int32} {f_voices : Int32} {a_rest : Nat → Int64} {a_wins : Nat → Int32} {f_seed : Int32} {a_other : Nat → Int32} {a_kept : Nat → Int32} {x1 : Int32} {x2 : Int32} {post : Int32 → Prop} (hw : q_m_way_0 a_lands f_land x1 x2 post) : Met l yX11_way (Cond.code yX11_way cX11_way 3 (some .int) :: zb) rm_m_way (va_Pc [.ref q, .int x1, .int x2] (fun U => mW E q f_code a_tape a_size a_fault a_faultPlace a_many a_lands a_evenings a_sights a_choirs f_reached f_length f_begins f_sort f_value f_word f_wrongAt f_laterFault f_laterPlace a_told a_read f_farHut f_farSinger f_good f_land f_huts f_singers f_evening a_at a_knows a_climbed a_snow a_level f_begun f_minute f_avalanches a_run a_covers a_routes a_longest a_steep a_laid a_far f_sight a_runs f_choir f_voices a_rest a_wins f_seed a_other a_kept U.heap ∧ zK E U)) (vp_Si post) 0 0 (fun _ => False) := by
  refine Met.ofW (cc := cX11_way) (maxL := 3) (ret := (some .int)) (by decide) rfl ?_
  intro p e s m args below meth c s₁ B hml hv
  obtain ⟨rfl, hM, hK⟩ := hv
  have zc := zc_of B hml
  have hl := lv_entry ([.ref q, .int x1, .int x2]) (n := 3) (Nat.le_of_ble_eq_true rfl)
  rw [lg_entry_eq]
  generalize (lg_sl ([.ref q, .int x1, .int x2]) ++ List.replicate (3 - (lg_sl ([.ref q, .int x1, .int x2])).length) Slot.unset).toArray = ls at hl ⊢
  have hl : lv_has ls 3 [(0, .ref q), (1, .int x1), (2, .int x2)] := hl
  exact t_m_way_0 zc hK hM (lv_sub hl [0, 1, 2] rfl) hw
-- m_land
abbrev rm_m_land : Room := { frames := 3, cells := 0, slots := 0, locals := 65 }
def q_m_land_0 (f_code : Int32) (a_many : Nat → Int32) (a_lands : Nat → Int32) (f_land : Int32) (f_huts : Int32) (f_singers : Int32) (x1 : Int32) (x2 : Int32) (post : Int32 → (Int32) → (Int32) → (Int32) → (Int32) → Prop) : Prop :=
  q_m_hand_0 a_many a_lands f_land f_huts f_singers x1 (fun r_1 f_land_1 f_huts_1 f_singers_1 => (¬ r_1 = 0 → (q_m_in_0 x2 (60 : Int32) (140 : Int32) (fun r_2 => (r_2 = 0 → (∀ v_1 : Int32, v_1 = (x2 - x2 / (10 : Int32) * (10 : Int32)) → (((x2 / (10 : Int32)).toInt < 1 ∨ 5 < (x2 / (10 : Int32)).toInt → (q_m_in_0 x2 (0 : Int32) (6 : Int32) (fun r_3 => (r_3 = 0 → (post (-1 : Int32) (0 : Int32) f_land_1 f_huts_1 f_singers_1)) ∧ (¬ r_3 = 0 → (q_m_of_0 a_lands f_land_1 x2 (fun r_4 => post r_4 (0 : Int32) f_land_1 f_huts_1 f_singers_1)))))) ∧ ((x2 / (10 : Int32)) = (1 : Int32) → (q_m_isHut_0 f_huts_1 v_1 (fun r_5 => (r_5 = 0 → (post (-1 : Int32) (0 : Int32) f_land_1 f_huts_1 f_singers_1)) ∧ (¬ r_5 = 0 → (q_m_height_0 a_lands f_land_1 v_1 (fun r_6 => post r_6 (0 : Int32) f_land_1 f_huts_1 f_singers_1)))))) ∧ ((x2 / (10 : Int32)) = (2 : Int32) → (q_m_isHut_0 f_huts_1 v_1 (fun r_7 => (r_7 = 0 → (post (-1 : Int32) (0 : Int32) f_land_1 f_huts_1 f_singers_1)) ∧ (¬ r_7 = 0 → (q_m_of_0 a_lands f_land_1 ((16 : Int32) + v_1) (fun r_8 => post r_8 (0 : Int32) f_land_1 f_huts_1 f_singers_1)))))) ∧ ((x2 / (10 : Int32)) = (3 : Int32) → (q_m_isSinger_0 f_singers_1 v_1 (fun r_9 => (r_9 = 0 → (post (-1 : Int32) (0 : Int32) f_land_1 f_huts_1 f_singers_1)) ∧ (¬ r_9 = 0 → (q_m_of_0 a_lands f_land_1 ((25 : Int32) + v_1) (fun r_10 => post r_10 (0 : Int32) f_land_1 f_huts_1 f_singers_1)))))) ∧ ((x2 / (10 : Int32)) = (4 : Int32) → (q_m_isSinger_0 f_singers_1 v_1 (fun r_11 => (r_11 = 0 → (post (-1 : Int32) (0 : Int32) f_land_1 f_huts_1 f_singers_1)) ∧ (¬ r_11 = 0 → (q_m_of_0 a_lands f_land_1 ((31 : Int32) + v_1) (fun r_12 => post r_12 (0 : Int32) f_land_1 f_huts_1 f_singers_1)))))) ∧ ((x2 / (10 : Int32)) = (5 : Int32) → (q_m_isSinger_0 f_singers_1 v_1 (fun r_13 => (r_13 = 0 → (post (-1 : Int32) (0 : Int32) f_land_1 f_huts_1 f_singers_1)) ∧ (¬ r_13 = 0 → (q_m_of_0 a_lands f_land_1 ((37 : Int32) + v_1) (fun r_14 => post r_14 (0 : Int32) f_land_1 f_huts_1 f_singers_1))))))))) ∧ (¬ r_2 = 0 → (∀ v_2 : Int32, v_2 = ((x2 - (60 : Int32)) / (9 : Int32)) → (∀ v_3 : Int32, v_3 = ((x2 - (60 : Int32)) - (x2 - (60 : Int32)) / (9 : Int32) * (9 : Int32)) → (q_m_isHut_0 f_huts_1 v_2 (fun r_15 => (r_15 = 0 → (post (-1 : Int32) (0 : Int32) f_land_1 f_huts_1 f_singers_1)) ∧ (¬ r_15 = 0 → (q_m_isHut_0 f_huts_1 v_3 (fun r_16 => (r_16 = 0 → (post (-1 : Int32) (0 : Int32) f_land_1 f_huts_1 f_singers_1)) ∧ (¬ r_16 = 0 → (q_m_way_0 a_lands f_land_1 v_2 v_3 (fun r_17 => post r_17 (0 : Int32) f_land_1 f_huts_1 f_singers_1)))))))))))))) ∧ (r_1 = 0 → (post (-1 : Int32) (0 : Int32) f_land_1 f_huts_1 f_singers_1)))
set_option maxRecDepth 20000 in
theorem t_m_land_0 {p : Program} {l : Launch} {e : Env} {s : State} {m : MethodId} {args : Array Value} {below : List Frame} {meth : Method} {c : Code} {E : zE} {q : Nat} {f_code : Int32} {a_tape : Nat → Int32} {a_size : Nat → Int32} {a_fault : Nat → Int32} {a_faultPlace : Nat → Int32} {a_many : Nat → Int32} {a_lands : Nat → Int32} {a_evenings : Nat → Int32} {a_sights : Nat → Int32} {a_choirs : Nat → Int32} {f_reached : Int32} {f_length : Int32} {f_begins : Int32} {f_sort : Int32} {f_value : Int32} {f_word : Int64} {f_wrongAt : Int32} {f_laterFault : Int32} {f_laterPlace : Int32} {a_told : Nat → Int32} {a_read : Nat → Int32} {f_farHut : Int32} {f_farSinger : Int32} {f_good : Int32} {f_land : Int32} {f_huts : Int32} {f_singers : Int32} {f_evening : Int32} {a_at : Nat → Int32} {a_knows : Nat → Int32} {a_climbed : Nat → Int32} {a_snow : Nat → Int32} {a_level : Nat → Int32} {f_begun : Int32} {f_minute : Int32} {f_avalanches : Int32} {a_run : Nat → Int32} {a_covers : Nat → Int32} {a_routes : Nat → Int32} {a_longest : Nat → Int32} {a_steep : Nat → Int32} {a_laid : Nat → Int32} {a_far : Nat → Int32} {f_sight : Int32} {a_runs : Nat → Int32} {f_choir : Int32} {f_voices : Int32} {a_rest : Nat → Int64} {a_wins : Nat → Int32} {f_seed : Int32} {a_other : Nat → Int32} {a_kept : Nat → Int32} {post : Int32 → (Int32) → (Int32) → (Int32) → (Int32) → Prop} {x1 : Int32} {x2 : Int32} {ls : Array Slot} {H : Heap} {locs : List Loc}
    (zc : zC p s m args meth c cX11_land 5 RX11 (some .int))
    (hK : zK E s)
    (hM : mW E q f_code a_tape a_size a_fault a_faultPlace a_many a_lands a_evenings a_sights a_choirs f_reached f_length f_begins f_sort f_value f_word f_wrongAt f_laterFault f_laterPlace a_told a_read f_farHut f_farSinger f_good f_land f_huts f_singers f_evening a_at a_knows a_climbed a_snow a_level f_begun f_minute f_avalanches a_run a_covers a_routes a_longest a_steep a_laid a_far f_sight a_runs f_choir f_voices a_rest a_wins f_seed a_other a_kept H)
    (hS : va_S (mA q) s.heap H locs)
    (hl : lv_has ls 5 [(0, .ref q), (1, .int x1), (2, .int x2)])
    (hw : q_m_land_0 f_code a_many a_lands f_land f_huts f_singers x1 x2 post) :
    W p l e rm_m_land s m args below meth c H locs 0 0 (MQ below (zQi (S := (Int32) × (Int32) × (Int32) × (Int32)) (fun r u => post r u.1 u.2.1 u.2.2.1 u.2.2.2) (fun u H => mW E q u.1 a_tape a_size a_fault a_faultPlace a_many a_lands a_evenings a_sights a_choirs f_reached f_length f_begins f_sort f_value f_word f_wrongAt f_laterFault f_laterPlace a_told a_read f_farHut f_farSinger f_good u.2.1 u.2.2.1 u.2.2.2 f_evening a_at a_knows a_climbed a_snow a_level f_begun f_minute f_avalanches a_run a_covers a_routes a_longest a_steep a_laid a_far f_sight a_runs f_choir f_voices a_rest a_wins f_seed a_other a_kept H) (mA q)) args s 0 0 (mA q)) (F0 m 0 ls []) := by
  have hx := zc.1
  have hb := zc.2.1
  refine lv_aload_n hx hb dX11_land_0 rfl (lv_at hl 0 rfl) ?_
  refine lv_iconst (v := (0 : Int32)) hx hb dX11_land_1 (by decide) ?_
  refine mp_11_97_0 zc hK hM hS dX11_land_2 (fun H locs hM hS => ?_)
  refine lv_aload_n hx hb dX11_land_5 rfl (lv_at hl 0 rfl) ?_
  refine lv_iload_n hx hb dX11_land_6 rfl (lv_at hl 1 rfl) ?_
  refine zVw_i [.int x1] [] zc ky_X11_hand kz_X11_hand km_11_313 (c_m_hand l hw) (mPreV0 hK hM) hS rfl rfl hl.1 (Nat.le_of_ble_eq_true rfl) ⟨rfl, rfl⟩ ⟨Nat.le_of_ble_eq_true rfl, Nat.le_of_ble_eq_true rfl⟩ ⟨(Nat.zero_le _), (Nat.zero_le _)⟩ dX11_land_7 (fun r_1 u H locs hw hM hS => ?_)
  obtain ⟨f_land_1, f_huts_1, f_singers_1⟩ := u
  refine lv_if_ne (tgt := 15) hx hb dX11_land_10 (by decide) (fun hc => ?_) (fun hc => ?_)
  · have hw := hw.1 hc
    refine lv_iload_n hx hb dX11_land_15 rfl (lv_at hl 2 rfl) ?_
    refine lv_bipush (v := (60 : Int32)) hx hb dX11_land_16 (by decide) ?_
    refine lv_sipush (v := (140 : Int32)) hx hb dX11_land_18 (by decide) ?_
    refine zS_i [.int x2, .int (60 : Int32), .int (140 : Int32)] [] zc ky_X11_in kz_X11_in km_11_109 (c_m_in l hw) (zPre0 _) rfl rfl hl.1 (Nat.le_of_ble_eq_true rfl) ⟨rfl, rfl⟩ ⟨Nat.le_of_ble_eq_true rfl, Nat.le_of_ble_eq_true rfl⟩ ⟨(Nat.zero_le _), (Nat.zero_le _)⟩ dX11_land_21 (fun r_2 hw => ?_)
    refine lv_if_eq (tgt := 73) hx hb dX11_land_24 (by decide) (fun hc => ?_) (fun hc => ?_)
    · have hw := hw.1 hc
      refine lv_iload_n hx hb dX11_land_73 rfl (lv_at hl 2 rfl) ?_
      refine lv_bipush (v := (10 : Int32)) hx hb dX11_land_74 (by decide) ?_
      refine lv_irem hx hb dX11_land_76 (by decide) ?_
      refine lv_topi (fun v_1 ev_1 => ?_)
      have hw := hw v_1 ev_1
      refine lv_istore_n (lv' := [(3, .int v_1), (0, .ref q), (1, .int x1), (2, .int x2)]) hx hb dX11_land_77 rfl hl (by decide) rfl (fun ls hl => ?_)
      refine lv_iload_n hx hb dX11_land_78 rfl (lv_at hl 3 rfl) ?_
      refine lv_bipush (v := (10 : Int32)) hx hb dX11_land_79 (by decide) ?_
      refine lv_idiv hx hb dX11_land_81 (by decide) ?_
      by_cases hc : (x2 / (10 : Int32)).toInt < 1 ∨ 5 < (x2 / (10 : Int32)).toInt
      · have hw := hw.1 hc
        refine lv_tableOut (tgt := 218) hx hb dX11_land_82 hc (by decide) ?_
        refine lv_iload_n hx hb dX11_land_218 rfl (lv_at hl 3 rfl) ?_
        refine lv_iconst (v := (0 : Int32)) hx hb dX11_land_219 (by decide) ?_
        refine lv_bipush (v := (6 : Int32)) hx hb dX11_land_220 (by decide) ?_
        refine zS_i [.int x2, .int (0 : Int32), .int (6 : Int32)] [] zc ky_X11_in kz_X11_in km_11_109 (c_m_in l hw) (zPre0 _) rfl rfl hl.1 (Nat.le_of_ble_eq_true rfl) ⟨rfl, rfl⟩ ⟨Nat.le_of_ble_eq_true rfl, Nat.le_of_ble_eq_true rfl⟩ ⟨(Nat.zero_le _), (Nat.zero_le _)⟩ dX11_land_222 (fun r_3 hw => ?_)
        refine lv_if_eq (tgt := 236) hx hb dX11_land_225 (by decide) (fun hc => ?_) (fun hc => ?_)
        · have hw := hw.1 hc
          refine lv_iconst (v := (-1 : Int32)) hx hb dX11_land_236 (by decide) ?_
          exact zret_iw ⟨(0 : Int32), f_land_1, f_huts_1, f_singers_1⟩ zc hS hw hM dX11_land_237
        · have hw := hw.2 hc
          refine lv_aload_n hx hb dX11_land_228 rfl (lv_at hl 1 rfl) ?_
          refine lv_iload_n hx hb dX11_land_229 rfl (lv_at hl 3 rfl) ?_
          refine zV_i [.int x2] [] zc ky_X11_of kz_X11_of km_11_303 (c_m_of l hw) (mPreV0 hK hM) rfl rfl hl.1 (Nat.le_of_ble_eq_true rfl) ⟨rfl, rfl⟩ ⟨Nat.le_of_ble_eq_true rfl, Nat.le_of_ble_eq_true rfl⟩ ⟨(Nat.zero_le _), (Nat.zero_le _)⟩ dX11_land_230 (fun r_4 hw => ?_)
          refine lv_goto (tgt := 237) hx hb dX11_land_233 (by decide) ?_
          exact zret_iw ⟨(0 : Int32), f_land_1, f_huts_1, f_singers_1⟩ zc hS hw hM dX11_land_237
      have hin := zsw hc
      by_cases hc0 : (x2 / (10 : Int32)) = (1 : Int32)
      · have hw := hw.2.1 hc0
        refine lv_tableIn (tgt := 116) hx hb dX11_land_82 (by rw [hc0]; decide) (by rw [hc0]; decide) (by rw [hc0]; rfl) (by decide) ?_
        refine lv_aload_n hx hb dX11_land_116 rfl (lv_at hl 1 rfl) ?_
        refine lv_iload_n hx hb dX11_land_117 rfl (lv_at hl 0 rfl) ?_
        refine zV_i [.int v_1] [] zc ky_X11_isHut kz_X11_isHut km_11_316 (c_m_isHut l hw) (mPreV0 hK hM) rfl rfl hl.1 (Nat.le_of_ble_eq_true rfl) ⟨rfl, rfl⟩ ⟨Nat.le_of_ble_eq_true rfl, Nat.le_of_ble_eq_true rfl⟩ ⟨(Nat.zero_le _), (Nat.zero_le _)⟩ dX11_land_118 (fun r_5 hw => ?_)
        refine lv_if_eq (tgt := 132) hx hb dX11_land_121 (by decide) (fun hc => ?_) (fun hc => ?_)
        · have hw := hw.1 hc
          refine lv_iconst (v := (-1 : Int32)) hx hb dX11_land_132 (by decide) ?_
          exact zret_iw ⟨(0 : Int32), f_land_1, f_huts_1, f_singers_1⟩ zc hS hw hM dX11_land_133
        · have hw := hw.2 hc
          refine lv_aload_n hx hb dX11_land_124 rfl (lv_at hl 1 rfl) ?_
          refine lv_iload_n hx hb dX11_land_125 rfl (lv_at hl 0 rfl) ?_
          refine zV_i [.int v_1] [] zc ky_X11_height kz_X11_height km_11_322 (c_m_height l hw) (mPreV0 hK hM) rfl rfl hl.1 (Nat.le_of_ble_eq_true rfl) ⟨rfl, rfl⟩ ⟨Nat.le_of_ble_eq_true rfl, Nat.le_of_ble_eq_true rfl⟩ ⟨(Nat.zero_le _), (Nat.zero_le _)⟩ dX11_land_126 (fun r_6 hw => ?_)
          refine lv_goto (tgt := 133) hx hb dX11_land_129 (by decide) ?_
          exact zret_iw ⟨(0 : Int32), f_land_1, f_huts_1, f_singers_1⟩ zc hS hw hM dX11_land_133
      by_cases hc1 : (x2 / (10 : Int32)) = (2 : Int32)
      · have hw := hw.2.2.1 hc1
        refine lv_tableIn (tgt := 134) hx hb dX11_land_82 (by rw [hc1]; decide) (by rw [hc1]; decide) (by rw [hc1]; rfl) (by decide) ?_
        refine lv_aload_n hx hb dX11_land_134 rfl (lv_at hl 1 rfl) ?_
        refine lv_iload_n hx hb dX11_land_135 rfl (lv_at hl 0 rfl) ?_
        refine zV_i [.int v_1] [] zc ky_X11_isHut kz_X11_isHut km_11_316 (c_m_isHut l hw) (mPreV0 hK hM) rfl rfl hl.1 (Nat.le_of_ble_eq_true rfl) ⟨rfl, rfl⟩ ⟨Nat.le_of_ble_eq_true rfl, Nat.le_of_ble_eq_true rfl⟩ ⟨(Nat.zero_le _), (Nat.zero_le _)⟩ dX11_land_136 (fun r_7 hw => ?_)
        refine lv_if_eq (tgt := 153) hx hb dX11_land_139 (by decide) (fun hc => ?_) (fun hc => ?_)
        · have hw := hw.1 hc
          refine lv_iconst (v := (-1 : Int32)) hx hb dX11_land_153 (by decide) ?_
          exact zret_iw ⟨(0 : Int32), f_land_1, f_huts_1, f_singers_1⟩ zc hS hw hM dX11_land_154
        · have hw := hw.2 hc
          refine lv_aload_n hx hb dX11_land_142 rfl (lv_at hl 1 rfl) ?_
          refine lv_bipush (v := (16 : Int32)) hx hb dX11_land_143 (by decide) ?_
          refine lv_iload_n hx hb dX11_land_145 rfl (lv_at hl 0 rfl) ?_
          refine lv_iadd hx hb dX11_land_146 ?_
          refine zV_i [.int ((16 : Int32) + v_1)] [] zc ky_X11_of kz_X11_of km_11_303 (c_m_of l hw) (mPreV0 hK hM) rfl rfl hl.1 (Nat.le_of_ble_eq_true rfl) ⟨rfl, rfl⟩ ⟨Nat.le_of_ble_eq_true rfl, Nat.le_of_ble_eq_true rfl⟩ ⟨(Nat.zero_le _), (Nat.zero_le _)⟩ dX11_land_147 (fun r_8 hw => ?_)
          refine lv_goto (tgt := 154) hx hb dX11_land_150 (by decide) ?_
          exact zret_iw ⟨(0 : Int32), f_land_1, f_huts_1, f_singers_1⟩ zc hS hw hM dX11_land_154
      by_cases hc2 : (x2 / (10 : Int32)) = (3 : Int32)
      · have hw := hw.2.2.2.1 hc2
        refine lv_tableIn (tgt := 155) hx hb dX11_land_82 (by rw [hc2]; decide) (by rw [hc2]; decide) (by rw [hc2]; rfl) (by decide) ?_
        refine lv_aload_n hx hb dX11_land_155 rfl (lv_at hl 1 rfl) ?_
        refine lv_iload_n hx hb dX11_land_156 rfl (lv_at hl 0 rfl) ?_
        refine zV_i [.int v_1] [] zc ky_X11_isSinger kz_X11_isSinger km_11_325 (c_m_isSinger l hw) (mPreV0 hK hM) rfl rfl hl.1 (Nat.le_of_ble_eq_true rfl) ⟨rfl, rfl⟩ ⟨Nat.le_of_ble_eq_true rfl, Nat.le_of_ble_eq_true rfl⟩ ⟨(Nat.zero_le _), (Nat.zero_le _)⟩ dX11_land_157 (fun r_9 hw => ?_)
        refine lv_if_eq (tgt := 174) hx hb dX11_land_160 (by decide) (fun hc => ?_) (fun hc => ?_)
        · have hw := hw.1 hc
          refine lv_iconst (v := (-1 : Int32)) hx hb dX11_land_174 (by decide) ?_
          exact zret_iw ⟨(0 : Int32), f_land_1, f_huts_1, f_singers_1⟩ zc hS hw hM dX11_land_175
        · have hw := hw.2 hc
          refine lv_aload_n hx hb dX11_land_163 rfl (lv_at hl 1 rfl) ?_
          refine lv_bipush (v := (25 : Int32)) hx hb dX11_land_164 (by decide) ?_
          refine lv_iload_n hx hb dX11_land_166 rfl (lv_at hl 0 rfl) ?_
          refine lv_iadd hx hb dX11_land_167 ?_
          refine zV_i [.int ((25 : Int32) + v_1)] [] zc ky_X11_of kz_X11_of km_11_303 (c_m_of l hw) (mPreV0 hK hM) rfl rfl hl.1 (Nat.le_of_ble_eq_true rfl) ⟨rfl, rfl⟩ ⟨Nat.le_of_ble_eq_true rfl, Nat.le_of_ble_eq_true rfl⟩ ⟨(Nat.zero_le _), (Nat.zero_le _)⟩ dX11_land_168 (fun r_10 hw => ?_)
          refine lv_goto (tgt := 175) hx hb dX11_land_171 (by decide) ?_
          exact zret_iw ⟨(0 : Int32), f_land_1, f_huts_1, f_singers_1⟩ zc hS hw hM dX11_land_175
      by_cases hc3 : (x2 / (10 : Int32)) = (4 : Int32)
      · have hw := hw.2.2.2.2.1 hc3
        refine lv_tableIn (tgt := 176) hx hb dX11_land_82 (by rw [hc3]; decide) (by rw [hc3]; decide) (by rw [hc3]; rfl) (by decide) ?_
        refine lv_aload_n hx hb dX11_land_176 rfl (lv_at hl 1 rfl) ?_
        refine lv_iload_n hx hb dX11_land_177 rfl (lv_at hl 0 rfl) ?_
        refine zV_i [.int v_1] [] zc ky_X11_isSinger kz_X11_isSinger km_11_325 (c_m_isSinger l hw) (mPreV0 hK hM) rfl rfl hl.1 (Nat.le_of_ble_eq_true rfl) ⟨rfl, rfl⟩ ⟨Nat.le_of_ble_eq_true rfl, Nat.le_of_ble_eq_true rfl⟩ ⟨(Nat.zero_le _), (Nat.zero_le _)⟩ dX11_land_178 (fun r_11 hw => ?_)
        refine lv_if_eq (tgt := 195) hx hb dX11_land_181 (by decide) (fun hc => ?_) (fun hc => ?_)
        · have hw := hw.1 hc
          refine lv_iconst (v := (-1 : Int32)) hx hb dX11_land_195 (by decide) ?_
          exact zret_iw ⟨(0 : Int32), f_land_1, f_huts_1, f_singers_1⟩ zc hS hw hM dX11_land_196
        · have hw := hw.2 hc
          refine lv_aload_n hx hb dX11_land_184 rfl (lv_at hl 1 rfl) ?_
          refine lv_bipush (v := (31 : Int32)) hx hb dX11_land_185 (by decide) ?_
          refine lv_iload_n hx hb dX11_land_187 rfl (lv_at hl 0 rfl) ?_
          refine lv_iadd hx hb dX11_land_188 ?_
          refine zV_i [.int ((31 : Int32) + v_1)] [] zc ky_X11_of kz_X11_of km_11_303 (c_m_of l hw) (mPreV0 hK hM) rfl rfl hl.1 (Nat.le_of_ble_eq_true rfl) ⟨rfl, rfl⟩ ⟨Nat.le_of_ble_eq_true rfl, Nat.le_of_ble_eq_true rfl⟩ ⟨(Nat.zero_le _), (Nat.zero_le _)⟩ dX11_land_189 (fun r_12 hw => ?_)
          refine lv_goto (tgt := 196) hx hb dX11_land_192 (by decide) ?_
          exact zret_iw ⟨(0 : Int32), f_land_1, f_huts_1, f_singers_1⟩ zc hS hw hM dX11_land_196
      by_cases hc4 : (x2 / (10 : Int32)) = (5 : Int32)
      · have hw := hw.2.2.2.2.2 hc4
        refine lv_tableIn (tgt := 197) hx hb dX11_land_82 (by rw [hc4]; decide) (by rw [hc4]; decide) (by rw [hc4]; rfl) (by decide) ?_
        refine lv_aload_n hx hb dX11_land_197 rfl (lv_at hl 1 rfl) ?_
        refine lv_iload_n hx hb dX11_land_198 rfl (lv_at hl 0 rfl) ?_
        refine zV_i [.int v_1] [] zc ky_X11_isSinger kz_X11_isSinger km_11_325 (c_m_isSinger l hw) (mPreV0 hK hM) rfl rfl hl.1 (Nat.le_of_ble_eq_true rfl) ⟨rfl, rfl⟩ ⟨Nat.le_of_ble_eq_true rfl, Nat.le_of_ble_eq_true rfl⟩ ⟨(Nat.zero_le _), (Nat.zero_le _)⟩ dX11_land_199 (fun r_13 hw => ?_)
        refine lv_if_eq (tgt := 216) hx hb dX11_land_202 (by decide) (fun hc => ?_) (fun hc => ?_)
        · have hw := hw.1 hc
          refine lv_iconst (v := (-1 : Int32)) hx hb dX11_land_216 (by decide) ?_
          exact zret_iw ⟨(0 : Int32), f_land_1, f_huts_1, f_singers_1⟩ zc hS hw hM dX11_land_217
        · have hw := hw.2 hc
          refine lv_aload_n hx hb dX11_land_205 rfl (lv_at hl 1 rfl) ?_
          refine lv_bipush (v := (37 : Int32)) hx hb dX11_land_206 (by decide) ?_
          refine lv_iload_n hx hb dX11_land_208 rfl (lv_at hl 0 rfl) ?_
          refine lv_iadd hx hb dX11_land_209 ?_
          refine zV_i [.int ((37 : Int32) + v_1)] [] zc ky_X11_of kz_X11_of km_11_303 (c_m_of l hw) (mPreV0 hK hM) rfl rfl hl.1 (Nat.le_of_ble_eq_true rfl) ⟨rfl, rfl⟩ ⟨Nat.le_of_ble_eq_true rfl, Nat.le_of_ble_eq_true rfl⟩ ⟨(Nat.zero_le _), (Nat.zero_le _)⟩ dX11_land_210 (fun r_14 hw => ?_)
          refine lv_goto (tgt := 217) hx hb dX11_land_213 (by decide) ?_
          exact zret_iw ⟨(0 : Int32), f_land_1, f_huts_1, f_singers_1⟩ zc hS hw hM dX11_land_217
      exact absurd hin (by have h0 := zne hc0; have h1 := zne hc1; have h2 := zne hc2; have h3 := zne hc3; have h4 := zne hc4; simp at *; omega)
    · have hw := hw.2 hc
      refine lv_iload_n hx hb dX11_land_27 rfl (lv_at hl 2 rfl) ?_
      refine lv_bipush (v := (60 : Int32)) hx hb dX11_land_28 (by decide) ?_
      refine lv_isub hx hb dX11_land_30 ?_
      refine lv_bipush (v := (9 : Int32)) hx hb dX11_land_31 (by decide) ?_
      refine lv_idiv hx hb dX11_land_33 (by decide) ?_
      refine lv_topi (fun v_2 ev_2 => ?_)
      have hw := hw v_2 ev_2
      refine lv_istore_n (lv' := [(3, .int v_2), (0, .ref q), (1, .int x1), (2, .int x2)]) hx hb dX11_land_34 rfl hl (by decide) rfl (fun ls hl => ?_)
      refine lv_iload_n hx hb dX11_land_35 rfl (lv_at hl 3 rfl) ?_
      refine lv_bipush (v := (60 : Int32)) hx hb dX11_land_36 (by decide) ?_
      refine lv_isub hx hb dX11_land_38 ?_
      refine lv_bipush (v := (9 : Int32)) hx hb dX11_land_39 (by decide) ?_
      refine lv_irem hx hb dX11_land_41 (by decide) ?_
      refine lv_topi (fun v_3 ev_3 => ?_)
      have hw := hw v_3 ev_3
      refine lv_istore (lv' := [(4, .int v_3), (3, .int v_2), (0, .ref q), (1, .int x1), (2, .int x2)]) hx hb dX11_land_42 hl (by decide) rfl (fun ls hl => ?_)
      refine lv_aload_n hx hb dX11_land_44 rfl (lv_at hl 2 rfl) ?_
      refine lv_iload_n hx hb dX11_land_45 rfl (lv_at hl 1 rfl) ?_
      refine zV_i [.int v_2] [] zc ky_X11_isHut kz_X11_isHut km_11_316 (c_m_isHut l hw) (mPreV0 hK hM) rfl rfl hl.1 (Nat.le_of_ble_eq_true rfl) ⟨rfl, rfl⟩ ⟨Nat.le_of_ble_eq_true rfl, Nat.le_of_ble_eq_true rfl⟩ ⟨(Nat.zero_le _), (Nat.zero_le _)⟩ dX11_land_46 (fun r_15 hw => ?_)
      refine lv_if_eq (tgt := 71) hx hb dX11_land_49 (by decide) (fun hc => ?_) (fun hc => ?_)
      · have hw := hw.1 hc
        refine lv_iconst (v := (-1 : Int32)) hx hb dX11_land_71 (by decide) ?_
        exact zret_iw ⟨(0 : Int32), f_land_1, f_huts_1, f_singers_1⟩ zc hS hw hM dX11_land_72
      · have hw := hw.2 hc
        refine lv_aload_n hx hb dX11_land_52 rfl (lv_at hl 2 rfl) ?_
        refine lv_iload hx hb dX11_land_53 (lv_at hl 0 rfl) ?_
        refine zV_i [.int v_3] [] zc ky_X11_isHut kz_X11_isHut km_11_316 (c_m_isHut l hw) (mPreV0 hK hM) rfl rfl hl.1 (Nat.le_of_ble_eq_true rfl) ⟨rfl, rfl⟩ ⟨Nat.le_of_ble_eq_true rfl, Nat.le_of_ble_eq_true rfl⟩ ⟨(Nat.zero_le _), (Nat.zero_le _)⟩ dX11_land_55 (fun r_16 hw => ?_)
        refine lv_if_eq (tgt := 71) hx hb dX11_land_58 (by decide) (fun hc => ?_) (fun hc => ?_)
        · have hw := hw.1 hc
          refine lv_iconst (v := (-1 : Int32)) hx hb dX11_land_71 (by decide) ?_
          exact zret_iw ⟨(0 : Int32), f_land_1, f_huts_1, f_singers_1⟩ zc hS hw hM dX11_land_72
        · have hw := hw.2 hc
          refine lv_aload_n hx hb dX11_land_61 rfl (lv_at hl 2 rfl) ?_
          refine lv_iload_n hx hb dX11_land_62 rfl (lv_at hl 1 rfl) ?_
          refine lv_iload hx hb dX11_land_63 (lv_at hl 0 rfl) ?_
          refine zV_i [.int v_2, .int v_3] [] zc ky_X11_way kz_X11_way km_11_319 (c_m_way l hw) (mPreV0 hK hM) rfl rfl hl.1 (Nat.le_of_ble_eq_true rfl) ⟨rfl, rfl⟩ ⟨Nat.le_of_ble_eq_true rfl, Nat.le_of_ble_eq_true rfl⟩ ⟨(Nat.zero_le _), (Nat.zero_le _)⟩ dX11_land_65 (fun r_17 hw => ?_)
          refine lv_goto (tgt := 72) hx hb dX11_land_68 (by decide) ?_
          exact zret_iw ⟨(0 : Int32), f_land_1, f_huts_1, f_singers_1⟩ zc hS hw hM dX11_land_72
  · have hw := hw.2 hc
    refine lv_iconst (v := (-1 : Int32)) hx hb dX11_land_13 (by decide) ?_
    exact zret_iw ⟨(0 : Int32), f_land_1, f_huts_1, f_singers_1⟩ zc hS hw hM dX11_land_14
set_option maxRecDepth 20000 in
theorem c_m_land (l : Launch) {E : zE} {q : Nat} {f_code : Int32} {a_tape : Nat → Int32} {a_size : Nat → Int32} {a_fault : Nat → Int32} {a_faultPlace : Nat → Int32} {a_many : Nat → Int32} {a_lands : Nat → Int32} {a_evenings : Nat → Int32} {a_sights : Nat → Int32} {a_choirs : Nat → Int32} {f_reached : Int32} {f_length : Int32} {f_begins : Int32} {f_sort : Int32} {f_value : Int32} {f_word : Int64} {f_wrongAt : Int32} {f_laterFault : Int32} {f_laterPlace : Int32} {a_told : Nat → Int32} {a_read : Nat → Int32} {f_farHut : Int32} {f_farSinger : Int32} {f_good : Int32} {f_land : Int32} {f_huts : Int32} {f_singers : Int32} {f_evening : Int32} {a_at : Nat → Int32} {a_knows : Nat → Int32} {a_climbed : Nat → Int32} {a_snow : Nat → Int32} {a_level : Nat → Int32} {f_begun : Int32} {f_minute : Int32} {f_avalanches : Int32} {a_run : Nat → Int32} {a_covers : Nat → Int32} {a_routes : Nat → Int32} {a_longest : Nat → Int32} {a_steep : Nat → Int32} {a_laid : Nat → Int32} {a_far : Nat → Int32} {f_sight : Int32} {a_runs : Nat → Int32} {f_choir : Int32} {f_voices : Int32} {a_rest : Nat → Int64} {a_wins : Nat → Int32} {f_seed : Int32} {a_other : Nat → Int32} {a_kept : Nat → Int32} {x1 : Int32} {x2 : Int32} {post : Int32 → (Int32) → (Int32) → (Int32) → (Int32) → Prop} (hw : q_m_land_0 f_code a_many a_lands f_land f_huts f_singers x1 x2 post) : Met l yX11_land (Cond.code yX11_land cX11_land 5 (some .int) :: zb) rm_m_land (va_Pc [.ref q, .int x1, .int x2] (fun U => mW E q f_code a_tape a_size a_fault a_faultPlace a_many a_lands a_evenings a_sights a_choirs f_reached f_length f_begins f_sort f_value f_word f_wrongAt f_laterFault f_laterPlace a_told a_read f_farHut f_farSinger f_good f_land f_huts f_singers f_evening a_at a_knows a_climbed a_snow a_level f_begun f_minute f_avalanches a_run a_covers a_routes a_longest a_steep a_laid a_far f_sight a_runs f_choir f_voices a_rest a_wins f_seed a_other a_kept U.heap ∧ zK E U)) (zQi (S := (Int32) × (Int32) × (Int32) × (Int32)) (fun r u => post r u.1 u.2.1 u.2.2.1 u.2.2.2) (fun u H => mW E q u.1 a_tape a_size a_fault a_faultPlace a_many a_lands a_evenings a_sights a_choirs f_reached f_length f_begins f_sort f_value f_word f_wrongAt f_laterFault f_laterPlace a_told a_read f_farHut f_farSinger f_good u.2.1 u.2.2.1 u.2.2.2 f_evening a_at a_knows a_climbed a_snow a_level f_begun f_minute f_avalanches a_run a_covers a_routes a_longest a_steep a_laid a_far f_sight a_runs f_choir f_voices a_rest a_wins f_seed a_other a_kept H) (mA q)) 0 0 (mA q) := by
  refine Met.ofW (cc := cX11_land) (maxL := 5) (ret := (some .int)) (by decide) rfl ?_
  intro p e s m args below meth c s₁ B hml hv
  obtain ⟨rfl, hM, hK⟩ := hv
  have zc := zc_of B hml
  have hl := lv_entry ([.ref q, .int x1, .int x2]) (n := 5) (Nat.le_of_ble_eq_true rfl)
  rw [lg_entry_eq]
  generalize (lg_sl ([.ref q, .int x1, .int x2]) ++ List.replicate (5 - (lg_sl ([.ref q, .int x1, .int x2])).length) Slot.unset).toArray = ls at hl ⊢
  have hl : lv_has ls 5 [(0, .ref q), (1, .int x1), (2, .int x2)] := hl
  exact t_m_land_0 zc hK hM va_S.rf (lv_sub hl [0, 1, 2] rfl) hw
end
section
-- m_echo
abbrev rm_m_echo : Room := { frames := 3, cells := 0, slots := 0, locals := 65 }
def q_m_echo_0 (f_code : Int32) (a_many : Nat → Int32) (a_lands : Nat → Int32) (f_land : Int32) (f_huts : Int32) (f_singers : Int32) (x1 : Int32) (x2 : Int32) (x3 : Int32) (post : Int32 → (Int32) → (Int32) → (Int32) → (Int32) → Prop) : Prop :=
  q_m_hand_0 a_many a_lands f_land f_huts f_singers x1 (fun r_1 f_land_1 f_huts_1 f_singers_1 => (r_1 = 0 → (post (-1 : Int32) (0 : Int32) f_land_1 f_huts_1 f_singers_1)) ∧ (¬ r_1 = 0 → (q_m_of_0 a_lands f_land_1 (4 : Int32) (fun r_2 => q_m_in_0 x2 (0 : Int32) (r_2 - (1 : Int32)) (fun r_3 => (r_3 = 0 → (post (-1 : Int32) (0 : Int32) f_land_1 f_huts_1 f_singers_1)) ∧ (¬ r_3 = 0 → (q_m_in_0 x3 (0 : Int32) (1 : Int32) (fun r_4 => (r_4 = 0 → (post (-1 : Int32) (0 : Int32) f_land_1 f_huts_1 f_singers_1)) ∧ (¬ r_4 = 0 → (q_m_of_0 a_lands f_land_1 (((43 : Int32) + ((2 : Int32) * x2)) + x3) (fun r_5 => post r_5 (0 : Int32) f_land_1 f_huts_1 f_singers_1)))))))))))
set_option maxRecDepth 20000 in
theorem t_m_echo_0 {p : Program} {l : Launch} {e : Env} {s : State} {m : MethodId} {args : Array Value} {below : List Frame} {meth : Method} {c : Code} {E : zE} {q : Nat} {f_code : Int32} {a_tape : Nat → Int32} {a_size : Nat → Int32} {a_fault : Nat → Int32} {a_faultPlace : Nat → Int32} {a_many : Nat → Int32} {a_lands : Nat → Int32} {a_evenings : Nat → Int32} {a_sights : Nat → Int32} {a_choirs : Nat → Int32} {f_reached : Int32} {f_length : Int32} {f_begins : Int32} {f_sort : Int32} {f_value : Int32} {f_word : Int64} {f_wrongAt : Int32} {f_laterFault : Int32} {f_laterPlace : Int32} {a_told : Nat → Int32} {a_read : Nat → Int32} {f_farHut : Int32} {f_farSinger : Int32} {f_good : Int32} {f_land : Int32} {f_huts : Int32} {f_singers : Int32} {f_evening : Int32} {a_at : Nat → Int32} {a_knows : Nat → Int32} {a_climbed : Nat → Int32} {a_snow : Nat → Int32} {a_level : Nat → Int32} {f_begun : Int32} {f_minute : Int32} {f_avalanches : Int32} {a_run : Nat → Int32} {a_covers : Nat → Int32} {a_routes : Nat → Int32} {a_longest : Nat → Int32} {a_steep : Nat → Int32} {a_laid : Nat → Int32} {a_far : Nat → Int32} {f_sight : Int32} {a_runs : Nat → Int32} {f_choir : Int32} {f_voices : Int32} {a_rest : Nat → Int64} {a_wins : Nat → Int32} {f_seed : Int32} {a_other : Nat → Int32} {a_kept : Nat → Int32} {post : Int32 → (Int32) → (Int32) → (Int32) → (Int32) → Prop} {x1 : Int32} {x2 : Int32} {x3 : Int32} {ls : Array Slot} {H : Heap} {locs : List Loc}
    (zc : zC p s m args meth c cX11_echo 4 RX11 (some .int))
    (hK : zK E s)
    (hM : mW E q f_code a_tape a_size a_fault a_faultPlace a_many a_lands a_evenings a_sights a_choirs f_reached f_length f_begins f_sort f_value f_word f_wrongAt f_laterFault f_laterPlace a_told a_read f_farHut f_farSinger f_good f_land f_huts f_singers f_evening a_at a_knows a_climbed a_snow a_level f_begun f_minute f_avalanches a_run a_covers a_routes a_longest a_steep a_laid a_far f_sight a_runs f_choir f_voices a_rest a_wins f_seed a_other a_kept H)
    (hS : va_S (mA q) s.heap H locs)
    (hl : lv_has ls 4 [(0, .ref q), (1, .int x1), (2, .int x2), (3, .int x3)])
    (hw : q_m_echo_0 f_code a_many a_lands f_land f_huts f_singers x1 x2 x3 post) :
    W p l e rm_m_echo s m args below meth c H locs 0 0 (MQ below (zQi (S := (Int32) × (Int32) × (Int32) × (Int32)) (fun r u => post r u.1 u.2.1 u.2.2.1 u.2.2.2) (fun u H => mW E q u.1 a_tape a_size a_fault a_faultPlace a_many a_lands a_evenings a_sights a_choirs f_reached f_length f_begins f_sort f_value f_word f_wrongAt f_laterFault f_laterPlace a_told a_read f_farHut f_farSinger f_good u.2.1 u.2.2.1 u.2.2.2 f_evening a_at a_knows a_climbed a_snow a_level f_begun f_minute f_avalanches a_run a_covers a_routes a_longest a_steep a_laid a_far f_sight a_runs f_choir f_voices a_rest a_wins f_seed a_other a_kept H) (mA q)) args s 0 0 (mA q)) (F0 m 0 ls []) := by
  have hx := zc.1
  have hb := zc.2.1
  refine lv_aload_n hx hb dX11_echo_0 rfl (lv_at hl 0 rfl) ?_
  refine lv_iconst (v := (0 : Int32)) hx hb dX11_echo_1 (by decide) ?_
  refine mp_11_97_0 zc hK hM hS dX11_echo_2 (fun H locs hM hS => ?_)
  refine lv_aload_n hx hb dX11_echo_5 rfl (lv_at hl 0 rfl) ?_
  refine lv_iload_n hx hb dX11_echo_6 rfl (lv_at hl 1 rfl) ?_
  refine zVw_i [.int x1] [] zc ky_X11_hand kz_X11_hand km_11_313 (c_m_hand l hw) (mPreV0 hK hM) hS rfl rfl hl.1 (Nat.le_of_ble_eq_true rfl) ⟨rfl, rfl⟩ ⟨Nat.le_of_ble_eq_true rfl, Nat.le_of_ble_eq_true rfl⟩ ⟨(Nat.zero_le _), (Nat.zero_le _)⟩ dX11_echo_7 (fun r_1 u H locs hw hM hS => ?_)
  obtain ⟨f_land_1, f_huts_1, f_singers_1⟩ := u
  refine lv_if_eq (tgt := 52) hx hb dX11_echo_10 (by decide) (fun hc => ?_) (fun hc => ?_)
  · have hw := hw.1 hc
    refine lv_iconst (v := (-1 : Int32)) hx hb dX11_echo_52 (by decide) ?_
    exact zret_iw ⟨(0 : Int32), f_land_1, f_huts_1, f_singers_1⟩ zc hS hw hM dX11_echo_53
  · have hw := hw.2 hc
    refine lv_iload_n hx hb dX11_echo_13 rfl (lv_at hl 2 rfl) ?_
    refine lv_iconst (v := (0 : Int32)) hx hb dX11_echo_14 (by decide) ?_
    refine lv_aload_n hx hb dX11_echo_15 rfl (lv_at hl 0 rfl) ?_
    refine lv_iconst (v := (4 : Int32)) hx hb dX11_echo_16 (by decide) ?_
    refine zV_i [.int (4 : Int32)] [.int (0 : Int32), .int x2] zc ky_X11_of kz_X11_of km_11_303 (c_m_of l hw) (mPreV0 hK hM) rfl rfl hl.1 (Nat.le_of_ble_eq_true rfl) ⟨rfl, rfl⟩ ⟨Nat.le_of_ble_eq_true rfl, Nat.le_of_ble_eq_true rfl⟩ ⟨(Nat.zero_le _), (Nat.zero_le _)⟩ dX11_echo_17 (fun r_2 hw => ?_)
    refine lv_iconst (v := (1 : Int32)) hx hb dX11_echo_20 (by decide) ?_
    refine lv_isub hx hb dX11_echo_21 ?_
    refine zS_i [.int x2, .int (0 : Int32), .int (r_2 - (1 : Int32))] [] zc ky_X11_in kz_X11_in km_11_109 (c_m_in l hw) (zPre0 _) rfl rfl hl.1 (Nat.le_of_ble_eq_true rfl) ⟨rfl, rfl⟩ ⟨Nat.le_of_ble_eq_true rfl, Nat.le_of_ble_eq_true rfl⟩ ⟨(Nat.zero_le _), (Nat.zero_le _)⟩ dX11_echo_22 (fun r_3 hw => ?_)
    refine lv_if_eq (tgt := 52) hx hb dX11_echo_25 (by decide) (fun hc => ?_) (fun hc => ?_)
    · have hw := hw.1 hc
      refine lv_iconst (v := (-1 : Int32)) hx hb dX11_echo_52 (by decide) ?_
      exact zret_iw ⟨(0 : Int32), f_land_1, f_huts_1, f_singers_1⟩ zc hS hw hM dX11_echo_53
    · have hw := hw.2 hc
      refine lv_iload_n hx hb dX11_echo_28 rfl (lv_at hl 3 rfl) ?_
      refine lv_iconst (v := (0 : Int32)) hx hb dX11_echo_29 (by decide) ?_
      refine lv_iconst (v := (1 : Int32)) hx hb dX11_echo_30 (by decide) ?_
      refine zS_i [.int x3, .int (0 : Int32), .int (1 : Int32)] [] zc ky_X11_in kz_X11_in km_11_109 (c_m_in l hw) (zPre0 _) rfl rfl hl.1 (Nat.le_of_ble_eq_true rfl) ⟨rfl, rfl⟩ ⟨Nat.le_of_ble_eq_true rfl, Nat.le_of_ble_eq_true rfl⟩ ⟨(Nat.zero_le _), (Nat.zero_le _)⟩ dX11_echo_31 (fun r_4 hw => ?_)
      refine lv_if_eq (tgt := 52) hx hb dX11_echo_34 (by decide) (fun hc => ?_) (fun hc => ?_)
      · have hw := hw.1 hc
        refine lv_iconst (v := (-1 : Int32)) hx hb dX11_echo_52 (by decide) ?_
        exact zret_iw ⟨(0 : Int32), f_land_1, f_huts_1, f_singers_1⟩ zc hS hw hM dX11_echo_53
      · have hw := hw.2 hc
        refine lv_aload_n hx hb dX11_echo_37 rfl (lv_at hl 0 rfl) ?_
        refine lv_bipush (v := (43 : Int32)) hx hb dX11_echo_38 (by decide) ?_
        refine lv_iconst (v := (2 : Int32)) hx hb dX11_echo_40 (by decide) ?_
        refine lv_iload_n hx hb dX11_echo_41 rfl (lv_at hl 2 rfl) ?_
        refine lv_imul hx hb dX11_echo_42 ?_
        refine lv_iadd hx hb dX11_echo_43 ?_
        refine lv_iload_n hx hb dX11_echo_44 rfl (lv_at hl 3 rfl) ?_
        refine lv_iadd hx hb dX11_echo_45 ?_
        refine zV_i [.int (((43 : Int32) + ((2 : Int32) * x2)) + x3)] [] zc ky_X11_of kz_X11_of km_11_303 (c_m_of l hw) (mPreV0 hK hM) rfl rfl hl.1 (Nat.le_of_ble_eq_true rfl) ⟨rfl, rfl⟩ ⟨Nat.le_of_ble_eq_true rfl, Nat.le_of_ble_eq_true rfl⟩ ⟨(Nat.zero_le _), (Nat.zero_le _)⟩ dX11_echo_46 (fun r_5 hw => ?_)
        refine lv_goto (tgt := 53) hx hb dX11_echo_49 (by decide) ?_
        exact zret_iw ⟨(0 : Int32), f_land_1, f_huts_1, f_singers_1⟩ zc hS hw hM dX11_echo_53
set_option maxRecDepth 20000 in
theorem c_m_echo (l : Launch) {E : zE} {q : Nat} {f_code : Int32} {a_tape : Nat → Int32} {a_size : Nat → Int32} {a_fault : Nat → Int32} {a_faultPlace : Nat → Int32} {a_many : Nat → Int32} {a_lands : Nat → Int32} {a_evenings : Nat → Int32} {a_sights : Nat → Int32} {a_choirs : Nat → Int32} {f_reached : Int32} {f_length : Int32} {f_begins : Int32} {f_sort : Int32} {f_value : Int32} {f_word : Int64} {f_wrongAt : Int32} {f_laterFault : Int32} {f_laterPlace : Int32} {a_told : Nat → Int32} {a_read : Nat → Int32} {f_farHut : Int32} {f_farSinger : Int32} {f_good : Int32} {f_land : Int32} {f_huts : Int32} {f_singers : Int32} {f_evening : Int32} {a_at : Nat → Int32} {a_knows : Nat → Int32} {a_climbed : Nat → Int32} {a_snow : Nat → Int32} {a_level : Nat → Int32} {f_begun : Int32} {f_minute : Int32} {f_avalanches : Int32} {a_run : Nat → Int32} {a_covers : Nat → Int32} {a_routes : Nat → Int32} {a_longest : Nat → Int32} {a_steep : Nat → Int32} {a_laid : Nat → Int32} {a_far : Nat → Int32} {f_sight : Int32} {a_runs : Nat → Int32} {f_choir : Int32} {f_voices : Int32} {a_rest : Nat → Int64} {a_wins : Nat → Int32} {f_seed : Int32} {a_other : Nat → Int32} {a_kept : Nat → Int32} {x1 : Int32} {x2 : Int32} {x3 : Int32} {post : Int32 → (Int32) → (Int32) → (Int32) → (Int32) → Prop} (hw : q_m_echo_0 f_code a_many a_lands f_land f_huts f_singers x1 x2 x3 post) : Met l yX11_echo (Cond.code yX11_echo cX11_echo 4 (some .int) :: zb) rm_m_echo (va_Pc [.ref q, .int x1, .int x2, .int x3] (fun U => mW E q f_code a_tape a_size a_fault a_faultPlace a_many a_lands a_evenings a_sights a_choirs f_reached f_length f_begins f_sort f_value f_word f_wrongAt f_laterFault f_laterPlace a_told a_read f_farHut f_farSinger f_good f_land f_huts f_singers f_evening a_at a_knows a_climbed a_snow a_level f_begun f_minute f_avalanches a_run a_covers a_routes a_longest a_steep a_laid a_far f_sight a_runs f_choir f_voices a_rest a_wins f_seed a_other a_kept U.heap ∧ zK E U)) (zQi (S := (Int32) × (Int32) × (Int32) × (Int32)) (fun r u => post r u.1 u.2.1 u.2.2.1 u.2.2.2) (fun u H => mW E q u.1 a_tape a_size a_fault a_faultPlace a_many a_lands a_evenings a_sights a_choirs f_reached f_length f_begins f_sort f_value f_word f_wrongAt f_laterFault f_laterPlace a_told a_read f_farHut f_farSinger f_good u.2.1 u.2.2.1 u.2.2.2 f_evening a_at a_knows a_climbed a_snow a_level f_begun f_minute f_avalanches a_run a_covers a_routes a_longest a_steep a_laid a_far f_sight a_runs f_choir f_voices a_rest a_wins f_seed a_other a_kept H) (mA q)) 0 0 (mA q) := by
  refine Met.ofW (cc := cX11_echo) (maxL := 4) (ret := (some .int)) (by decide) rfl ?_
  intro p e s m args below meth c s₁ B hml hv
  obtain ⟨rfl, hM, hK⟩ := hv
  have zc := zc_of B hml
  have hl := lv_entry ([.ref q, .int x1, .int x2, .int x3]) (n := 4) (Nat.le_of_ble_eq_true rfl)
  rw [lg_entry_eq]
  generalize (lg_sl ([.ref q, .int x1, .int x2, .int x3]) ++ List.replicate (4 - (lg_sl ([.ref q, .int x1, .int x2, .int x3])).length) Slot.unset).toArray = ls at hl ⊢
  have hl : lv_has ls 4 [(0, .ref q), (1, .int x1), (2, .int x2), (3, .int x3)] := hl
  exact t_m_echo_0 zc hK hM va_S.rf (lv_sub hl [0, 1, 2, 3] rfl) hw
-- m_deeds
abbrev rm_m_deeds : Room := { frames := 0, cells := 0, slots := 0, locals := 0 }
def q_m_deeds_0 (a_evenings : Nat → Int32) (f_evening : Int32) (post : Int32 → Prop) : Prop :=
  vp_in ((121 : Int32) * f_evening) 968 ∧ (post (a_evenings (Int32.toNatClampNeg ((121 : Int32) * f_evening))))
set_option maxRecDepth 20000 in
theorem t_m_deeds_0 {p : Program} {l : Launch} {e : Env} {s : State} {m : MethodId} {args : Array Value} {below : List Frame} {meth : Method} {c : Code} {E : zE} {q : Nat} {f_code : Int32} {a_tape : Nat → Int32} {a_size : Nat → Int32} {a_fault : Nat → Int32} {a_faultPlace : Nat → Int32} {a_many : Nat → Int32} {a_lands : Nat → Int32} {a_evenings : Nat → Int32} {a_sights : Nat → Int32} {a_choirs : Nat → Int32} {f_reached : Int32} {f_length : Int32} {f_begins : Int32} {f_sort : Int32} {f_value : Int32} {f_word : Int64} {f_wrongAt : Int32} {f_laterFault : Int32} {f_laterPlace : Int32} {a_told : Nat → Int32} {a_read : Nat → Int32} {f_farHut : Int32} {f_farSinger : Int32} {f_good : Int32} {f_land : Int32} {f_huts : Int32} {f_singers : Int32} {f_evening : Int32} {a_at : Nat → Int32} {a_knows : Nat → Int32} {a_climbed : Nat → Int32} {a_snow : Nat → Int32} {a_level : Nat → Int32} {f_begun : Int32} {f_minute : Int32} {f_avalanches : Int32} {a_run : Nat → Int32} {a_covers : Nat → Int32} {a_routes : Nat → Int32} {a_longest : Nat → Int32} {a_steep : Nat → Int32} {a_laid : Nat → Int32} {a_far : Nat → Int32} {f_sight : Int32} {a_runs : Nat → Int32} {f_choir : Int32} {f_voices : Int32} {a_rest : Nat → Int64} {a_wins : Nat → Int32} {f_seed : Int32} {a_other : Nat → Int32} {a_kept : Nat → Int32} {post : Int32 → Prop} {ls : Array Slot}
    (zc : zC p s m args meth c cX11_deeds 1 RX11 (some .int))
    (hK : zK E s)
    (hM : mW E q f_code a_tape a_size a_fault a_faultPlace a_many a_lands a_evenings a_sights a_choirs f_reached f_length f_begins f_sort f_value f_word f_wrongAt f_laterFault f_laterPlace a_told a_read f_farHut f_farSinger f_good f_land f_huts f_singers f_evening a_at a_knows a_climbed a_snow a_level f_begun f_minute f_avalanches a_run a_covers a_routes a_longest a_steep a_laid a_far f_sight a_runs f_choir f_voices a_rest a_wins f_seed a_other a_kept s.heap)
    (hl : lv_has ls 1 [(0, .ref q)])
    (hw : q_m_deeds_0 a_evenings f_evening post) :
    W p l e rm_m_deeds s m args below meth c s.heap [] 0 0 (MQ below (vp_Si post) args s 0 0 (fun _ => False)) (F0 m 0 ls []) := by
  have hx := zc.1
  have hb := zc.2.1
  refine lv_aload_n hx hb dX11_deeds_0 rfl (lv_at hl 0 rfl) ?_
  refine mg_11_29_0 zc hK hM dX11_deeds_1 ?_
  refine lv_bipush (v := (121 : Int32)) hx hb dX11_deeds_4 (by decide) ?_
  refine lv_aload_n hx hb dX11_deeds_6 rfl (lv_at hl 0 rfl) ?_
  refine mg_11_328_0 zc hK hM dX11_deeds_7 ?_
  refine lv_imul hx hb dX11_deeds_10 ?_
  refine mld_7 zc hK hM hw.1 dX11_deeds_11 ?_
  have hw := hw.2
  exact zret_i zc hw dX11_deeds_12
set_option maxRecDepth 20000 in
theorem c_m_deeds (l : Launch) {E : zE} {q : Nat} {f_code : Int32} {a_tape : Nat → Int32} {a_size : Nat → Int32} {a_fault : Nat → Int32} {a_faultPlace : Nat → Int32} {a_many : Nat → Int32} {a_lands : Nat → Int32} {a_evenings : Nat → Int32} {a_sights : Nat → Int32} {a_choirs : Nat → Int32} {f_reached : Int32} {f_length : Int32} {f_begins : Int32} {f_sort : Int32} {f_value : Int32} {f_word : Int64} {f_wrongAt : Int32} {f_laterFault : Int32} {f_laterPlace : Int32} {a_told : Nat → Int32} {a_read : Nat → Int32} {f_farHut : Int32} {f_farSinger : Int32} {f_good : Int32} {f_land : Int32} {f_huts : Int32} {f_singers : Int32} {f_evening : Int32} {a_at : Nat → Int32} {a_knows : Nat → Int32} {a_climbed : Nat → Int32} {a_snow : Nat → Int32} {a_level : Nat → Int32} {f_begun : Int32} {f_minute : Int32} {f_avalanches : Int32} {a_run : Nat → Int32} {a_covers : Nat → Int32} {a_routes : Nat → Int32} {a_longest : Nat → Int32} {a_steep : Nat → Int32} {a_laid : Nat → Int32} {a_far : Nat → Int32} {f_sight : Int32} {a_runs : Nat → Int32} {f_choir : Int32} {f_voices : Int32} {a_rest : Nat → Int64} {a_wins : Nat → Int32} {f_seed : Int32} {a_other : Nat → Int32} {a_kept : Nat → Int32} {post : Int32 → Prop} (hw : q_m_deeds_0 a_evenings f_evening post) : Met l yX11_deeds (Cond.code yX11_deeds cX11_deeds 1 (some .int) :: zb) rm_m_deeds (va_Pc [.ref q] (fun U => mW E q f_code a_tape a_size a_fault a_faultPlace a_many a_lands a_evenings a_sights a_choirs f_reached f_length f_begins f_sort f_value f_word f_wrongAt f_laterFault f_laterPlace a_told a_read f_farHut f_farSinger f_good f_land f_huts f_singers f_evening a_at a_knows a_climbed a_snow a_level f_begun f_minute f_avalanches a_run a_covers a_routes a_longest a_steep a_laid a_far f_sight a_runs f_choir f_voices a_rest a_wins f_seed a_other a_kept U.heap ∧ zK E U)) (vp_Si post) 0 0 (fun _ => False) := by
  refine Met.ofW (cc := cX11_deeds) (maxL := 1) (ret := (some .int)) (by decide) rfl ?_
  intro p e s m args below meth c s₁ B hml hv
  obtain ⟨rfl, hM, hK⟩ := hv
  have zc := zc_of B hml
  have hl := lv_entry ([.ref q]) (n := 1) (Nat.le_of_ble_eq_true rfl)
  rw [lg_entry_eq]
  generalize (lg_sl ([.ref q]) ++ List.replicate (1 - (lg_sl ([.ref q])).length) Slot.unset).toArray = ls at hl ⊢
  have hl : lv_has ls 1 [(0, .ref q)] := hl
  exact t_m_deeds_0 zc hK hM (lv_sub hl [0] rfl) hw
-- m_deedOf
abbrev rm_m_deedOf : Room := { frames := 0, cells := 0, slots := 0, locals := 0 }
def q_m_deedOf_0 (a_evenings : Nat → Int32) (f_evening : Int32) (x1 : Int32) (x2 : Int32) (post : Int32 → Prop) : Prop :=
  vp_in (((((121 : Int32) * f_evening) + (1 : Int32)) + ((3 : Int32) * x1)) + x2) 968 ∧ (post (a_evenings (Int32.toNatClampNeg (((((121 : Int32) * f_evening) + (1 : Int32)) + ((3 : Int32) * x1)) + x2))))
set_option maxRecDepth 20000 in
theorem t_m_deedOf_0 {p : Program} {l : Launch} {e : Env} {s : State} {m : MethodId} {args : Array Value} {below : List Frame} {meth : Method} {c : Code} {E : zE} {q : Nat} {f_code : Int32} {a_tape : Nat → Int32} {a_size : Nat → Int32} {a_fault : Nat → Int32} {a_faultPlace : Nat → Int32} {a_many : Nat → Int32} {a_lands : Nat → Int32} {a_evenings : Nat → Int32} {a_sights : Nat → Int32} {a_choirs : Nat → Int32} {f_reached : Int32} {f_length : Int32} {f_begins : Int32} {f_sort : Int32} {f_value : Int32} {f_word : Int64} {f_wrongAt : Int32} {f_laterFault : Int32} {f_laterPlace : Int32} {a_told : Nat → Int32} {a_read : Nat → Int32} {f_farHut : Int32} {f_farSinger : Int32} {f_good : Int32} {f_land : Int32} {f_huts : Int32} {f_singers : Int32} {f_evening : Int32} {a_at : Nat → Int32} {a_knows : Nat → Int32} {a_climbed : Nat → Int32} {a_snow : Nat → Int32} {a_level : Nat → Int32} {f_begun : Int32} {f_minute : Int32} {f_avalanches : Int32} {a_run : Nat → Int32} {a_covers : Nat → Int32} {a_routes : Nat → Int32} {a_longest : Nat → Int32} {a_steep : Nat → Int32} {a_laid : Nat → Int32} {a_far : Nat → Int32} {f_sight : Int32} {a_runs : Nat → Int32} {f_choir : Int32} {f_voices : Int32} {a_rest : Nat → Int64} {a_wins : Nat → Int32} {f_seed : Int32} {a_other : Nat → Int32} {a_kept : Nat → Int32} {post : Int32 → Prop} {x1 : Int32} {x2 : Int32} {ls : Array Slot}
    (zc : zC p s m args meth c cX11_deedOf 3 RX11 (some .int))
    (hK : zK E s)
    (hM : mW E q f_code a_tape a_size a_fault a_faultPlace a_many a_lands a_evenings a_sights a_choirs f_reached f_length f_begins f_sort f_value f_word f_wrongAt f_laterFault f_laterPlace a_told a_read f_farHut f_farSinger f_good f_land f_huts f_singers f_evening a_at a_knows a_climbed a_snow a_level f_begun f_minute f_avalanches a_run a_covers a_routes a_longest a_steep a_laid a_far f_sight a_runs f_choir f_voices a_rest a_wins f_seed a_other a_kept s.heap)
    (hl : lv_has ls 3 [(0, .ref q), (1, .int x1), (2, .int x2)])
    (hw : q_m_deedOf_0 a_evenings f_evening x1 x2 post) :
    W p l e rm_m_deedOf s m args below meth c s.heap [] 0 0 (MQ below (vp_Si post) args s 0 0 (fun _ => False)) (F0 m 0 ls []) := by
  have hx := zc.1
  have hb := zc.2.1
  refine lv_aload_n hx hb dX11_deedOf_0 rfl (lv_at hl 0 rfl) ?_
  refine mg_11_29_0 zc hK hM dX11_deedOf_1 ?_
  refine lv_bipush (v := (121 : Int32)) hx hb dX11_deedOf_4 (by decide) ?_
  refine lv_aload_n hx hb dX11_deedOf_6 rfl (lv_at hl 0 rfl) ?_
  refine mg_11_328_0 zc hK hM dX11_deedOf_7 ?_
  refine lv_imul hx hb dX11_deedOf_10 ?_
  refine lv_iconst (v := (1 : Int32)) hx hb dX11_deedOf_11 (by decide) ?_
  refine lv_iadd hx hb dX11_deedOf_12 ?_
  refine lv_iconst (v := (3 : Int32)) hx hb dX11_deedOf_13 (by decide) ?_
  refine lv_iload_n hx hb dX11_deedOf_14 rfl (lv_at hl 1 rfl) ?_
  refine lv_imul hx hb dX11_deedOf_15 ?_
  refine lv_iadd hx hb dX11_deedOf_16 ?_
  refine lv_iload_n hx hb dX11_deedOf_17 rfl (lv_at hl 2 rfl) ?_
  refine lv_iadd hx hb dX11_deedOf_18 ?_
  refine mld_7 zc hK hM hw.1 dX11_deedOf_19 ?_
  have hw := hw.2
  exact zret_i zc hw dX11_deedOf_20
set_option maxRecDepth 20000 in
theorem c_m_deedOf (l : Launch) {E : zE} {q : Nat} {f_code : Int32} {a_tape : Nat → Int32} {a_size : Nat → Int32} {a_fault : Nat → Int32} {a_faultPlace : Nat → Int32} {a_many : Nat → Int32} {a_lands : Nat → Int32} {a_evenings : Nat → Int32} {a_sights : Nat → Int32} {a_choirs : Nat → Int32} {f_reached : Int32} {f_length : Int32} {f_begins : Int32} {f_sort : Int32} {f_value : Int32} {f_word : Int64} {f_wrongAt : Int32} {f_laterFault : Int32} {f_laterPlace : Int32} {a_told : Nat → Int32} {a_read : Nat → Int32} {f_farHut : Int32} {f_farSinger : Int32} {f_good : Int32} {f_land : Int32} {f_huts : Int32} {f_singers : Int32} {f_evening : Int32} {a_at : Nat → Int32} {a_knows : Nat → Int32} {a_climbed : Nat → Int32} {a_snow : Nat → Int32} {a_level : Nat → Int32} {f_begun : Int32} {f_minute : Int32} {f_avalanches : Int32} {a_run : Nat → Int32} {a_covers : Nat → Int32} {a_routes : Nat → Int32} {a_longest : Nat → Int32} {a_steep : Nat → Int32} {a_laid : Nat → Int32} {a_far : Nat → Int32} {f_sight : Int32} {a_runs : Nat → Int32} {f_choir : Int32} {f_voices : Int32} {a_rest : Nat → Int64} {a_wins : Nat → Int32} {f_seed : Int32} {a_other : Nat → Int32} {a_kept : Nat → Int32} {x1 : Int32} {x2 : Int32} {post : Int32 → Prop} (hw : q_m_deedOf_0 a_evenings f_evening x1 x2 post) : Met l yX11_deedOf (Cond.code yX11_deedOf cX11_deedOf 3 (some .int) :: zb) rm_m_deedOf (va_Pc [.ref q, .int x1, .int x2] (fun U => mW E q f_code a_tape a_size a_fault a_faultPlace a_many a_lands a_evenings a_sights a_choirs f_reached f_length f_begins f_sort f_value f_word f_wrongAt f_laterFault f_laterPlace a_told a_read f_farHut f_farSinger f_good f_land f_huts f_singers f_evening a_at a_knows a_climbed a_snow a_level f_begun f_minute f_avalanches a_run a_covers a_routes a_longest a_steep a_laid a_far f_sight a_runs f_choir f_voices a_rest a_wins f_seed a_other a_kept U.heap ∧ zK E U)) (vp_Si post) 0 0 (fun _ => False) := by
  refine Met.ofW (cc := cX11_deedOf) (maxL := 3) (ret := (some .int)) (by decide) rfl ?_
  intro p e s m args below meth c s₁ B hml hv
  obtain ⟨rfl, hM, hK⟩ := hv
  have zc := zc_of B hml
  have hl := lv_entry ([.ref q, .int x1, .int x2]) (n := 3) (Nat.le_of_ble_eq_true rfl)
  rw [lg_entry_eq]
  generalize (lg_sl ([.ref q, .int x1, .int x2]) ++ List.replicate (3 - (lg_sl ([.ref q, .int x1, .int x2])).length) Slot.unset).toArray = ls at hl ⊢
  have hl : lv_has ls 3 [(0, .ref q), (1, .int x1), (2, .int x2)] := hl
  exact t_m_deedOf_0 zc hK hM (lv_sub hl [0, 1, 2] rfl) hw
-- m_hasEvening
abbrev rm_m_hasEvening : Room := { frames := 2, cells := 0, slots := 0, locals := 44 }
def q_m_hasEvening_0 (a_many : Nat → Int32) (f_evening : Int32) (x1 : Int32) (post : Int32 → (Int32) → Prop) : Prop :=
  q_m_is_0 a_many (1 : Int32) x1 (fun r_1 => narrow .boolean (.int r_1) = .int r_1 ∧ post r_1 x1)
set_option maxRecDepth 20000 in
theorem t_m_hasEvening_0 {p : Program} {l : Launch} {e : Env} {s : State} {m : MethodId} {args : Array Value} {below : List Frame} {meth : Method} {c : Code} {E : zE} {q : Nat} {f_code : Int32} {a_tape : Nat → Int32} {a_size : Nat → Int32} {a_fault : Nat → Int32} {a_faultPlace : Nat → Int32} {a_many : Nat → Int32} {a_lands : Nat → Int32} {a_evenings : Nat → Int32} {a_sights : Nat → Int32} {a_choirs : Nat → Int32} {f_reached : Int32} {f_length : Int32} {f_begins : Int32} {f_sort : Int32} {f_value : Int32} {f_word : Int64} {f_wrongAt : Int32} {f_laterFault : Int32} {f_laterPlace : Int32} {a_told : Nat → Int32} {a_read : Nat → Int32} {f_farHut : Int32} {f_farSinger : Int32} {f_good : Int32} {f_land : Int32} {f_huts : Int32} {f_singers : Int32} {f_evening : Int32} {a_at : Nat → Int32} {a_knows : Nat → Int32} {a_climbed : Nat → Int32} {a_snow : Nat → Int32} {a_level : Nat → Int32} {f_begun : Int32} {f_minute : Int32} {f_avalanches : Int32} {a_run : Nat → Int32} {a_covers : Nat → Int32} {a_routes : Nat → Int32} {a_longest : Nat → Int32} {a_steep : Nat → Int32} {a_laid : Nat → Int32} {a_far : Nat → Int32} {f_sight : Int32} {a_runs : Nat → Int32} {f_choir : Int32} {f_voices : Int32} {a_rest : Nat → Int64} {a_wins : Nat → Int32} {f_seed : Int32} {a_other : Nat → Int32} {a_kept : Nat → Int32} {post : Int32 → (Int32) → Prop} {x1 : Int32} {ls : Array Slot} {H : Heap} {locs : List Loc}
    (zc : zC p s m args meth c cX11_hasEvening 2 RX11 (some .boolean))
    (hK : zK E s)
    (hM : mW E q f_code a_tape a_size a_fault a_faultPlace a_many a_lands a_evenings a_sights a_choirs f_reached f_length f_begins f_sort f_value f_word f_wrongAt f_laterFault f_laterPlace a_told a_read f_farHut f_farSinger f_good f_land f_huts f_singers f_evening a_at a_knows a_climbed a_snow a_level f_begun f_minute f_avalanches a_run a_covers a_routes a_longest a_steep a_laid a_far f_sight a_runs f_choir f_voices a_rest a_wins f_seed a_other a_kept H)
    (hS : va_S (mA q) s.heap H locs)
    (hl : lv_has ls 2 [(0, .ref q), (1, .int x1)])
    (hw : q_m_hasEvening_0 a_many f_evening x1 post) :
    W p l e rm_m_hasEvening s m args below meth c H locs 0 0 (MQ below (zQi (S := (Int32)) (fun r u => post r u) (fun u H => mW E q f_code a_tape a_size a_fault a_faultPlace a_many a_lands a_evenings a_sights a_choirs f_reached f_length f_begins f_sort f_value f_word f_wrongAt f_laterFault f_laterPlace a_told a_read f_farHut f_farSinger f_good f_land f_huts f_singers u a_at a_knows a_climbed a_snow a_level f_begun f_minute f_avalanches a_run a_covers a_routes a_longest a_steep a_laid a_far f_sight a_runs f_choir f_voices a_rest a_wins f_seed a_other a_kept H) (mA q)) args s 0 0 (mA q)) (F0 m 0 ls []) := by
  have hx := zc.1
  have hb := zc.2.1
  refine lv_aload_n hx hb dX11_hasEvening_0 rfl (lv_at hl 0 rfl) ?_
  refine lv_iload_n hx hb dX11_hasEvening_1 rfl (lv_at hl 1 rfl) ?_
  refine mp_11_328_0 zc hK hM hS dX11_hasEvening_2 (fun H locs hM hS => ?_)
  refine lv_aload_n hx hb dX11_hasEvening_5 rfl (lv_at hl 0 rfl) ?_
  refine lv_iconst (v := (1 : Int32)) hx hb dX11_hasEvening_6 (by decide) ?_
  refine lv_iload_n hx hb dX11_hasEvening_7 rfl (lv_at hl 1 rfl) ?_
  refine zV_i [.int (1 : Int32), .int x1] [] zc ky_X11_is kz_X11_is km_11_291 (c_m_is l hw) (mPreV0 hK hM) rfl rfl hl.1 (Nat.le_of_ble_eq_true rfl) ⟨rfl, rfl⟩ ⟨Nat.le_of_ble_eq_true rfl, Nat.le_of_ble_eq_true rfl⟩ ⟨(Nat.zero_le _), (Nat.zero_le _)⟩ dX11_hasEvening_8 (fun r_1 hw => ?_)
  exact zret_zw x1 zc hS hw.1 hw.2 hM dX11_hasEvening_11
set_option maxRecDepth 20000 in
theorem c_m_hasEvening (l : Launch) {E : zE} {q : Nat} {f_code : Int32} {a_tape : Nat → Int32} {a_size : Nat → Int32} {a_fault : Nat → Int32} {a_faultPlace : Nat → Int32} {a_many : Nat → Int32} {a_lands : Nat → Int32} {a_evenings : Nat → Int32} {a_sights : Nat → Int32} {a_choirs : Nat → Int32} {f_reached : Int32} {f_length : Int32} {f_begins : Int32} {f_sort : Int32} {f_value : Int32} {f_word : Int64} {f_wrongAt : Int32} {f_laterFault : Int32} {f_laterPlace : Int32} {a_told : Nat → Int32} {a_read : Nat → Int32} {f_farHut : Int32} {f_farSinger : Int32} {f_good : Int32} {f_land : Int32} {f_huts : Int32} {f_singers : Int32} {f_evening : Int32} {a_at : Nat → Int32} {a_knows : Nat → Int32} {a_climbed : Nat → Int32} {a_snow : Nat → Int32} {a_level : Nat → Int32} {f_begun : Int32} {f_minute : Int32} {f_avalanches : Int32} {a_run : Nat → Int32} {a_covers : Nat → Int32} {a_routes : Nat → Int32} {a_longest : Nat → Int32} {a_steep : Nat → Int32} {a_laid : Nat → Int32} {a_far : Nat → Int32} {f_sight : Int32} {a_runs : Nat → Int32} {f_choir : Int32} {f_voices : Int32} {a_rest : Nat → Int64} {a_wins : Nat → Int32} {f_seed : Int32} {a_other : Nat → Int32} {a_kept : Nat → Int32} {x1 : Int32} {post : Int32 → (Int32) → Prop} (hw : q_m_hasEvening_0 a_many f_evening x1 post) : Met l yX11_hasEvening (Cond.code yX11_hasEvening cX11_hasEvening 2 (some .boolean) :: zb) rm_m_hasEvening (va_Pc [.ref q, .int x1] (fun U => mW E q f_code a_tape a_size a_fault a_faultPlace a_many a_lands a_evenings a_sights a_choirs f_reached f_length f_begins f_sort f_value f_word f_wrongAt f_laterFault f_laterPlace a_told a_read f_farHut f_farSinger f_good f_land f_huts f_singers f_evening a_at a_knows a_climbed a_snow a_level f_begun f_minute f_avalanches a_run a_covers a_routes a_longest a_steep a_laid a_far f_sight a_runs f_choir f_voices a_rest a_wins f_seed a_other a_kept U.heap ∧ zK E U)) (zQi (S := (Int32)) (fun r u => post r u) (fun u H => mW E q f_code a_tape a_size a_fault a_faultPlace a_many a_lands a_evenings a_sights a_choirs f_reached f_length f_begins f_sort f_value f_word f_wrongAt f_laterFault f_laterPlace a_told a_read f_farHut f_farSinger f_good f_land f_huts f_singers u a_at a_knows a_climbed a_snow a_level f_begun f_minute f_avalanches a_run a_covers a_routes a_longest a_steep a_laid a_far f_sight a_runs f_choir f_voices a_rest a_wins f_seed a_other a_kept H) (mA q)) 0 0 (mA q) := by
  refine Met.ofW (cc := cX11_hasEvening) (maxL := 2) (ret := (some .boolean)) (by decide) rfl ?_
  intro p e s m args below meth c s₁ B hml hv
  obtain ⟨rfl, hM, hK⟩ := hv
  have zc := zc_of B hml
  have hl := lv_entry ([.ref q, .int x1]) (n := 2) (Nat.le_of_ble_eq_true rfl)
  rw [lg_entry_eq]
  generalize (lg_sl ([.ref q, .int x1]) ++ List.replicate (2 - (lg_sl ([.ref q, .int x1])).length) Slot.unset).toArray = ls at hl ⊢
  have hl : lv_has ls 2 [(0, .ref q), (1, .int x1)] := hl
  exact t_m_hasEvening_0 zc hK hM va_S.rf (lv_sub hl [0, 1] rfl) hw
-- m_deed
abbrev rm_m_deed : Room := { frames := 3, cells := 0, slots := 0, locals := 65 }
def q_m_deed_0 (f_code : Int32) (a_many : Nat → Int32) (a_evenings : Nat → Int32) (f_evening : Int32) (x1 : Int32) (x2 : Int32) (x3 : Int32) (post : Int32 → (Int32) → (Int32) → Prop) : Prop :=
  q_m_hasEvening_0 a_many f_evening x1 (fun r_1 f_evening_1 => (¬ r_1 = 0 → ((¬ x2 = (-1 : Int32) → (q_m_deeds_0 a_evenings f_evening_1 (fun r_2 => q_m_in_0 x2 (0 : Int32) (r_2 - (1 : Int32)) (fun r_3 => (r_3 = 0 → (post (-2 : Int32) (0 : Int32) f_evening_1)) ∧ (¬ r_3 = 0 → (q_m_in_0 x3 (0 : Int32) (2 : Int32) (fun r_4 => (r_4 = 0 → (post (-2 : Int32) (0 : Int32) f_evening_1)) ∧ (¬ r_4 = 0 → (q_m_deedOf_0 a_evenings f_evening_1 x2 x3 (fun r_5 => post r_5 (0 : Int32) f_evening_1)))))))))) ∧ (x2 = (-1 : Int32) → ((¬ x3 = 0 → (post (-2 : Int32) (0 : Int32) f_evening_1)) ∧ (x3 = 0 → (q_m_deeds_0 a_evenings f_evening_1 (fun r_6 => post r_6 (0 : Int32) f_evening_1))))))) ∧ (r_1 = 0 → (post (-2 : Int32) (0 : Int32) f_evening_1)))
set_option maxRecDepth 20000 in
theorem t_m_deed_0 {p : Program} {l : Launch} {e : Env} {s : State} {m : MethodId} {args : Array Value} {below : List Frame} {meth : Method} {c : Code} {E : zE} {q : Nat} {f_code : Int32} {a_tape : Nat → Int32} {a_size : Nat → Int32} {a_fault : Nat → Int32} {a_faultPlace : Nat → Int32} {a_many : Nat → Int32} {a_lands : Nat → Int32} {a_evenings : Nat → Int32} {a_sights : Nat → Int32} {a_choirs : Nat → Int32} {f_reached : Int32} {f_length : Int32} {f_begins : Int32} {f_sort : Int32} {f_value : Int32} {f_word : Int64} {f_wrongAt : Int32} {f_laterFault : Int32} {f_laterPlace : Int32} {a_told : Nat → Int32} {a_read : Nat → Int32} {f_farHut : Int32} {f_farSinger : Int32} {f_good : Int32} {f_land : Int32} {f_huts : Int32} {f_singers : Int32} {f_evening : Int32} {a_at : Nat → Int32} {a_knows : Nat → Int32} {a_climbed : Nat → Int32} {a_snow : Nat → Int32} {a_level : Nat → Int32} {f_begun : Int32} {f_minute : Int32} {f_avalanches : Int32} {a_run : Nat → Int32} {a_covers : Nat → Int32} {a_routes : Nat → Int32} {a_longest : Nat → Int32} {a_steep : Nat → Int32} {a_laid : Nat → Int32} {a_far : Nat → Int32} {f_sight : Int32} {a_runs : Nat → Int32} {f_choir : Int32} {f_voices : Int32} {a_rest : Nat → Int64} {a_wins : Nat → Int32} {f_seed : Int32} {a_other : Nat → Int32} {a_kept : Nat → Int32} {post : Int32 → (Int32) → (Int32) → Prop} {x1 : Int32} {x2 : Int32} {x3 : Int32} {ls : Array Slot} {H : Heap} {locs : List Loc}
    (zc : zC p s m args meth c cX11_deed 4 RX11 (some .int))
    (hK : zK E s)
    (hM : mW E q f_code a_tape a_size a_fault a_faultPlace a_many a_lands a_evenings a_sights a_choirs f_reached f_length f_begins f_sort f_value f_word f_wrongAt f_laterFault f_laterPlace a_told a_read f_farHut f_farSinger f_good f_land f_huts f_singers f_evening a_at a_knows a_climbed a_snow a_level f_begun f_minute f_avalanches a_run a_covers a_routes a_longest a_steep a_laid a_far f_sight a_runs f_choir f_voices a_rest a_wins f_seed a_other a_kept H)
    (hS : va_S (mA q) s.heap H locs)
    (hl : lv_has ls 4 [(0, .ref q), (1, .int x1), (2, .int x2), (3, .int x3)])
    (hw : q_m_deed_0 f_code a_many a_evenings f_evening x1 x2 x3 post) :
    W p l e rm_m_deed s m args below meth c H locs 0 0 (MQ below (zQi (S := (Int32) × (Int32)) (fun r u => post r u.1 u.2) (fun u H => mW E q u.1 a_tape a_size a_fault a_faultPlace a_many a_lands a_evenings a_sights a_choirs f_reached f_length f_begins f_sort f_value f_word f_wrongAt f_laterFault f_laterPlace a_told a_read f_farHut f_farSinger f_good f_land f_huts f_singers u.2 a_at a_knows a_climbed a_snow a_level f_begun f_minute f_avalanches a_run a_covers a_routes a_longest a_steep a_laid a_far f_sight a_runs f_choir f_voices a_rest a_wins f_seed a_other a_kept H) (mA q)) args s 0 0 (mA q)) (F0 m 0 ls []) := by
  have hx := zc.1
  have hb := zc.2.1
  refine lv_aload_n hx hb dX11_deed_0 rfl (lv_at hl 0 rfl) ?_
  refine lv_iconst (v := (0 : Int32)) hx hb dX11_deed_1 (by decide) ?_
  refine mp_11_97_0 zc hK hM hS dX11_deed_2 (fun H locs hM hS => ?_)
  refine lv_aload_n hx hb dX11_deed_5 rfl (lv_at hl 0 rfl) ?_
  refine lv_iload_n hx hb dX11_deed_6 rfl (lv_at hl 1 rfl) ?_
  refine zVw_i [.int x1] [] zc ky_X11_hasEvening kz_X11_hasEvening km_11_331 (c_m_hasEvening l hw) (mPreV0 hK hM) hS rfl rfl hl.1 (Nat.le_of_ble_eq_true rfl) ⟨rfl, rfl⟩ ⟨Nat.le_of_ble_eq_true rfl, Nat.le_of_ble_eq_true rfl⟩ ⟨(Nat.zero_le _), (Nat.zero_le _)⟩ dX11_deed_7 (fun r_1 f_evening_1 H locs hw hM hS => ?_)
  refine lv_if_ne (tgt := 16) hx hb dX11_deed_10 (by decide) (fun hc => ?_) (fun hc => ?_)
  · have hw := hw.1 hc
    refine lv_iload_n hx hb dX11_deed_16 rfl (lv_at hl 2 rfl) ?_
    refine lv_iconst (v := (-1 : Int32)) hx hb dX11_deed_17 (by decide) ?_
    refine lv_icmp_ne (tgt := 35) hx hb dX11_deed_18 (by decide) (fun hc => ?_) (fun hc => ?_)
    · have hw := hw.1 hc
      refine lv_iload_n hx hb dX11_deed_35 rfl (lv_at hl 2 rfl) ?_
      refine lv_iconst (v := (0 : Int32)) hx hb dX11_deed_36 (by decide) ?_
      refine lv_aload_n hx hb dX11_deed_37 rfl (lv_at hl 0 rfl) ?_
      refine zV_i [] [.int (0 : Int32), .int x2] zc ky_X11_deeds kz_X11_deeds km_11_334 (c_m_deeds l hw) (mPreV0 hK hM) rfl rfl hl.1 (Nat.le_of_ble_eq_true rfl) ⟨rfl, rfl⟩ ⟨Nat.le_of_ble_eq_true rfl, Nat.le_of_ble_eq_true rfl⟩ ⟨(Nat.zero_le _), (Nat.zero_le _)⟩ dX11_deed_38 (fun r_2 hw => ?_)
      refine lv_iconst (v := (1 : Int32)) hx hb dX11_deed_41 (by decide) ?_
      refine lv_isub hx hb dX11_deed_42 ?_
      refine zS_i [.int x2, .int (0 : Int32), .int (r_2 - (1 : Int32))] [] zc ky_X11_in kz_X11_in km_11_109 (c_m_in l hw) (zPre0 _) rfl rfl hl.1 (Nat.le_of_ble_eq_true rfl) ⟨rfl, rfl⟩ ⟨Nat.le_of_ble_eq_true rfl, Nat.le_of_ble_eq_true rfl⟩ ⟨(Nat.zero_le _), (Nat.zero_le _)⟩ dX11_deed_43 (fun r_3 hw => ?_)
      refine lv_if_eq (tgt := 67) hx hb dX11_deed_46 (by decide) (fun hc => ?_) (fun hc => ?_)
      · have hw := hw.1 hc
        refine lv_bipush (v := (-2 : Int32)) hx hb dX11_deed_67 (by decide) ?_
        exact zret_iw ⟨(0 : Int32), f_evening_1⟩ zc hS hw hM dX11_deed_69
      · have hw := hw.2 hc
        refine lv_iload_n hx hb dX11_deed_49 rfl (lv_at hl 3 rfl) ?_
        refine lv_iconst (v := (0 : Int32)) hx hb dX11_deed_50 (by decide) ?_
        refine lv_iconst (v := (2 : Int32)) hx hb dX11_deed_51 (by decide) ?_
        refine zS_i [.int x3, .int (0 : Int32), .int (2 : Int32)] [] zc ky_X11_in kz_X11_in km_11_109 (c_m_in l hw) (zPre0 _) rfl rfl hl.1 (Nat.le_of_ble_eq_true rfl) ⟨rfl, rfl⟩ ⟨Nat.le_of_ble_eq_true rfl, Nat.le_of_ble_eq_true rfl⟩ ⟨(Nat.zero_le _), (Nat.zero_le _)⟩ dX11_deed_52 (fun r_4 hw => ?_)
        refine lv_if_eq (tgt := 67) hx hb dX11_deed_55 (by decide) (fun hc => ?_) (fun hc => ?_)
        · have hw := hw.1 hc
          refine lv_bipush (v := (-2 : Int32)) hx hb dX11_deed_67 (by decide) ?_
          exact zret_iw ⟨(0 : Int32), f_evening_1⟩ zc hS hw hM dX11_deed_69
        · have hw := hw.2 hc
          refine lv_aload_n hx hb dX11_deed_58 rfl (lv_at hl 0 rfl) ?_
          refine lv_iload_n hx hb dX11_deed_59 rfl (lv_at hl 2 rfl) ?_
          refine lv_iload_n hx hb dX11_deed_60 rfl (lv_at hl 3 rfl) ?_
          refine zV_i [.int x2, .int x3] [] zc ky_X11_deedOf kz_X11_deedOf km_11_337 (c_m_deedOf l hw) (mPreV0 hK hM) rfl rfl hl.1 (Nat.le_of_ble_eq_true rfl) ⟨rfl, rfl⟩ ⟨Nat.le_of_ble_eq_true rfl, Nat.le_of_ble_eq_true rfl⟩ ⟨(Nat.zero_le _), (Nat.zero_le _)⟩ dX11_deed_61 (fun r_5 hw => ?_)
          refine lv_goto (tgt := 69) hx hb dX11_deed_64 (by decide) ?_
          exact zret_iw ⟨(0 : Int32), f_evening_1⟩ zc hS hw hM dX11_deed_69
    · have hw := hw.2 hc
      refine lv_iload_n hx hb dX11_deed_21 rfl (lv_at hl 3 rfl) ?_
      refine lv_if_ne (tgt := 32) hx hb dX11_deed_22 (by decide) (fun hc => ?_) (fun hc => ?_)
      · have hw := hw.1 hc
        refine lv_bipush (v := (-2 : Int32)) hx hb dX11_deed_32 (by decide) ?_
        exact zret_iw ⟨(0 : Int32), f_evening_1⟩ zc hS hw hM dX11_deed_34
      · have hw := hw.2 hc
        refine lv_aload_n hx hb dX11_deed_25 rfl (lv_at hl 0 rfl) ?_
        refine zV_i [] [] zc ky_X11_deeds kz_X11_deeds km_11_334 (c_m_deeds l hw) (mPreV0 hK hM) rfl rfl hl.1 (Nat.le_of_ble_eq_true rfl) ⟨rfl, rfl⟩ ⟨Nat.le_of_ble_eq_true rfl, Nat.le_of_ble_eq_true rfl⟩ ⟨(Nat.zero_le _), (Nat.zero_le _)⟩ dX11_deed_26 (fun r_6 hw => ?_)
        refine lv_goto (tgt := 34) hx hb dX11_deed_29 (by decide) ?_
        exact zret_iw ⟨(0 : Int32), f_evening_1⟩ zc hS hw hM dX11_deed_34
  · have hw := hw.2 hc
    refine lv_bipush (v := (-2 : Int32)) hx hb dX11_deed_13 (by decide) ?_
    exact zret_iw ⟨(0 : Int32), f_evening_1⟩ zc hS hw hM dX11_deed_15
set_option maxRecDepth 20000 in
theorem c_m_deed (l : Launch) {E : zE} {q : Nat} {f_code : Int32} {a_tape : Nat → Int32} {a_size : Nat → Int32} {a_fault : Nat → Int32} {a_faultPlace : Nat → Int32} {a_many : Nat → Int32} {a_lands : Nat → Int32} {a_evenings : Nat → Int32} {a_sights : Nat → Int32} {a_choirs : Nat → Int32} {f_reached : Int32} {f_length : Int32} {f_begins : Int32} {f_sort : Int32} {f_value : Int32} {f_word : Int64} {f_wrongAt : Int32} {f_laterFault : Int32} {f_laterPlace : Int32} {a_told : Nat → Int32} {a_read : Nat → Int32} {f_farHut : Int32} {f_farSinger : Int32} {f_good : Int32} {f_land : Int32} {f_huts : Int32} {f_singers : Int32} {f_evening : Int32} {a_at : Nat → Int32} {a_knows : Nat → Int32} {a_climbed : Nat → Int32} {a_snow : Nat → Int32} {a_level : Nat → Int32} {f_begun : Int32} {f_minute : Int32} {f_avalanches : Int32} {a_run : Nat → Int32} {a_covers : Nat → Int32} {a_routes : Nat → Int32} {a_longest : Nat → Int32} {a_steep : Nat → Int32} {a_laid : Nat → Int32} {a_far : Nat → Int32} {f_sight : Int32} {a_runs : Nat → Int32} {f_choir : Int32} {f_voices : Int32} {a_rest : Nat → Int64} {a_wins : Nat → Int32} {f_seed : Int32} {a_other : Nat → Int32} {a_kept : Nat → Int32} {x1 : Int32} {x2 : Int32} {x3 : Int32} {post : Int32 → (Int32) → (Int32) → Prop} (hw : q_m_deed_0 f_code a_many a_evenings f_evening x1 x2 x3 post) : Met l yX11_deed (Cond.code yX11_deed cX11_deed 4 (some .int) :: zb) rm_m_deed (va_Pc [.ref q, .int x1, .int x2, .int x3] (fun U => mW E q f_code a_tape a_size a_fault a_faultPlace a_many a_lands a_evenings a_sights a_choirs f_reached f_length f_begins f_sort f_value f_word f_wrongAt f_laterFault f_laterPlace a_told a_read f_farHut f_farSinger f_good f_land f_huts f_singers f_evening a_at a_knows a_climbed a_snow a_level f_begun f_minute f_avalanches a_run a_covers a_routes a_longest a_steep a_laid a_far f_sight a_runs f_choir f_voices a_rest a_wins f_seed a_other a_kept U.heap ∧ zK E U)) (zQi (S := (Int32) × (Int32)) (fun r u => post r u.1 u.2) (fun u H => mW E q u.1 a_tape a_size a_fault a_faultPlace a_many a_lands a_evenings a_sights a_choirs f_reached f_length f_begins f_sort f_value f_word f_wrongAt f_laterFault f_laterPlace a_told a_read f_farHut f_farSinger f_good f_land f_huts f_singers u.2 a_at a_knows a_climbed a_snow a_level f_begun f_minute f_avalanches a_run a_covers a_routes a_longest a_steep a_laid a_far f_sight a_runs f_choir f_voices a_rest a_wins f_seed a_other a_kept H) (mA q)) 0 0 (mA q) := by
  refine Met.ofW (cc := cX11_deed) (maxL := 4) (ret := (some .int)) (by decide) rfl ?_
  intro p e s m args below meth c s₁ B hml hv
  obtain ⟨rfl, hM, hK⟩ := hv
  have zc := zc_of B hml
  have hl := lv_entry ([.ref q, .int x1, .int x2, .int x3]) (n := 4) (Nat.le_of_ble_eq_true rfl)
  rw [lg_entry_eq]
  generalize (lg_sl ([.ref q, .int x1, .int x2, .int x3]) ++ List.replicate (4 - (lg_sl ([.ref q, .int x1, .int x2, .int x3])).length) Slot.unset).toArray = ls at hl ⊢
  have hl : lv_has ls 4 [(0, .ref q), (1, .int x1), (2, .int x2), (3, .int x3)] := hl
  exact t_m_deed_0 zc hK hM va_S.rf (lv_sub hl [0, 1, 2, 3] rfl) hw
-- m_begin
abbrev rm_m_begin : Room := { frames := 1, cells := 0, slots := 0, locals := 21 }
def q_m_begin_51 (a_lands : Nat → Int32) (f_land : Int32) (a_at : Nat → Int32) (a_knows : Nat → Int32) (a_climbed : Nat → Int32) (a_snow : Nat → Int32) (f_begun : Int32) (f_minute : Int32) (f_avalanches : Int32) (x1 : Int32) (post : (Nat → Int32) → (Nat → Int32) → (Nat → Int32) → (Nat → Int32) → (Int32) → (Int32) → (Int32) → Prop) : Prop :=
  ∀ P51 : Int32 → (Nat → Int32) → Prop, (∀ (x1 : Int32) (a_snow : Nat → Int32), (((9 : Int32) ≤ x1 → (post a_at a_knows a_climbed a_snow (0 : Int32) (0 : Int32) (0 : Int32))) ∧ (¬ (9 : Int32) ≤ x1 → (vp_in x1 9 ∧ (∀ a_snow_1 : Nat → Int32, a_snow_1 = upd a_snow (Int32.toNatClampNeg x1) (0 : Int32) → (∀ v_1 : Int32, v_1 = x1 + (1 : Int32) → (P51 v_1 a_snow_1)))))) → P51 x1 a_snow) → P51 x1 a_snow
def q_m_begin_2 (a_lands : Nat → Int32) (f_land : Int32) (a_at : Nat → Int32) (a_knows : Nat → Int32) (a_climbed : Nat → Int32) (a_snow : Nat → Int32) (f_begun : Int32) (f_minute : Int32) (f_avalanches : Int32) (x1 : Int32) (post : (Nat → Int32) → (Nat → Int32) → (Nat → Int32) → (Nat → Int32) → (Int32) → (Int32) → (Int32) → Prop) : Prop :=
  ∀ P2 : Int32 → (Nat → Int32) → (Nat → Int32) → (Nat → Int32) → Prop, (∀ (x1 : Int32) (a_at : Nat → Int32) (a_knows : Nat → Int32) (a_climbed : Nat → Int32), (((6 : Int32) ≤ x1 → (q_m_begin_51 a_lands f_land a_at a_knows a_climbed a_snow f_begun f_minute f_avalanches (0 : Int32) post)) ∧ (¬ (6 : Int32) ≤ x1 → (q_m_of_0 a_lands f_land ((25 : Int32) + x1) (fun r_1 => vp_in x1 6 ∧ (∀ a_at_1 : Nat → Int32, a_at_1 = upd a_at (Int32.toNatClampNeg x1) r_1 → (q_m_of_0 a_lands f_land ((37 : Int32) + x1) (fun r_2 => vp_in x1 6 ∧ (∀ a_knows_1 : Nat → Int32, a_knows_1 = upd a_knows (Int32.toNatClampNeg x1) r_2 → (vp_in x1 6 ∧ (∀ a_climbed_1 : Nat → Int32, a_climbed_1 = upd a_climbed (Int32.toNatClampNeg x1) (0 : Int32) → (∀ v_1 : Int32, v_1 = x1 + (1 : Int32) → (P2 v_1 a_at_1 a_knows_1 a_climbed_1)))))))))))) → P2 x1 a_at a_knows a_climbed) → P2 x1 a_at a_knows a_climbed
def q_m_begin_0 (a_lands : Nat → Int32) (f_land : Int32) (a_at : Nat → Int32) (a_knows : Nat → Int32) (a_climbed : Nat → Int32) (a_snow : Nat → Int32) (f_begun : Int32) (f_minute : Int32) (f_avalanches : Int32) (post : (Nat → Int32) → (Nat → Int32) → (Nat → Int32) → (Nat → Int32) → (Int32) → (Int32) → (Int32) → Prop) : Prop :=
  q_m_begin_2 a_lands f_land a_at a_knows a_climbed a_snow f_begun f_minute f_avalanches (0 : Int32) post
set_option maxRecDepth 20000 in
theorem t_m_begin_51 {p : Program} {l : Launch} {e : Env} {s : State} {m : MethodId} {args : Array Value} {below : List Frame} {meth : Method} {c : Code} {E : zE} {q : Nat} {f_code : Int32} {a_tape : Nat → Int32} {a_size : Nat → Int32} {a_fault : Nat → Int32} {a_faultPlace : Nat → Int32} {a_many : Nat → Int32} {a_lands : Nat → Int32} {a_evenings : Nat → Int32} {a_sights : Nat → Int32} {a_choirs : Nat → Int32} {f_reached : Int32} {f_length : Int32} {f_begins : Int32} {f_sort : Int32} {f_value : Int32} {f_word : Int64} {f_wrongAt : Int32} {f_laterFault : Int32} {f_laterPlace : Int32} {a_told : Nat → Int32} {a_read : Nat → Int32} {f_farHut : Int32} {f_farSinger : Int32} {f_good : Int32} {f_land : Int32} {f_huts : Int32} {f_singers : Int32} {f_evening : Int32} {a_at : Nat → Int32} {a_knows : Nat → Int32} {a_climbed : Nat → Int32} {a_snow : Nat → Int32} {a_level : Nat → Int32} {f_begun : Int32} {f_minute : Int32} {f_avalanches : Int32} {a_run : Nat → Int32} {a_covers : Nat → Int32} {a_routes : Nat → Int32} {a_longest : Nat → Int32} {a_steep : Nat → Int32} {a_laid : Nat → Int32} {a_far : Nat → Int32} {f_sight : Int32} {a_runs : Nat → Int32} {f_choir : Int32} {f_voices : Int32} {a_rest : Nat → Int64} {a_wins : Nat → Int32} {f_seed : Int32} {a_other : Nat → Int32} {a_kept : Nat → Int32} {post : (Nat → Int32) → (Nat → Int32) → (Nat → Int32) → (Nat → Int32) → (Int32) → (Int32) → (Int32) → Prop} {x1 : Int32} {ls : Array Slot} {H : Heap} {locs : List Loc}
    (zc : zC p s m args meth c cX11_begin 2 RX11 none)
    (hK : zK E s)
    (hM : mW E q f_code a_tape a_size a_fault a_faultPlace a_many a_lands a_evenings a_sights a_choirs f_reached f_length f_begins f_sort f_value f_word f_wrongAt f_laterFault f_laterPlace a_told a_read f_farHut f_farSinger f_good f_land f_huts f_singers f_evening a_at a_knows a_climbed a_snow a_level f_begun f_minute f_avalanches a_run a_covers a_routes a_longest a_steep a_laid a_far f_sight a_runs f_choir f_voices a_rest a_wins f_seed a_other a_kept H)
    (hS : va_S (mA q) s.heap H locs)
    (hl : lv_has ls 2 [(0, .ref q), (1, .int x1)])
    (hw : q_m_begin_51 a_lands f_land a_at a_knows a_climbed a_snow f_begun f_minute f_avalanches x1 post) :
    W p l e rm_m_begin s m args below meth c H locs 0 0 (MQ below (zQv (S := (Nat → Int32) × (Nat → Int32) × (Nat → Int32) × (Nat → Int32) × (Int32) × (Int32) × (Int32)) (fun u => post u.1 u.2.1 u.2.2.1 u.2.2.2.1 u.2.2.2.2.1 u.2.2.2.2.2.1 u.2.2.2.2.2.2) (fun u H => mW E q f_code a_tape a_size a_fault a_faultPlace a_many a_lands a_evenings a_sights a_choirs f_reached f_length f_begins f_sort f_value f_word f_wrongAt f_laterFault f_laterPlace a_told a_read f_farHut f_farSinger f_good f_land f_huts f_singers f_evening u.1 u.2.1 u.2.2.1 u.2.2.2.1 a_level u.2.2.2.2.1 u.2.2.2.2.2.1 u.2.2.2.2.2.2 a_run a_covers a_routes a_longest a_steep a_laid a_far f_sight a_runs f_choir f_voices a_rest a_wins f_seed a_other a_kept H) (mA q)) args s 0 0 (mA q)) (F0 m 51 ls []) := by
  have hx := zc.1
  have hb := zc.2.1
  refine hw (fun x1 a_snow => ∀ (H : Heap) (locs : List Loc) (ls : Array Slot), lv_has ls 2 [(0, .ref q), (1, .int x1)] → mW E q f_code a_tape a_size a_fault a_faultPlace a_many a_lands a_evenings a_sights a_choirs f_reached f_length f_begins f_sort f_value f_word f_wrongAt f_laterFault f_laterPlace a_told a_read f_farHut f_farSinger f_good f_land f_huts f_singers f_evening a_at a_knows a_climbed a_snow a_level f_begun f_minute f_avalanches a_run a_covers a_routes a_longest a_steep a_laid a_far f_sight a_runs f_choir f_voices a_rest a_wins f_seed a_other a_kept H → va_S (mA q) s.heap H locs → W p l e rm_m_begin s m args below meth c H locs 0 0 (MQ below (zQv (S := (Nat → Int32) × (Nat → Int32) × (Nat → Int32) × (Nat → Int32) × (Int32) × (Int32) × (Int32)) (fun u => post u.1 u.2.1 u.2.2.1 u.2.2.2.1 u.2.2.2.2.1 u.2.2.2.2.2.1 u.2.2.2.2.2.2) (fun u H => mW E q f_code a_tape a_size a_fault a_faultPlace a_many a_lands a_evenings a_sights a_choirs f_reached f_length f_begins f_sort f_value f_word f_wrongAt f_laterFault f_laterPlace a_told a_read f_farHut f_farSinger f_good f_land f_huts f_singers f_evening u.1 u.2.1 u.2.2.1 u.2.2.2.1 a_level u.2.2.2.2.1 u.2.2.2.2.2.1 u.2.2.2.2.2.2 a_run a_covers a_routes a_longest a_steep a_laid a_far f_sight a_runs f_choir f_voices a_rest a_wins f_seed a_other a_kept H) (mA q)) args s 0 0 (mA q)) (F0 m 51 ls [])) ?_ _ _ _ hl hM hS
  intro x1 a_snow hw H locs ls hl hM hS
  refine lv_iload_n hx hb dX11_begin_51 rfl (lv_at hl 1 rfl) ?_
  refine lv_bipush (v := (9 : Int32)) hx hb dX11_begin_52 (by decide) ?_
  refine lv_icmp_ge (tgt := 70) hx hb dX11_begin_54 (by decide) (fun hc => ?_) (fun hc => ?_)
  · have hw := hw.1 hc
    refine lv_aload_n hx hb dX11_begin_70 rfl (lv_at hl 0 rfl) ?_
    refine lv_iconst (v := (0 : Int32)) hx hb dX11_begin_71 (by decide) ?_
    refine mp_11_340_0 zc hK hM hS dX11_begin_72 (fun H locs hM hS => ?_)
    refine lv_aload_n hx hb dX11_begin_75 rfl (lv_at hl 0 rfl) ?_
    refine lv_iconst (v := (0 : Int32)) hx hb dX11_begin_76 (by decide) ?_
    refine mp_11_343_0 zc hK hM hS dX11_begin_77 (fun H locs hM hS => ?_)
    refine lv_aload_n hx hb dX11_begin_80 rfl (lv_at hl 0 rfl) ?_
    refine lv_iconst (v := (0 : Int32)) hx hb dX11_begin_81 (by decide) ?_
    refine mp_11_346_0 zc hK hM hS dX11_begin_82 (fun H locs hM hS => ?_)
    exact zret_vw ⟨a_at, a_knows, a_climbed, a_snow, (0 : Int32), (0 : Int32), (0 : Int32)⟩ zc hS hw hM dX11_begin_85
  · have hw := hw.2 hc
    refine lv_aload_n hx hb dX11_begin_57 rfl (lv_at hl 0 rfl) ?_
    refine mg_11_53_0 zc hK hM dX11_begin_58 ?_
    refine lv_iload_n hx hb dX11_begin_61 rfl (lv_at hl 1 rfl) ?_
    refine lv_iconst (v := (0 : Int32)) hx hb dX11_begin_62 (by decide) ?_
    refine mst_15 zc hK hM hS hw.1 dX11_begin_63 (fun a_snow_1 H locs ea_snow_1 hM hS => ?_)
    have hw := hw.2 a_snow_1 ea_snow_1
    obtain ⟨v_1, ev_1⟩ : ∃ y : Int32, y = x1 + (1 : Int32) := ⟨_, rfl⟩
    have hw := hw v_1 ev_1
    refine lv_iinc (v := v_1) (k := 1) (lv' := [(1, .int v_1), (0, .ref q)]) hx hb dX11_begin_64 hl rfl (by rw [ev_1]; rfl) (by decide) rfl (fun ls hl => ?_)
    refine lv_goto (tgt := 51) hx hb dX11_begin_67 (by decide) ?_
    exact hw _ _ _ (lv_sub hl [1, 0] rfl) hM hS
set_option maxRecDepth 20000 in
theorem t_m_begin_2 {p : Program} {l : Launch} {e : Env} {s : State} {m : MethodId} {args : Array Value} {below : List Frame} {meth : Method} {c : Code} {E : zE} {q : Nat} {f_code : Int32} {a_tape : Nat → Int32} {a_size : Nat → Int32} {a_fault : Nat → Int32} {a_faultPlace : Nat → Int32} {a_many : Nat → Int32} {a_lands : Nat → Int32} {a_evenings : Nat → Int32} {a_sights : Nat → Int32} {a_choirs : Nat → Int32} {f_reached : Int32} {f_length : Int32} {f_begins : Int32} {f_sort : Int32} {f_value : Int32} {f_word : Int64} {f_wrongAt : Int32} {f_laterFault : Int32} {f_laterPlace : Int32} {a_told : Nat → Int32} {a_read : Nat → Int32} {f_farHut : Int32} {f_farSinger : Int32} {f_good : Int32} {f_land : Int32} {f_huts : Int32} {f_singers : Int32} {f_evening : Int32} {a_at : Nat → Int32} {a_knows : Nat → Int32} {a_climbed : Nat → Int32} {a_snow : Nat → Int32} {a_level : Nat → Int32} {f_begun : Int32} {f_minute : Int32} {f_avalanches : Int32} {a_run : Nat → Int32} {a_covers : Nat → Int32} {a_routes : Nat → Int32} {a_longest : Nat → Int32} {a_steep : Nat → Int32} {a_laid : Nat → Int32} {a_far : Nat → Int32} {f_sight : Int32} {a_runs : Nat → Int32} {f_choir : Int32} {f_voices : Int32} {a_rest : Nat → Int64} {a_wins : Nat → Int32} {f_seed : Int32} {a_other : Nat → Int32} {a_kept : Nat → Int32} {post : (Nat → Int32) → (Nat → Int32) → (Nat → Int32) → (Nat → Int32) → (Int32) → (Int32) → (Int32) → Prop} {x1 : Int32} {ls : Array Slot} {H : Heap} {locs : List Loc}
    (zc : zC p s m args meth c cX11_begin 2 RX11 none)
    (hK : zK E s)
    (hM : mW E q f_code a_tape a_size a_fault a_faultPlace a_many a_lands a_evenings a_sights a_choirs f_reached f_length f_begins f_sort f_value f_word f_wrongAt f_laterFault f_laterPlace a_told a_read f_farHut f_farSinger f_good f_land f_huts f_singers f_evening a_at a_knows a_climbed a_snow a_level f_begun f_minute f_avalanches a_run a_covers a_routes a_longest a_steep a_laid a_far f_sight a_runs f_choir f_voices a_rest a_wins f_seed a_other a_kept H)
    (hS : va_S (mA q) s.heap H locs)
    (hl : lv_has ls 2 [(0, .ref q), (1, .int x1)])
    (hw : q_m_begin_2 a_lands f_land a_at a_knows a_climbed a_snow f_begun f_minute f_avalanches x1 post) :
    W p l e rm_m_begin s m args below meth c H locs 0 0 (MQ below (zQv (S := (Nat → Int32) × (Nat → Int32) × (Nat → Int32) × (Nat → Int32) × (Int32) × (Int32) × (Int32)) (fun u => post u.1 u.2.1 u.2.2.1 u.2.2.2.1 u.2.2.2.2.1 u.2.2.2.2.2.1 u.2.2.2.2.2.2) (fun u H => mW E q f_code a_tape a_size a_fault a_faultPlace a_many a_lands a_evenings a_sights a_choirs f_reached f_length f_begins f_sort f_value f_word f_wrongAt f_laterFault f_laterPlace a_told a_read f_farHut f_farSinger f_good f_land f_huts f_singers f_evening u.1 u.2.1 u.2.2.1 u.2.2.2.1 a_level u.2.2.2.2.1 u.2.2.2.2.2.1 u.2.2.2.2.2.2 a_run a_covers a_routes a_longest a_steep a_laid a_far f_sight a_runs f_choir f_voices a_rest a_wins f_seed a_other a_kept H) (mA q)) args s 0 0 (mA q)) (F0 m 2 ls []) := by
  have hx := zc.1
  have hb := zc.2.1
  refine hw (fun x1 a_at a_knows a_climbed => ∀ (H : Heap) (locs : List Loc) (ls : Array Slot), lv_has ls 2 [(0, .ref q), (1, .int x1)] → mW E q f_code a_tape a_size a_fault a_faultPlace a_many a_lands a_evenings a_sights a_choirs f_reached f_length f_begins f_sort f_value f_word f_wrongAt f_laterFault f_laterPlace a_told a_read f_farHut f_farSinger f_good f_land f_huts f_singers f_evening a_at a_knows a_climbed a_snow a_level f_begun f_minute f_avalanches a_run a_covers a_routes a_longest a_steep a_laid a_far f_sight a_runs f_choir f_voices a_rest a_wins f_seed a_other a_kept H → va_S (mA q) s.heap H locs → W p l e rm_m_begin s m args below meth c H locs 0 0 (MQ below (zQv (S := (Nat → Int32) × (Nat → Int32) × (Nat → Int32) × (Nat → Int32) × (Int32) × (Int32) × (Int32)) (fun u => post u.1 u.2.1 u.2.2.1 u.2.2.2.1 u.2.2.2.2.1 u.2.2.2.2.2.1 u.2.2.2.2.2.2) (fun u H => mW E q f_code a_tape a_size a_fault a_faultPlace a_many a_lands a_evenings a_sights a_choirs f_reached f_length f_begins f_sort f_value f_word f_wrongAt f_laterFault f_laterPlace a_told a_read f_farHut f_farSinger f_good f_land f_huts f_singers f_evening u.1 u.2.1 u.2.2.1 u.2.2.2.1 a_level u.2.2.2.2.1 u.2.2.2.2.2.1 u.2.2.2.2.2.2 a_run a_covers a_routes a_longest a_steep a_laid a_far f_sight a_runs f_choir f_voices a_rest a_wins f_seed a_other a_kept H) (mA q)) args s 0 0 (mA q)) (F0 m 2 ls [])) ?_ _ _ _ hl hM hS
  intro x1 a_at a_knows a_climbed hw H locs ls hl hM hS
  refine lv_iload_n hx hb dX11_begin_2 rfl (lv_at hl 1 rfl) ?_
  refine lv_bipush (v := (6 : Int32)) hx hb dX11_begin_3 (by decide) ?_
  refine lv_icmp_ge (tgt := 49) hx hb dX11_begin_5 (by decide) (fun hc => ?_) (fun hc => ?_)
  · have hw := hw.1 hc
    refine lv_iconst (v := (0 : Int32)) hx hb dX11_begin_49 (by decide) ?_
    refine lv_istore_n (lv' := [(1, .int (0 : Int32)), (0, .ref q)]) hx hb dX11_begin_50 rfl hl (by decide) rfl (fun ls hl => ?_)
    exact t_m_begin_51 zc hK hM hS  (lv_sub hl [1, 0] rfl) hw
  · have hw := hw.2 hc
    refine lv_aload_n hx hb dX11_begin_8 rfl (lv_at hl 0 rfl) ?_
    refine mg_11_44_0 zc hK hM dX11_begin_9 ?_
    refine lv_iload_n hx hb dX11_begin_12 rfl (lv_at hl 1 rfl) ?_
    refine lv_aload_n hx hb dX11_begin_13 rfl (lv_at hl 0 rfl) ?_
    refine lv_bipush (v := (25 : Int32)) hx hb dX11_begin_14 (by decide) ?_
    refine lv_iload_n hx hb dX11_begin_16 rfl (lv_at hl 1 rfl) ?_
    refine lv_iadd hx hb dX11_begin_17 ?_
    refine zV_i [.int ((25 : Int32) + x1)] [.int x1, .ref (q + 12)] zc ky_X11_of kz_X11_of km_11_303 (c_m_of l hw) (mPreV0 hK hM) rfl rfl hl.1 (Nat.le_of_ble_eq_true rfl) ⟨rfl, rfl⟩ ⟨Nat.le_of_ble_eq_true rfl, Nat.le_of_ble_eq_true rfl⟩ ⟨(Nat.zero_le _), (Nat.zero_le _)⟩ dX11_begin_18 (fun r_1 hw => ?_)
    refine mst_12 zc hK hM hS hw.1 dX11_begin_21 (fun a_at_1 H locs ea_at_1 hM hS => ?_)
    have hw := hw.2 a_at_1 ea_at_1
    refine lv_aload_n hx hb dX11_begin_22 rfl (lv_at hl 0 rfl) ?_
    refine mg_11_47_0 zc hK hM dX11_begin_23 ?_
    refine lv_iload_n hx hb dX11_begin_26 rfl (lv_at hl 1 rfl) ?_
    refine lv_aload_n hx hb dX11_begin_27 rfl (lv_at hl 0 rfl) ?_
    refine lv_bipush (v := (37 : Int32)) hx hb dX11_begin_28 (by decide) ?_
    refine lv_iload_n hx hb dX11_begin_30 rfl (lv_at hl 1 rfl) ?_
    refine lv_iadd hx hb dX11_begin_31 ?_
    refine zV_i [.int ((37 : Int32) + x1)] [.int x1, .ref (q + 13)] zc ky_X11_of kz_X11_of km_11_303 (c_m_of l hw) (mPreV0 hK hM) rfl rfl hl.1 (Nat.le_of_ble_eq_true rfl) ⟨rfl, rfl⟩ ⟨Nat.le_of_ble_eq_true rfl, Nat.le_of_ble_eq_true rfl⟩ ⟨(Nat.zero_le _), (Nat.zero_le _)⟩ dX11_begin_32 (fun r_2 hw => ?_)
    refine mst_13 zc hK hM hS hw.1 dX11_begin_35 (fun a_knows_1 H locs ea_knows_1 hM hS => ?_)
    have hw := hw.2 a_knows_1 ea_knows_1
    refine lv_aload_n hx hb dX11_begin_36 rfl (lv_at hl 0 rfl) ?_
    refine mg_11_50_0 zc hK hM dX11_begin_37 ?_
    refine lv_iload_n hx hb dX11_begin_40 rfl (lv_at hl 1 rfl) ?_
    refine lv_iconst (v := (0 : Int32)) hx hb dX11_begin_41 (by decide) ?_
    refine mst_14 zc hK hM hS hw.1 dX11_begin_42 (fun a_climbed_1 H locs ea_climbed_1 hM hS => ?_)
    have hw := hw.2 a_climbed_1 ea_climbed_1
    obtain ⟨v_1, ev_1⟩ : ∃ y : Int32, y = x1 + (1 : Int32) := ⟨_, rfl⟩
    have hw := hw v_1 ev_1
    refine lv_iinc (v := v_1) (k := 1) (lv' := [(1, .int v_1), (0, .ref q)]) hx hb dX11_begin_43 hl rfl (by rw [ev_1]; rfl) (by decide) rfl (fun ls hl => ?_)
    refine lv_goto (tgt := 2) hx hb dX11_begin_46 (by decide) ?_
    exact hw _ _ _ (lv_sub hl [1, 0] rfl) hM hS
set_option maxRecDepth 20000 in
theorem t_m_begin_0 {p : Program} {l : Launch} {e : Env} {s : State} {m : MethodId} {args : Array Value} {below : List Frame} {meth : Method} {c : Code} {E : zE} {q : Nat} {f_code : Int32} {a_tape : Nat → Int32} {a_size : Nat → Int32} {a_fault : Nat → Int32} {a_faultPlace : Nat → Int32} {a_many : Nat → Int32} {a_lands : Nat → Int32} {a_evenings : Nat → Int32} {a_sights : Nat → Int32} {a_choirs : Nat → Int32} {f_reached : Int32} {f_length : Int32} {f_begins : Int32} {f_sort : Int32} {f_value : Int32} {f_word : Int64} {f_wrongAt : Int32} {f_laterFault : Int32} {f_laterPlace : Int32} {a_told : Nat → Int32} {a_read : Nat → Int32} {f_farHut : Int32} {f_farSinger : Int32} {f_good : Int32} {f_land : Int32} {f_huts : Int32} {f_singers : Int32} {f_evening : Int32} {a_at : Nat → Int32} {a_knows : Nat → Int32} {a_climbed : Nat → Int32} {a_snow : Nat → Int32} {a_level : Nat → Int32} {f_begun : Int32} {f_minute : Int32} {f_avalanches : Int32} {a_run : Nat → Int32} {a_covers : Nat → Int32} {a_routes : Nat → Int32} {a_longest : Nat → Int32} {a_steep : Nat → Int32} {a_laid : Nat → Int32} {a_far : Nat → Int32} {f_sight : Int32} {a_runs : Nat → Int32} {f_choir : Int32} {f_voices : Int32} {a_rest : Nat → Int64} {a_wins : Nat → Int32} {f_seed : Int32} {a_other : Nat → Int32} {a_kept : Nat → Int32} {post : (Nat → Int32) → (Nat → Int32) → (Nat → Int32) → (Nat → Int32) → (Int32) → (Int32) → (Int32) → Prop} {ls : Array Slot} {H : Heap} {locs : List Loc}
    (zc : zC p s m args meth c cX11_begin 2 RX11 none)
    (hK : zK E s)
    (hM : mW E q f_code a_tape a_size a_fault a_faultPlace a_many a_lands a_evenings a_sights a_choirs f_reached f_length f_begins f_sort f_value f_word f_wrongAt f_laterFault f_laterPlace a_told a_read f_farHut f_farSinger f_good f_land f_huts f_singers f_evening a_at a_knows a_climbed a_snow a_level f_begun f_minute f_avalanches a_run a_covers a_routes a_longest a_steep a_laid a_far f_sight a_runs f_choir f_voices a_rest a_wins f_seed a_other a_kept H)
    (hS : va_S (mA q) s.heap H locs)
    (hl : lv_has ls 2 [(0, .ref q)])
    (hw : q_m_begin_0 a_lands f_land a_at a_knows a_climbed a_snow f_begun f_minute f_avalanches post) :
    W p l e rm_m_begin s m args below meth c H locs 0 0 (MQ below (zQv (S := (Nat → Int32) × (Nat → Int32) × (Nat → Int32) × (Nat → Int32) × (Int32) × (Int32) × (Int32)) (fun u => post u.1 u.2.1 u.2.2.1 u.2.2.2.1 u.2.2.2.2.1 u.2.2.2.2.2.1 u.2.2.2.2.2.2) (fun u H => mW E q f_code a_tape a_size a_fault a_faultPlace a_many a_lands a_evenings a_sights a_choirs f_reached f_length f_begins f_sort f_value f_word f_wrongAt f_laterFault f_laterPlace a_told a_read f_farHut f_farSinger f_good f_land f_huts f_singers f_evening u.1 u.2.1 u.2.2.1 u.2.2.2.1 a_level u.2.2.2.2.1 u.2.2.2.2.2.1 u.2.2.2.2.2.2 a_run a_covers a_routes a_longest a_steep a_laid a_far f_sight a_runs f_choir f_voices a_rest a_wins f_seed a_other a_kept H) (mA q)) args s 0 0 (mA q)) (F0 m 0 ls []) := by
  have hx := zc.1
  have hb := zc.2.1
  refine lv_iconst (v := (0 : Int32)) hx hb dX11_begin_0 (by decide) ?_
  refine lv_istore_n (lv' := [(1, .int (0 : Int32)), (0, .ref q)]) hx hb dX11_begin_1 rfl hl (by decide) rfl (fun ls hl => ?_)
  exact t_m_begin_2 zc hK hM hS  (lv_sub hl [1, 0] rfl) hw
set_option maxRecDepth 20000 in
theorem c_m_begin (l : Launch) {E : zE} {q : Nat} {f_code : Int32} {a_tape : Nat → Int32} {a_size : Nat → Int32} {a_fault : Nat → Int32} {a_faultPlace : Nat → Int32} {a_many : Nat → Int32} {a_lands : Nat → Int32} {a_evenings : Nat → Int32} {a_sights : Nat → Int32} {a_choirs : Nat → Int32} {f_reached : Int32} {f_length : Int32} {f_begins : Int32} {f_sort : Int32} {f_value : Int32} {f_word : Int64} {f_wrongAt : Int32} {f_laterFault : Int32} {f_laterPlace : Int32} {a_told : Nat → Int32} {a_read : Nat → Int32} {f_farHut : Int32} {f_farSinger : Int32} {f_good : Int32} {f_land : Int32} {f_huts : Int32} {f_singers : Int32} {f_evening : Int32} {a_at : Nat → Int32} {a_knows : Nat → Int32} {a_climbed : Nat → Int32} {a_snow : Nat → Int32} {a_level : Nat → Int32} {f_begun : Int32} {f_minute : Int32} {f_avalanches : Int32} {a_run : Nat → Int32} {a_covers : Nat → Int32} {a_routes : Nat → Int32} {a_longest : Nat → Int32} {a_steep : Nat → Int32} {a_laid : Nat → Int32} {a_far : Nat → Int32} {f_sight : Int32} {a_runs : Nat → Int32} {f_choir : Int32} {f_voices : Int32} {a_rest : Nat → Int64} {a_wins : Nat → Int32} {f_seed : Int32} {a_other : Nat → Int32} {a_kept : Nat → Int32} {post : (Nat → Int32) → (Nat → Int32) → (Nat → Int32) → (Nat → Int32) → (Int32) → (Int32) → (Int32) → Prop} (hw : q_m_begin_0 a_lands f_land a_at a_knows a_climbed a_snow f_begun f_minute f_avalanches post) : Met l yX11_begin (Cond.code yX11_begin cX11_begin 2 none :: zb) rm_m_begin (va_Pc [.ref q] (fun U => mW E q f_code a_tape a_size a_fault a_faultPlace a_many a_lands a_evenings a_sights a_choirs f_reached f_length f_begins f_sort f_value f_word f_wrongAt f_laterFault f_laterPlace a_told a_read f_farHut f_farSinger f_good f_land f_huts f_singers f_evening a_at a_knows a_climbed a_snow a_level f_begun f_minute f_avalanches a_run a_covers a_routes a_longest a_steep a_laid a_far f_sight a_runs f_choir f_voices a_rest a_wins f_seed a_other a_kept U.heap ∧ zK E U)) (zQv (S := (Nat → Int32) × (Nat → Int32) × (Nat → Int32) × (Nat → Int32) × (Int32) × (Int32) × (Int32)) (fun u => post u.1 u.2.1 u.2.2.1 u.2.2.2.1 u.2.2.2.2.1 u.2.2.2.2.2.1 u.2.2.2.2.2.2) (fun u H => mW E q f_code a_tape a_size a_fault a_faultPlace a_many a_lands a_evenings a_sights a_choirs f_reached f_length f_begins f_sort f_value f_word f_wrongAt f_laterFault f_laterPlace a_told a_read f_farHut f_farSinger f_good f_land f_huts f_singers f_evening u.1 u.2.1 u.2.2.1 u.2.2.2.1 a_level u.2.2.2.2.1 u.2.2.2.2.2.1 u.2.2.2.2.2.2 a_run a_covers a_routes a_longest a_steep a_laid a_far f_sight a_runs f_choir f_voices a_rest a_wins f_seed a_other a_kept H) (mA q)) 0 0 (mA q) := by
  refine Met.ofW (cc := cX11_begin) (maxL := 2) (ret := none) (by decide) rfl ?_
  intro p e s m args below meth c s₁ B hml hv
  obtain ⟨rfl, hM, hK⟩ := hv
  have zc := zc_of B hml
  have hl := lv_entry ([.ref q]) (n := 2) (Nat.le_of_ble_eq_true rfl)
  rw [lg_entry_eq]
  generalize (lg_sl ([.ref q]) ++ List.replicate (2 - (lg_sl ([.ref q])).length) Slot.unset).toArray = ls at hl ⊢
  have hl : lv_has ls 2 [(0, .ref q)] := hl
  exact t_m_begin_0 zc hK hM va_S.rf (lv_sub hl [0] rfl) hw
-- m_high
abbrev rm_m_high : Room := { frames := 2, cells := 0, slots := 0, locals := 42 }
def q_m_high_0 (a_lands : Nat → Int32) (f_land : Int32) (a_at : Nat → Int32) (a_climbed : Nat → Int32) (x1 : Int32) (post : Int32 → Prop) : Prop :=
  vp_in x1 6 ∧ (q_m_height_0 a_lands f_land (a_at (Int32.toNatClampNeg x1)) (fun r_1 => q_m_of_0 a_lands f_land ((31 : Int32) + x1) (fun r_2 => vp_in x1 6 ∧ (vp_in x1 6 ∧ (q_m_of_0 a_lands f_land ((16 : Int32) + (a_at (Int32.toNatClampNeg x1))) (fun r_3 => post ((r_1 - r_2) + ((a_climbed (Int32.toNatClampNeg x1)) * r_3))))))))
set_option maxRecDepth 20000 in
theorem t_m_high_0 {p : Program} {l : Launch} {e : Env} {s : State} {m : MethodId} {args : Array Value} {below : List Frame} {meth : Method} {c : Code} {E : zE} {q : Nat} {f_code : Int32} {a_tape : Nat → Int32} {a_size : Nat → Int32} {a_fault : Nat → Int32} {a_faultPlace : Nat → Int32} {a_many : Nat → Int32} {a_lands : Nat → Int32} {a_evenings : Nat → Int32} {a_sights : Nat → Int32} {a_choirs : Nat → Int32} {f_reached : Int32} {f_length : Int32} {f_begins : Int32} {f_sort : Int32} {f_value : Int32} {f_word : Int64} {f_wrongAt : Int32} {f_laterFault : Int32} {f_laterPlace : Int32} {a_told : Nat → Int32} {a_read : Nat → Int32} {f_farHut : Int32} {f_farSinger : Int32} {f_good : Int32} {f_land : Int32} {f_huts : Int32} {f_singers : Int32} {f_evening : Int32} {a_at : Nat → Int32} {a_knows : Nat → Int32} {a_climbed : Nat → Int32} {a_snow : Nat → Int32} {a_level : Nat → Int32} {f_begun : Int32} {f_minute : Int32} {f_avalanches : Int32} {a_run : Nat → Int32} {a_covers : Nat → Int32} {a_routes : Nat → Int32} {a_longest : Nat → Int32} {a_steep : Nat → Int32} {a_laid : Nat → Int32} {a_far : Nat → Int32} {f_sight : Int32} {a_runs : Nat → Int32} {f_choir : Int32} {f_voices : Int32} {a_rest : Nat → Int64} {a_wins : Nat → Int32} {f_seed : Int32} {a_other : Nat → Int32} {a_kept : Nat → Int32} {post : Int32 → Prop} {x1 : Int32} {ls : Array Slot}
    (zc : zC p s m args meth c cX11_high 2 RX11 (some .int))
    (hK : zK E s)
    (hM : mW E q f_code a_tape a_size a_fault a_faultPlace a_many a_lands a_evenings a_sights a_choirs f_reached f_length f_begins f_sort f_value f_word f_wrongAt f_laterFault f_laterPlace a_told a_read f_farHut f_farSinger f_good f_land f_huts f_singers f_evening a_at a_knows a_climbed a_snow a_level f_begun f_minute f_avalanches a_run a_covers a_routes a_longest a_steep a_laid a_far f_sight a_runs f_choir f_voices a_rest a_wins f_seed a_other a_kept s.heap)
    (hl : lv_has ls 2 [(0, .ref q), (1, .int x1)])
    (hw : q_m_high_0 a_lands f_land a_at a_climbed x1 post) :
    W p l e rm_m_high s m args below meth c s.heap [] 0 0 (MQ below (vp_Si post) args s 0 0 (fun _ => False)) (F0 m 0 ls []) := by
  have hx := zc.1
  have hb := zc.2.1
  refine lv_aload_n hx hb dX11_high_0 rfl (lv_at hl 0 rfl) ?_
  refine lv_aload_n hx hb dX11_high_1 rfl (lv_at hl 0 rfl) ?_
  refine mg_11_44_0 zc hK hM dX11_high_2 ?_
  refine lv_iload_n hx hb dX11_high_5 rfl (lv_at hl 1 rfl) ?_
  refine mld_12 zc hK hM hw.1 dX11_high_6 ?_
  have hw := hw.2
  refine zV_i [.int (a_at (Int32.toNatClampNeg x1))] [] zc ky_X11_height kz_X11_height km_11_322 (c_m_height l hw) (mPreV0 hK hM) rfl rfl hl.1 (Nat.le_of_ble_eq_true rfl) ⟨rfl, rfl⟩ ⟨Nat.le_of_ble_eq_true rfl, Nat.le_of_ble_eq_true rfl⟩ ⟨(Nat.zero_le _), (Nat.zero_le _)⟩ dX11_high_7 (fun r_1 hw => ?_)
  refine lv_aload_n hx hb dX11_high_10 rfl (lv_at hl 0 rfl) ?_
  refine lv_bipush (v := (31 : Int32)) hx hb dX11_high_11 (by decide) ?_
  refine lv_iload_n hx hb dX11_high_13 rfl (lv_at hl 1 rfl) ?_
  refine lv_iadd hx hb dX11_high_14 ?_
  refine zV_i [.int ((31 : Int32) + x1)] [.int r_1] zc ky_X11_of kz_X11_of km_11_303 (c_m_of l hw) (mPreV0 hK hM) rfl rfl hl.1 (Nat.le_of_ble_eq_true rfl) ⟨rfl, rfl⟩ ⟨Nat.le_of_ble_eq_true rfl, Nat.le_of_ble_eq_true rfl⟩ ⟨(Nat.zero_le _), (Nat.zero_le _)⟩ dX11_high_15 (fun r_2 hw => ?_)
  refine lv_isub hx hb dX11_high_18 ?_
  refine lv_aload_n hx hb dX11_high_19 rfl (lv_at hl 0 rfl) ?_
  refine mg_11_50_0 zc hK hM dX11_high_20 ?_
  refine lv_iload_n hx hb dX11_high_23 rfl (lv_at hl 1 rfl) ?_
  refine mld_14 zc hK hM hw.1 dX11_high_24 ?_
  have hw := hw.2
  refine lv_aload_n hx hb dX11_high_25 rfl (lv_at hl 0 rfl) ?_
  refine lv_bipush (v := (16 : Int32)) hx hb dX11_high_26 (by decide) ?_
  refine lv_aload_n hx hb dX11_high_28 rfl (lv_at hl 0 rfl) ?_
  refine mg_11_44_0 zc hK hM dX11_high_29 ?_
  refine lv_iload_n hx hb dX11_high_32 rfl (lv_at hl 1 rfl) ?_
  refine mld_12 zc hK hM hw.1 dX11_high_33 ?_
  have hw := hw.2
  refine lv_iadd hx hb dX11_high_34 ?_
  refine zV_i [.int ((16 : Int32) + (a_at (Int32.toNatClampNeg x1)))] [.int (a_climbed (Int32.toNatClampNeg x1)), .int (r_1 - r_2)] zc ky_X11_of kz_X11_of km_11_303 (c_m_of l hw) (mPreV0 hK hM) rfl rfl hl.1 (Nat.le_of_ble_eq_true rfl) ⟨rfl, rfl⟩ ⟨Nat.le_of_ble_eq_true rfl, Nat.le_of_ble_eq_true rfl⟩ ⟨(Nat.zero_le _), (Nat.zero_le _)⟩ dX11_high_35 (fun r_3 hw => ?_)
  refine lv_imul hx hb dX11_high_38 ?_
  refine lv_iadd hx hb dX11_high_39 ?_
  exact zret_i zc hw dX11_high_40
set_option maxRecDepth 20000 in
theorem c_m_high (l : Launch) {E : zE} {q : Nat} {f_code : Int32} {a_tape : Nat → Int32} {a_size : Nat → Int32} {a_fault : Nat → Int32} {a_faultPlace : Nat → Int32} {a_many : Nat → Int32} {a_lands : Nat → Int32} {a_evenings : Nat → Int32} {a_sights : Nat → Int32} {a_choirs : Nat → Int32} {f_reached : Int32} {f_length : Int32} {f_begins : Int32} {f_sort : Int32} {f_value : Int32} {f_word : Int64} {f_wrongAt : Int32} {f_laterFault : Int32} {f_laterPlace : Int32} {a_told : Nat → Int32} {a_read : Nat → Int32} {f_farHut : Int32} {f_farSinger : Int32} {f_good : Int32} {f_land : Int32} {f_huts : Int32} {f_singers : Int32} {f_evening : Int32} {a_at : Nat → Int32} {a_knows : Nat → Int32} {a_climbed : Nat → Int32} {a_snow : Nat → Int32} {a_level : Nat → Int32} {f_begun : Int32} {f_minute : Int32} {f_avalanches : Int32} {a_run : Nat → Int32} {a_covers : Nat → Int32} {a_routes : Nat → Int32} {a_longest : Nat → Int32} {a_steep : Nat → Int32} {a_laid : Nat → Int32} {a_far : Nat → Int32} {f_sight : Int32} {a_runs : Nat → Int32} {f_choir : Int32} {f_voices : Int32} {a_rest : Nat → Int64} {a_wins : Nat → Int32} {f_seed : Int32} {a_other : Nat → Int32} {a_kept : Nat → Int32} {x1 : Int32} {post : Int32 → Prop} (hw : q_m_high_0 a_lands f_land a_at a_climbed x1 post) : Met l yX11_high (Cond.code yX11_high cX11_high 2 (some .int) :: zb) rm_m_high (va_Pc [.ref q, .int x1] (fun U => mW E q f_code a_tape a_size a_fault a_faultPlace a_many a_lands a_evenings a_sights a_choirs f_reached f_length f_begins f_sort f_value f_word f_wrongAt f_laterFault f_laterPlace a_told a_read f_farHut f_farSinger f_good f_land f_huts f_singers f_evening a_at a_knows a_climbed a_snow a_level f_begun f_minute f_avalanches a_run a_covers a_routes a_longest a_steep a_laid a_far f_sight a_runs f_choir f_voices a_rest a_wins f_seed a_other a_kept U.heap ∧ zK E U)) (vp_Si post) 0 0 (fun _ => False) := by
  refine Met.ofW (cc := cX11_high) (maxL := 2) (ret := (some .int)) (by decide) rfl ?_
  intro p e s m args below meth c s₁ B hml hv
  obtain ⟨rfl, hM, hK⟩ := hv
  have zc := zc_of B hml
  have hl := lv_entry ([.ref q, .int x1]) (n := 2) (Nat.le_of_ble_eq_true rfl)
  rw [lg_entry_eq]
  generalize (lg_sl ([.ref q, .int x1]) ++ List.replicate (2 - (lg_sl ([.ref q, .int x1])).length) Slot.unset).toArray = ls at hl ⊢
  have hl : lv_has ls 2 [(0, .ref q), (1, .int x1)] := hl
  exact t_m_high_0 zc hK hM (lv_sub hl [0, 1] rfl) hw
-- m_isCut
abbrev rm_m_isCut : Room := { frames := 1, cells := 0, slots := 0, locals := 21 }
def q_m_isCut_0 (a_lands : Nat → Int32) (f_land : Int32) (a_snow : Nat → Int32) (x1 : Int32) (post : Int32 → Prop) : Prop :=
  vp_in x1 9 ∧ (q_m_of_0 a_lands f_land (5 : Int32) (fun r_1 => ((a_snow (Int32.toNatClampNeg x1)) < r_1 → (post (0 : Int32))) ∧ (¬ (a_snow (Int32.toNatClampNeg x1)) < r_1 → (post (1 : Int32)))))
set_option maxRecDepth 20000 in
theorem t_m_isCut_0 {p : Program} {l : Launch} {e : Env} {s : State} {m : MethodId} {args : Array Value} {below : List Frame} {meth : Method} {c : Code} {E : zE} {q : Nat} {f_code : Int32} {a_tape : Nat → Int32} {a_size : Nat → Int32} {a_fault : Nat → Int32} {a_faultPlace : Nat → Int32} {a_many : Nat → Int32} {a_lands : Nat → Int32} {a_evenings : Nat → Int32} {a_sights : Nat → Int32} {a_choirs : Nat → Int32} {f_reached : Int32} {f_length : Int32} {f_begins : Int32} {f_sort : Int32} {f_value : Int32} {f_word : Int64} {f_wrongAt : Int32} {f_laterFault : Int32} {f_laterPlace : Int32} {a_told : Nat → Int32} {a_read : Nat → Int32} {f_farHut : Int32} {f_farSinger : Int32} {f_good : Int32} {f_land : Int32} {f_huts : Int32} {f_singers : Int32} {f_evening : Int32} {a_at : Nat → Int32} {a_knows : Nat → Int32} {a_climbed : Nat → Int32} {a_snow : Nat → Int32} {a_level : Nat → Int32} {f_begun : Int32} {f_minute : Int32} {f_avalanches : Int32} {a_run : Nat → Int32} {a_covers : Nat → Int32} {a_routes : Nat → Int32} {a_longest : Nat → Int32} {a_steep : Nat → Int32} {a_laid : Nat → Int32} {a_far : Nat → Int32} {f_sight : Int32} {a_runs : Nat → Int32} {f_choir : Int32} {f_voices : Int32} {a_rest : Nat → Int64} {a_wins : Nat → Int32} {f_seed : Int32} {a_other : Nat → Int32} {a_kept : Nat → Int32} {post : Int32 → Prop} {x1 : Int32} {ls : Array Slot}
    (zc : zC p s m args meth c cX11_isCut 2 RX11 (some .boolean))
    (hK : zK E s)
    (hM : mW E q f_code a_tape a_size a_fault a_faultPlace a_many a_lands a_evenings a_sights a_choirs f_reached f_length f_begins f_sort f_value f_word f_wrongAt f_laterFault f_laterPlace a_told a_read f_farHut f_farSinger f_good f_land f_huts f_singers f_evening a_at a_knows a_climbed a_snow a_level f_begun f_minute f_avalanches a_run a_covers a_routes a_longest a_steep a_laid a_far f_sight a_runs f_choir f_voices a_rest a_wins f_seed a_other a_kept s.heap)
    (hl : lv_has ls 2 [(0, .ref q), (1, .int x1)])
    (hw : q_m_isCut_0 a_lands f_land a_snow x1 post) :
    W p l e rm_m_isCut s m args below meth c s.heap [] 0 0 (MQ below (vp_Si post) args s 0 0 (fun _ => False)) (F0 m 0 ls []) := by
  have hx := zc.1
  have hb := zc.2.1
  refine lv_aload_n hx hb dX11_isCut_0 rfl (lv_at hl 0 rfl) ?_
  refine mg_11_53_0 zc hK hM dX11_isCut_1 ?_
  refine lv_iload_n hx hb dX11_isCut_4 rfl (lv_at hl 1 rfl) ?_
  refine mld_15 zc hK hM hw.1 dX11_isCut_5 ?_
  have hw := hw.2
  refine lv_aload_n hx hb dX11_isCut_6 rfl (lv_at hl 0 rfl) ?_
  refine lv_iconst (v := (5 : Int32)) hx hb dX11_isCut_7 (by decide) ?_
  refine zV_i [.int (5 : Int32)] [.int (a_snow (Int32.toNatClampNeg x1))] zc ky_X11_of kz_X11_of km_11_303 (c_m_of l hw) (mPreV0 hK hM) rfl rfl hl.1 (Nat.le_of_ble_eq_true rfl) ⟨rfl, rfl⟩ ⟨Nat.le_of_ble_eq_true rfl, Nat.le_of_ble_eq_true rfl⟩ ⟨(Nat.zero_le _), (Nat.zero_le _)⟩ dX11_isCut_8 (fun r_1 hw => ?_)
  refine lv_icmp_lt (tgt := 18) hx hb dX11_isCut_11 (by decide) (fun hc => ?_) (fun hc => ?_)
  · have hw := hw.1 hc
    refine lv_iconst (v := (0 : Int32)) hx hb dX11_isCut_18 (by decide) ?_
    exact zret_z zc rfl hw dX11_isCut_19
  · have hw := hw.2 hc
    refine lv_iconst (v := (1 : Int32)) hx hb dX11_isCut_14 (by decide) ?_
    refine lv_goto (tgt := 19) hx hb dX11_isCut_15 (by decide) ?_
    exact zret_z zc rfl hw dX11_isCut_19
set_option maxRecDepth 20000 in
theorem c_m_isCut (l : Launch) {E : zE} {q : Nat} {f_code : Int32} {a_tape : Nat → Int32} {a_size : Nat → Int32} {a_fault : Nat → Int32} {a_faultPlace : Nat → Int32} {a_many : Nat → Int32} {a_lands : Nat → Int32} {a_evenings : Nat → Int32} {a_sights : Nat → Int32} {a_choirs : Nat → Int32} {f_reached : Int32} {f_length : Int32} {f_begins : Int32} {f_sort : Int32} {f_value : Int32} {f_word : Int64} {f_wrongAt : Int32} {f_laterFault : Int32} {f_laterPlace : Int32} {a_told : Nat → Int32} {a_read : Nat → Int32} {f_farHut : Int32} {f_farSinger : Int32} {f_good : Int32} {f_land : Int32} {f_huts : Int32} {f_singers : Int32} {f_evening : Int32} {a_at : Nat → Int32} {a_knows : Nat → Int32} {a_climbed : Nat → Int32} {a_snow : Nat → Int32} {a_level : Nat → Int32} {f_begun : Int32} {f_minute : Int32} {f_avalanches : Int32} {a_run : Nat → Int32} {a_covers : Nat → Int32} {a_routes : Nat → Int32} {a_longest : Nat → Int32} {a_steep : Nat → Int32} {a_laid : Nat → Int32} {a_far : Nat → Int32} {f_sight : Int32} {a_runs : Nat → Int32} {f_choir : Int32} {f_voices : Int32} {a_rest : Nat → Int64} {a_wins : Nat → Int32} {f_seed : Int32} {a_other : Nat → Int32} {a_kept : Nat → Int32} {x1 : Int32} {post : Int32 → Prop} (hw : q_m_isCut_0 a_lands f_land a_snow x1 post) : Met l yX11_isCut (Cond.code yX11_isCut cX11_isCut 2 (some .boolean) :: zb) rm_m_isCut (va_Pc [.ref q, .int x1] (fun U => mW E q f_code a_tape a_size a_fault a_faultPlace a_many a_lands a_evenings a_sights a_choirs f_reached f_length f_begins f_sort f_value f_word f_wrongAt f_laterFault f_laterPlace a_told a_read f_farHut f_farSinger f_good f_land f_huts f_singers f_evening a_at a_knows a_climbed a_snow a_level f_begun f_minute f_avalanches a_run a_covers a_routes a_longest a_steep a_laid a_far f_sight a_runs f_choir f_voices a_rest a_wins f_seed a_other a_kept U.heap ∧ zK E U)) (vp_Si post) 0 0 (fun _ => False) := by
  refine Met.ofW (cc := cX11_isCut) (maxL := 2) (ret := (some .boolean)) (by decide) rfl ?_
  intro p e s m args below meth c s₁ B hml hv
  obtain ⟨rfl, hM, hK⟩ := hv
  have zc := zc_of B hml
  have hl := lv_entry ([.ref q, .int x1]) (n := 2) (Nat.le_of_ble_eq_true rfl)
  rw [lg_entry_eq]
  generalize (lg_sl ([.ref q, .int x1]) ++ List.replicate (2 - (lg_sl ([.ref q, .int x1])).length) Slot.unset).toArray = ls at hl ⊢
  have hl : lv_has ls 2 [(0, .ref q), (1, .int x1)] := hl
  exact t_m_isCut_0 zc hK hM (lv_sub hl [0, 1] rfl) hw
-- m_hearing
abbrev rm_m_hearing : Room := { frames := 1, cells := 0, slots := 0, locals := 21 }
def q_m_hearing_48 (P6 : Int32 → Int32 → Prop) (a_lands : Nat → Int32) (f_land : Int32) (x1 : Int32) (x3 : Int32) (y0 : Int32) (y1 : Int32) (post : Int32 → Prop) : Prop :=
  ∀ v_1 : Int32, v_1 = (y0 ||| y1) → (∀ v_2 : Int32, v_2 = x3 + (1 : Int32) → (P6 v_1 v_2))
def q_m_hearing_6 (a_lands : Nat → Int32) (f_land : Int32) (x1 : Int32) (x2 : Int32) (x3 : Int32) (post : Int32 → Prop) : Prop :=
  ∀ P6 : Int32 → Int32 → Prop, (∀ (x2 : Int32) (x3 : Int32), (q_m_of_0 a_lands f_land (4 : Int32) (fun r_1 => (r_1 ≤ x3 → (q_m_of_0 a_lands f_land (3 : Int32) (fun r_2 => post (x2 &&& (r_2 ^^^ (-1 : Int32)))))) ∧ (¬ r_1 ≤ x3 → (q_m_of_0 a_lands f_land ((43 : Int32) + ((2 : Int32) * x3)) (fun r_3 => (¬ r_3 = x1 → (q_m_hearing_48 P6 a_lands f_land x1 x3 x2 (0 : Int32) post)) ∧ (r_3 = x1 → (q_m_of_0 a_lands f_land (((43 : Int32) + ((2 : Int32) * x3)) + (1 : Int32)) (fun r_4 => q_m_hearing_48 P6 a_lands f_land x1 x3 x2 ((1 : Int32) <<< (r_4 &&& 31)) post)))))))) → P6 x2 x3) → P6 x2 x3
def q_m_hearing_0 (a_lands : Nat → Int32) (f_land : Int32) (x1 : Int32) (post : Int32 → Prop) : Prop :=
  ∀ v_1 : Int32, v_1 = ((1 : Int32) <<< (x1 &&& 31)) → (q_m_hearing_6 a_lands f_land x1 v_1 (0 : Int32) post)
set_option maxRecDepth 20000 in
theorem t_m_hearing_48 {p : Program} {l : Launch} {e : Env} {s : State} {m : MethodId} {args : Array Value} {below : List Frame} {meth : Method} {c : Code} {E : zE} {q : Nat} {f_code : Int32} {a_tape : Nat → Int32} {a_size : Nat → Int32} {a_fault : Nat → Int32} {a_faultPlace : Nat → Int32} {a_many : Nat → Int32} {a_lands : Nat → Int32} {a_evenings : Nat → Int32} {a_sights : Nat → Int32} {a_choirs : Nat → Int32} {f_reached : Int32} {f_length : Int32} {f_begins : Int32} {f_sort : Int32} {f_value : Int32} {f_word : Int64} {f_wrongAt : Int32} {f_laterFault : Int32} {f_laterPlace : Int32} {a_told : Nat → Int32} {a_read : Nat → Int32} {f_farHut : Int32} {f_farSinger : Int32} {f_good : Int32} {f_land : Int32} {f_huts : Int32} {f_singers : Int32} {f_evening : Int32} {a_at : Nat → Int32} {a_knows : Nat → Int32} {a_climbed : Nat → Int32} {a_snow : Nat → Int32} {a_level : Nat → Int32} {f_begun : Int32} {f_minute : Int32} {f_avalanches : Int32} {a_run : Nat → Int32} {a_covers : Nat → Int32} {a_routes : Nat → Int32} {a_longest : Nat → Int32} {a_steep : Nat → Int32} {a_laid : Nat → Int32} {a_far : Nat → Int32} {f_sight : Int32} {a_runs : Nat → Int32} {f_choir : Int32} {f_voices : Int32} {a_rest : Nat → Int64} {a_wins : Nat → Int32} {f_seed : Int32} {a_other : Nat → Int32} {a_kept : Nat → Int32} {P6 : Int32 → Int32 → Prop} {post : Int32 → Prop} {x1 : Int32} {x3 : Int32} {y0 : Int32} {y1 : Int32} {ls : Array Slot}
    (zc : zC p s m args meth c cX11_hearing 4 RX11 (some .int))
    (hK : zK E s)
    (hM : mW E q f_code a_tape a_size a_fault a_faultPlace a_many a_lands a_evenings a_sights a_choirs f_reached f_length f_begins f_sort f_value f_word f_wrongAt f_laterFault f_laterPlace a_told a_read f_farHut f_farSinger f_good f_land f_huts f_singers f_evening a_at a_knows a_climbed a_snow a_level f_begun f_minute f_avalanches a_run a_covers a_routes a_longest a_steep a_laid a_far f_sight a_runs f_choir f_voices a_rest a_wins f_seed a_other a_kept s.heap)
    (hP6 : ∀ (x2 : Int32) (x3 : Int32) (ls : Array Slot), P6 x2 x3 → lv_has ls 4 [(0, .ref q), (1, .int x1), (2, .int x2), (3, .int x3)] → W p l e rm_m_hearing s m args below meth c s.heap [] 0 0 (MQ below (vp_Si post) args s 0 0 (fun _ => False)) (F0 m 6 ls []))
    (hl : lv_has ls 4 [(0, .ref q), (1, .int x1), (3, .int x3)])
    (hw : q_m_hearing_48 P6 a_lands f_land x1 x3 y0 y1 post) :
    W p l e rm_m_hearing s m args below meth c s.heap [] 0 0 (MQ below (vp_Si post) args s 0 0 (fun _ => False)) (F0 m 48 ls [.int y1, .int y0]) := by
  have hx := zc.1
  have hb := zc.2.1
  refine lv_ior hx hb dX11_hearing_48 ?_
  refine lv_topi (fun v_1 ev_1 => ?_)
  have hw := hw v_1 ev_1
  refine lv_istore_n (lv' := [(2, .int v_1), (0, .ref q), (1, .int x1), (3, .int x3)]) hx hb dX11_hearing_49 rfl hl (by decide) rfl (fun ls hl => ?_)
  obtain ⟨v_2, ev_2⟩ : ∃ y : Int32, y = x3 + (1 : Int32) := ⟨_, rfl⟩
  have hw := hw v_2 ev_2
  refine lv_iinc (v := v_2) (k := 3) (lv' := [(3, .int v_2), (2, .int v_1), (0, .ref q), (1, .int x1)]) hx hb dX11_hearing_50 hl rfl (by rw [ev_2]; rfl) (by decide) rfl (fun ls hl => ?_)
  refine lv_goto (tgt := 6) hx hb dX11_hearing_53 (by decide) ?_
  exact hP6 _ _ _ hw (lv_sub hl [2, 3, 1, 0] rfl)
set_option maxRecDepth 20000 in
theorem t_m_hearing_6 {p : Program} {l : Launch} {e : Env} {s : State} {m : MethodId} {args : Array Value} {below : List Frame} {meth : Method} {c : Code} {E : zE} {q : Nat} {f_code : Int32} {a_tape : Nat → Int32} {a_size : Nat → Int32} {a_fault : Nat → Int32} {a_faultPlace : Nat → Int32} {a_many : Nat → Int32} {a_lands : Nat → Int32} {a_evenings : Nat → Int32} {a_sights : Nat → Int32} {a_choirs : Nat → Int32} {f_reached : Int32} {f_length : Int32} {f_begins : Int32} {f_sort : Int32} {f_value : Int32} {f_word : Int64} {f_wrongAt : Int32} {f_laterFault : Int32} {f_laterPlace : Int32} {a_told : Nat → Int32} {a_read : Nat → Int32} {f_farHut : Int32} {f_farSinger : Int32} {f_good : Int32} {f_land : Int32} {f_huts : Int32} {f_singers : Int32} {f_evening : Int32} {a_at : Nat → Int32} {a_knows : Nat → Int32} {a_climbed : Nat → Int32} {a_snow : Nat → Int32} {a_level : Nat → Int32} {f_begun : Int32} {f_minute : Int32} {f_avalanches : Int32} {a_run : Nat → Int32} {a_covers : Nat → Int32} {a_routes : Nat → Int32} {a_longest : Nat → Int32} {a_steep : Nat → Int32} {a_laid : Nat → Int32} {a_far : Nat → Int32} {f_sight : Int32} {a_runs : Nat → Int32} {f_choir : Int32} {f_voices : Int32} {a_rest : Nat → Int64} {a_wins : Nat → Int32} {f_seed : Int32} {a_other : Nat → Int32} {a_kept : Nat → Int32} {post : Int32 → Prop} {x1 : Int32} {x2 : Int32} {x3 : Int32} {ls : Array Slot}
    (zc : zC p s m args meth c cX11_hearing 4 RX11 (some .int))
    (hK : zK E s)
    (hM : mW E q f_code a_tape a_size a_fault a_faultPlace a_many a_lands a_evenings a_sights a_choirs f_reached f_length f_begins f_sort f_value f_word f_wrongAt f_laterFault f_laterPlace a_told a_read f_farHut f_farSinger f_good f_land f_huts f_singers f_evening a_at a_knows a_climbed a_snow a_level f_begun f_minute f_avalanches a_run a_covers a_routes a_longest a_steep a_laid a_far f_sight a_runs f_choir f_voices a_rest a_wins f_seed a_other a_kept s.heap)
    (hl : lv_has ls 4 [(0, .ref q), (1, .int x1), (2, .int x2), (3, .int x3)])
    (hw : q_m_hearing_6 a_lands f_land x1 x2 x3 post) :
    W p l e rm_m_hearing s m args below meth c s.heap [] 0 0 (MQ below (vp_Si post) args s 0 0 (fun _ => False)) (F0 m 6 ls []) := by
  have hx := zc.1
  have hb := zc.2.1
  refine hw (fun x2 x3 => ∀ (ls : Array Slot), lv_has ls 4 [(0, .ref q), (1, .int x1), (2, .int x2), (3, .int x3)] → W p l e rm_m_hearing s m args below meth c s.heap [] 0 0 (MQ below (vp_Si post) args s 0 0 (fun _ => False)) (F0 m 6 ls [])) ?_ _ hl
  intro x2 x3 hw ls hl
  refine lv_iload_n hx hb dX11_hearing_6 rfl (lv_at hl 3 rfl) ?_
  refine lv_aload_n hx hb dX11_hearing_7 rfl (lv_at hl 0 rfl) ?_
  refine lv_iconst (v := (4 : Int32)) hx hb dX11_hearing_8 (by decide) ?_
  refine zV_i [.int (4 : Int32)] [.int x3] zc ky_X11_of kz_X11_of km_11_303 (c_m_of l hw) (mPreV0 hK hM) rfl rfl hl.1 (Nat.le_of_ble_eq_true rfl) ⟨rfl, rfl⟩ ⟨Nat.le_of_ble_eq_true rfl, Nat.le_of_ble_eq_true rfl⟩ ⟨(Nat.zero_le _), (Nat.zero_le _)⟩ dX11_hearing_9 (fun r_1 hw => ?_)
  refine lv_icmp_ge (tgt := 56) hx hb dX11_hearing_12 (by decide) (fun hc => ?_) (fun hc => ?_)
  · have hw := hw.1 hc
    refine lv_iload_n hx hb dX11_hearing_56 rfl (lv_at hl 2 rfl) ?_
    refine lv_aload_n hx hb dX11_hearing_57 rfl (lv_at hl 0 rfl) ?_
    refine lv_iconst (v := (3 : Int32)) hx hb dX11_hearing_58 (by decide) ?_
    refine zV_i [.int (3 : Int32)] [.int x2] zc ky_X11_of kz_X11_of km_11_303 (c_m_of l hw) (mPreV0 hK hM) rfl rfl hl.1 (Nat.le_of_ble_eq_true rfl) ⟨rfl, rfl⟩ ⟨Nat.le_of_ble_eq_true rfl, Nat.le_of_ble_eq_true rfl⟩ ⟨(Nat.zero_le _), (Nat.zero_le _)⟩ dX11_hearing_59 (fun r_2 hw => ?_)
    refine lv_iconst (v := (-1 : Int32)) hx hb dX11_hearing_62 (by decide) ?_
    refine lv_ixor hx hb dX11_hearing_63 ?_
    refine lv_iand hx hb dX11_hearing_64 ?_
    exact zret_i zc hw dX11_hearing_65
  · have hw := hw.2 hc
    refine lv_iload_n hx hb dX11_hearing_15 rfl (lv_at hl 2 rfl) ?_
    refine lv_aload_n hx hb dX11_hearing_16 rfl (lv_at hl 0 rfl) ?_
    refine lv_bipush (v := (43 : Int32)) hx hb dX11_hearing_17 (by decide) ?_
    refine lv_iconst (v := (2 : Int32)) hx hb dX11_hearing_19 (by decide) ?_
    refine lv_iload_n hx hb dX11_hearing_20 rfl (lv_at hl 3 rfl) ?_
    refine lv_imul hx hb dX11_hearing_21 ?_
    refine lv_iadd hx hb dX11_hearing_22 ?_
    refine zV_i [.int ((43 : Int32) + ((2 : Int32) * x3))] [.int x2] zc ky_X11_of kz_X11_of km_11_303 (c_m_of l hw) (mPreV0 hK hM) rfl rfl hl.1 (Nat.le_of_ble_eq_true rfl) ⟨rfl, rfl⟩ ⟨Nat.le_of_ble_eq_true rfl, Nat.le_of_ble_eq_true rfl⟩ ⟨(Nat.zero_le _), (Nat.zero_le _)⟩ dX11_hearing_23 (fun r_3 hw => ?_)
    refine lv_iload_n hx hb dX11_hearing_26 rfl (lv_at hl 1 rfl) ?_
    refine lv_icmp_ne (tgt := 47) hx hb dX11_hearing_27 (by decide) (fun hc => ?_) (fun hc => ?_)
    · have hw := hw.1 hc
      refine lv_iconst (v := (0 : Int32)) hx hb dX11_hearing_47 (by decide) ?_
      exact t_m_hearing_48 zc hK hM (fun _ _ ls h hl => h ls hl) (lv_sub hl [0, 1, 3] rfl) hw
    · have hw := hw.2 hc
      refine lv_iconst (v := (1 : Int32)) hx hb dX11_hearing_30 (by decide) ?_
      refine lv_aload_n hx hb dX11_hearing_31 rfl (lv_at hl 0 rfl) ?_
      refine lv_bipush (v := (43 : Int32)) hx hb dX11_hearing_32 (by decide) ?_
      refine lv_iconst (v := (2 : Int32)) hx hb dX11_hearing_34 (by decide) ?_
      refine lv_iload_n hx hb dX11_hearing_35 rfl (lv_at hl 3 rfl) ?_
      refine lv_imul hx hb dX11_hearing_36 ?_
      refine lv_iadd hx hb dX11_hearing_37 ?_
      refine lv_iconst (v := (1 : Int32)) hx hb dX11_hearing_38 (by decide) ?_
      refine lv_iadd hx hb dX11_hearing_39 ?_
      refine zV_i [.int (((43 : Int32) + ((2 : Int32) * x3)) + (1 : Int32))] [.int (1 : Int32), .int x2] zc ky_X11_of kz_X11_of km_11_303 (c_m_of l hw) (mPreV0 hK hM) rfl rfl hl.1 (Nat.le_of_ble_eq_true rfl) ⟨rfl, rfl⟩ ⟨Nat.le_of_ble_eq_true rfl, Nat.le_of_ble_eq_true rfl⟩ ⟨(Nat.zero_le _), (Nat.zero_le _)⟩ dX11_hearing_40 (fun r_4 hw => ?_)
      refine lv_ishl hx hb dX11_hearing_43 ?_
      refine lv_goto (tgt := 48) hx hb dX11_hearing_44 (by decide) ?_
      exact t_m_hearing_48 zc hK hM (fun _ _ ls h hl => h ls hl) (lv_sub hl [0, 1, 3] rfl) hw
set_option maxRecDepth 20000 in
theorem t_m_hearing_0 {p : Program} {l : Launch} {e : Env} {s : State} {m : MethodId} {args : Array Value} {below : List Frame} {meth : Method} {c : Code} {E : zE} {q : Nat} {f_code : Int32} {a_tape : Nat → Int32} {a_size : Nat → Int32} {a_fault : Nat → Int32} {a_faultPlace : Nat → Int32} {a_many : Nat → Int32} {a_lands : Nat → Int32} {a_evenings : Nat → Int32} {a_sights : Nat → Int32} {a_choirs : Nat → Int32} {f_reached : Int32} {f_length : Int32} {f_begins : Int32} {f_sort : Int32} {f_value : Int32} {f_word : Int64} {f_wrongAt : Int32} {f_laterFault : Int32} {f_laterPlace : Int32} {a_told : Nat → Int32} {a_read : Nat → Int32} {f_farHut : Int32} {f_farSinger : Int32} {f_good : Int32} {f_land : Int32} {f_huts : Int32} {f_singers : Int32} {f_evening : Int32} {a_at : Nat → Int32} {a_knows : Nat → Int32} {a_climbed : Nat → Int32} {a_snow : Nat → Int32} {a_level : Nat → Int32} {f_begun : Int32} {f_minute : Int32} {f_avalanches : Int32} {a_run : Nat → Int32} {a_covers : Nat → Int32} {a_routes : Nat → Int32} {a_longest : Nat → Int32} {a_steep : Nat → Int32} {a_laid : Nat → Int32} {a_far : Nat → Int32} {f_sight : Int32} {a_runs : Nat → Int32} {f_choir : Int32} {f_voices : Int32} {a_rest : Nat → Int64} {a_wins : Nat → Int32} {f_seed : Int32} {a_other : Nat → Int32} {a_kept : Nat → Int32} {post : Int32 → Prop} {x1 : Int32} {ls : Array Slot}
    (zc : zC p s m args meth c cX11_hearing 4 RX11 (some .int))
    (hK : zK E s)
    (hM : mW E q f_code a_tape a_size a_fault a_faultPlace a_many a_lands a_evenings a_sights a_choirs f_reached f_length f_begins f_sort f_value f_word f_wrongAt f_laterFault f_laterPlace a_told a_read f_farHut f_farSinger f_good f_land f_huts f_singers f_evening a_at a_knows a_climbed a_snow a_level f_begun f_minute f_avalanches a_run a_covers a_routes a_longest a_steep a_laid a_far f_sight a_runs f_choir f_voices a_rest a_wins f_seed a_other a_kept s.heap)
    (hl : lv_has ls 4 [(0, .ref q), (1, .int x1)])
    (hw : q_m_hearing_0 a_lands f_land x1 post) :
    W p l e rm_m_hearing s m args below meth c s.heap [] 0 0 (MQ below (vp_Si post) args s 0 0 (fun _ => False)) (F0 m 0 ls []) := by
  have hx := zc.1
  have hb := zc.2.1
  refine lv_iconst (v := (1 : Int32)) hx hb dX11_hearing_0 (by decide) ?_
  refine lv_iload_n hx hb dX11_hearing_1 rfl (lv_at hl 1 rfl) ?_
  refine lv_ishl hx hb dX11_hearing_2 ?_
  refine lv_topi (fun v_1 ev_1 => ?_)
  have hw := hw v_1 ev_1
  refine lv_istore_n (lv' := [(2, .int v_1), (0, .ref q), (1, .int x1)]) hx hb dX11_hearing_3 rfl hl (by decide) rfl (fun ls hl => ?_)
  refine lv_iconst (v := (0 : Int32)) hx hb dX11_hearing_4 (by decide) ?_
  refine lv_istore_n (lv' := [(3, .int (0 : Int32)), (2, .int v_1), (0, .ref q), (1, .int x1)]) hx hb dX11_hearing_5 rfl hl (by decide) rfl (fun ls hl => ?_)
  exact t_m_hearing_6 zc hK hM  (lv_sub hl [2, 3, 1, 0] rfl) hw
set_option maxRecDepth 20000 in
theorem c_m_hearing (l : Launch) {E : zE} {q : Nat} {f_code : Int32} {a_tape : Nat → Int32} {a_size : Nat → Int32} {a_fault : Nat → Int32} {a_faultPlace : Nat → Int32} {a_many : Nat → Int32} {a_lands : Nat → Int32} {a_evenings : Nat → Int32} {a_sights : Nat → Int32} {a_choirs : Nat → Int32} {f_reached : Int32} {f_length : Int32} {f_begins : Int32} {f_sort : Int32} {f_value : Int32} {f_word : Int64} {f_wrongAt : Int32} {f_laterFault : Int32} {f_laterPlace : Int32} {a_told : Nat → Int32} {a_read : Nat → Int32} {f_farHut : Int32} {f_farSinger : Int32} {f_good : Int32} {f_land : Int32} {f_huts : Int32} {f_singers : Int32} {f_evening : Int32} {a_at : Nat → Int32} {a_knows : Nat → Int32} {a_climbed : Nat → Int32} {a_snow : Nat → Int32} {a_level : Nat → Int32} {f_begun : Int32} {f_minute : Int32} {f_avalanches : Int32} {a_run : Nat → Int32} {a_covers : Nat → Int32} {a_routes : Nat → Int32} {a_longest : Nat → Int32} {a_steep : Nat → Int32} {a_laid : Nat → Int32} {a_far : Nat → Int32} {f_sight : Int32} {a_runs : Nat → Int32} {f_choir : Int32} {f_voices : Int32} {a_rest : Nat → Int64} {a_wins : Nat → Int32} {f_seed : Int32} {a_other : Nat → Int32} {a_kept : Nat → Int32} {x1 : Int32} {post : Int32 → Prop} (hw : q_m_hearing_0 a_lands f_land x1 post) : Met l yX11_hearing (Cond.code yX11_hearing cX11_hearing 4 (some .int) :: zb) rm_m_hearing (va_Pc [.ref q, .int x1] (fun U => mW E q f_code a_tape a_size a_fault a_faultPlace a_many a_lands a_evenings a_sights a_choirs f_reached f_length f_begins f_sort f_value f_word f_wrongAt f_laterFault f_laterPlace a_told a_read f_farHut f_farSinger f_good f_land f_huts f_singers f_evening a_at a_knows a_climbed a_snow a_level f_begun f_minute f_avalanches a_run a_covers a_routes a_longest a_steep a_laid a_far f_sight a_runs f_choir f_voices a_rest a_wins f_seed a_other a_kept U.heap ∧ zK E U)) (vp_Si post) 0 0 (fun _ => False) := by
  refine Met.ofW (cc := cX11_hearing) (maxL := 4) (ret := (some .int)) (by decide) rfl ?_
  intro p e s m args below meth c s₁ B hml hv
  obtain ⟨rfl, hM, hK⟩ := hv
  have zc := zc_of B hml
  have hl := lv_entry ([.ref q, .int x1]) (n := 4) (Nat.le_of_ble_eq_true rfl)
  rw [lg_entry_eq]
  generalize (lg_sl ([.ref q, .int x1]) ++ List.replicate (4 - (lg_sl ([.ref q, .int x1])).length) Slot.unset).toArray = ls at hl ⊢
  have hl : lv_has ls 4 [(0, .ref q), (1, .int x1)] := hl
  exact t_m_hearing_0 zc hK hM (lv_sub hl [0, 1] rfl) hw
-- m_sounds
abbrev rm_m_sounds : Room := { frames := 3, cells := 0, slots := 0, locals := 63 }
def q_m_sounds_75 (P37 : Int32 → (Nat → Int32) → Prop) (a_lands : Nat → Int32) (f_land : Int32) (f_singers : Int32) (a_at : Nat → Int32) (a_knows : Nat → Int32) (a_climbed : Nat → Int32) (a_level : Nat → Int32) (f_begun : Int32) (x2 : Int32) (x3 : Int32) (x4 : Int32) (y0 : Int32) (y1 : Int32) (y2 : Int32) (post : (Nat → Int32) → (Nat → Int32) → (Int32) → Prop) : Prop :=
  ∀ v_1 : Int32, v_1 = (y1 ||| y2) → (vp_in y0 6 ∧ (∀ a_knows_1 : Nat → Int32, a_knows_1 = upd a_knows (Int32.toNatClampNeg y0) v_1 → (∀ v_2 : Int32, v_2 = x4 + (1 : Int32) → (P37 v_2 a_knows_1))))
def q_m_sounds_37 (a_lands : Nat → Int32) (f_land : Int32) (f_singers : Int32) (a_at : Nat → Int32) (a_knows : Nat → Int32) (a_climbed : Nat → Int32) (a_level : Nat → Int32) (f_begun : Int32) (x2 : Int32) (x3 : Int32) (x4 : Int32) (post : (Nat → Int32) → (Nat → Int32) → (Int32) → Prop) : Prop :=
  ∀ P37 : Int32 → (Nat → Int32) → Prop, (∀ (x4 : Int32) (a_knows : Nat → Int32), ((f_singers ≤ x4 → (post a_knows a_level f_begun)) ∧ (¬ f_singers ≤ x4 → (vp_in x4 6 ∧ (vp_in x4 6 ∧ (q_m_has_0 x3 (a_at (Int32.toNatClampNeg x4)) (fun r_1 => (r_1 = 0 → (q_m_sounds_75 P37 a_lands f_land f_singers a_at a_knows a_climbed a_level f_begun x2 x3 x4 x4 (a_knows (Int32.toNatClampNeg x4)) (0 : Int32) post)) ∧ (¬ r_1 = 0 → (q_m_sounds_75 P37 a_lands f_land f_singers a_at a_knows a_climbed a_level f_begun x2 x3 x4 x4 (a_knows (Int32.toNatClampNeg x4)) ((1 : Int32) <<< (x2 &&& 31)) post)))))))) → P37 x4 a_knows) → P37 x4 a_knows
def q_m_sounds_0 (a_lands : Nat → Int32) (f_land : Int32) (f_singers : Int32) (a_at : Nat → Int32) (a_knows : Nat → Int32) (a_climbed : Nat → Int32) (a_level : Nat → Int32) (f_begun : Int32) (x1 : Int32) (x2 : Int32) (post : (Nat → Int32) → (Nat → Int32) → (Int32) → Prop) : Prop :=
  vp_in x1 6 ∧ (q_m_hearing_0 a_lands f_land (a_at (Int32.toNatClampNeg x1)) (fun r_1 => q_m_high_0 a_lands f_land a_at a_climbed x1 (fun r_2 => vp_in x2 5 ∧ (∀ a_level_1 : Nat → Int32, a_level_1 = upd a_level (Int32.toNatClampNeg x2) r_2 → (∀ v_1 : Int32, v_1 = (f_begun ||| ((1 : Int32) <<< (x2 &&& 31))) → (q_m_sounds_37 a_lands f_land f_singers a_at a_knows a_climbed a_level_1 v_1 x2 r_1 (0 : Int32) post))))))
set_option maxRecDepth 20000 in
theorem t_m_sounds_75 {p : Program} {l : Launch} {e : Env} {s : State} {m : MethodId} {args : Array Value} {below : List Frame} {meth : Method} {c : Code} {E : zE} {q : Nat} {f_code : Int32} {a_tape : Nat → Int32} {a_size : Nat → Int32} {a_fault : Nat → Int32} {a_faultPlace : Nat → Int32} {a_many : Nat → Int32} {a_lands : Nat → Int32} {a_evenings : Nat → Int32} {a_sights : Nat → Int32} {a_choirs : Nat → Int32} {f_reached : Int32} {f_length : Int32} {f_begins : Int32} {f_sort : Int32} {f_value : Int32} {f_word : Int64} {f_wrongAt : Int32} {f_laterFault : Int32} {f_laterPlace : Int32} {a_told : Nat → Int32} {a_read : Nat → Int32} {f_farHut : Int32} {f_farSinger : Int32} {f_good : Int32} {f_land : Int32} {f_huts : Int32} {f_singers : Int32} {f_evening : Int32} {a_at : Nat → Int32} {a_knows : Nat → Int32} {a_climbed : Nat → Int32} {a_snow : Nat → Int32} {a_level : Nat → Int32} {f_begun : Int32} {f_minute : Int32} {f_avalanches : Int32} {a_run : Nat → Int32} {a_covers : Nat → Int32} {a_routes : Nat → Int32} {a_longest : Nat → Int32} {a_steep : Nat → Int32} {a_laid : Nat → Int32} {a_far : Nat → Int32} {f_sight : Int32} {a_runs : Nat → Int32} {f_choir : Int32} {f_voices : Int32} {a_rest : Nat → Int64} {a_wins : Nat → Int32} {f_seed : Int32} {a_other : Nat → Int32} {a_kept : Nat → Int32} {P37 : Int32 → (Nat → Int32) → Prop} {post : (Nat → Int32) → (Nat → Int32) → (Int32) → Prop} {x2 : Int32} {x3 : Int32} {x4 : Int32} {y0 : Int32} {y1 : Int32} {y2 : Int32} {ls : Array Slot} {H : Heap} {locs : List Loc}
    (zc : zC p s m args meth c cX11_sounds 5 RX11 none)
    (hK : zK E s)
    (hM : mW E q f_code a_tape a_size a_fault a_faultPlace a_many a_lands a_evenings a_sights a_choirs f_reached f_length f_begins f_sort f_value f_word f_wrongAt f_laterFault f_laterPlace a_told a_read f_farHut f_farSinger f_good f_land f_huts f_singers f_evening a_at a_knows a_climbed a_snow a_level f_begun f_minute f_avalanches a_run a_covers a_routes a_longest a_steep a_laid a_far f_sight a_runs f_choir f_voices a_rest a_wins f_seed a_other a_kept H)
    (hS : va_S (mA q) s.heap H locs)
    (hP37 : ∀ (x4 : Int32) (a_knows : Nat → Int32) (H : Heap) (locs : List Loc) (ls : Array Slot), P37 x4 a_knows → lv_has ls 5 [(0, .ref q), (2, .int x2), (3, .int x3), (4, .int x4)] → mW E q f_code a_tape a_size a_fault a_faultPlace a_many a_lands a_evenings a_sights a_choirs f_reached f_length f_begins f_sort f_value f_word f_wrongAt f_laterFault f_laterPlace a_told a_read f_farHut f_farSinger f_good f_land f_huts f_singers f_evening a_at a_knows a_climbed a_snow a_level f_begun f_minute f_avalanches a_run a_covers a_routes a_longest a_steep a_laid a_far f_sight a_runs f_choir f_voices a_rest a_wins f_seed a_other a_kept H → va_S (mA q) s.heap H locs → W p l e rm_m_sounds s m args below meth c H locs 0 0 (MQ below (zQv (S := (Nat → Int32) × (Nat → Int32) × (Int32)) (fun u => post u.1 u.2.1 u.2.2) (fun u H => mW E q f_code a_tape a_size a_fault a_faultPlace a_many a_lands a_evenings a_sights a_choirs f_reached f_length f_begins f_sort f_value f_word f_wrongAt f_laterFault f_laterPlace a_told a_read f_farHut f_farSinger f_good f_land f_huts f_singers f_evening a_at u.1 a_climbed a_snow u.2.1 u.2.2 f_minute f_avalanches a_run a_covers a_routes a_longest a_steep a_laid a_far f_sight a_runs f_choir f_voices a_rest a_wins f_seed a_other a_kept H) (mA q)) args s 0 0 (mA q)) (F0 m 37 ls []))
    (hl : lv_has ls 5 [(0, .ref q), (2, .int x2), (3, .int x3), (4, .int x4)])
    (hw : q_m_sounds_75 P37 a_lands f_land f_singers a_at a_knows a_climbed a_level f_begun x2 x3 x4 y0 y1 y2 post) :
    W p l e rm_m_sounds s m args below meth c H locs 0 0 (MQ below (zQv (S := (Nat → Int32) × (Nat → Int32) × (Int32)) (fun u => post u.1 u.2.1 u.2.2) (fun u H => mW E q f_code a_tape a_size a_fault a_faultPlace a_many a_lands a_evenings a_sights a_choirs f_reached f_length f_begins f_sort f_value f_word f_wrongAt f_laterFault f_laterPlace a_told a_read f_farHut f_farSinger f_good f_land f_huts f_singers f_evening a_at u.1 a_climbed a_snow u.2.1 u.2.2 f_minute f_avalanches a_run a_covers a_routes a_longest a_steep a_laid a_far f_sight a_runs f_choir f_voices a_rest a_wins f_seed a_other a_kept H) (mA q)) args s 0 0 (mA q)) (F0 m 75 ls [.int y2, .int y1, .int y0, .ref (q + 13)]) := by
  have hx := zc.1
  have hb := zc.2.1
  refine lv_ior hx hb dX11_sounds_75 ?_
  refine lv_topi (fun v_1 ev_1 => ?_)
  have hw := hw v_1 ev_1
  refine mst_13 zc hK hM hS hw.1 dX11_sounds_76 (fun a_knows_1 H locs ea_knows_1 hM hS => ?_)
  have hw := hw.2 a_knows_1 ea_knows_1
  obtain ⟨v_2, ev_2⟩ : ∃ y : Int32, y = x4 + (1 : Int32) := ⟨_, rfl⟩
  have hw := hw v_2 ev_2
  refine lv_iinc (v := v_2) (k := 3) (lv' := [(4, .int v_2), (0, .ref q), (2, .int x2), (3, .int x3)]) hx hb dX11_sounds_77 hl rfl (by rw [ev_2]; rfl) (by decide) rfl (fun ls hl => ?_)
  refine lv_goto (tgt := 37) hx hb dX11_sounds_80 (by decide) ?_
  exact hP37 _ _ _ _ _ hw (lv_sub hl [1, 2, 3, 0] rfl) hM hS
set_option maxRecDepth 20000 in
theorem t_m_sounds_37 {p : Program} {l : Launch} {e : Env} {s : State} {m : MethodId} {args : Array Value} {below : List Frame} {meth : Method} {c : Code} {E : zE} {q : Nat} {f_code : Int32} {a_tape : Nat → Int32} {a_size : Nat → Int32} {a_fault : Nat → Int32} {a_faultPlace : Nat → Int32} {a_many : Nat → Int32} {a_lands : Nat → Int32} {a_evenings : Nat → Int32} {a_sights : Nat → Int32} {a_choirs : Nat → Int32} {f_reached : Int32} {f_length : Int32} {f_begins : Int32} {f_sort : Int32} {f_value : Int32} {f_word : Int64} {f_wrongAt : Int32} {f_laterFault : Int32} {f_laterPlace : Int32} {a_told : Nat → Int32} {a_read : Nat → Int32} {f_farHut : Int32} {f_farSinger : Int32} {f_good : Int32} {f_land : Int32} {f_huts : Int32} {f_singers : Int32} {f_evening : Int32} {a_at : Nat → Int32} {a_knows : Nat → Int32} {a_climbed : Nat → Int32} {a_snow : Nat → Int32} {a_level : Nat → Int32} {f_begun : Int32} {f_minute : Int32} {f_avalanches : Int32} {a_run : Nat → Int32} {a_covers : Nat → Int32} {a_routes : Nat → Int32} {a_longest : Nat → Int32} {a_steep : Nat → Int32} {a_laid : Nat → Int32} {a_far : Nat → Int32} {f_sight : Int32} {a_runs : Nat → Int32} {f_choir : Int32} {f_voices : Int32} {a_rest : Nat → Int64} {a_wins : Nat → Int32} {f_seed : Int32} {a_other : Nat → Int32} {a_kept : Nat → Int32} {post : (Nat → Int32) → (Nat → Int32) → (Int32) → Prop} {x2 : Int32} {x3 : Int32} {x4 : Int32} {ls : Array Slot} {H : Heap} {locs : List Loc}
    (zc : zC p s m args meth c cX11_sounds 5 RX11 none)
    (hK : zK E s)
    (hM : mW E q f_code a_tape a_size a_fault a_faultPlace a_many a_lands a_evenings a_sights a_choirs f_reached f_length f_begins f_sort f_value f_word f_wrongAt f_laterFault f_laterPlace a_told a_read f_farHut f_farSinger f_good f_land f_huts f_singers f_evening a_at a_knows a_climbed a_snow a_level f_begun f_minute f_avalanches a_run a_covers a_routes a_longest a_steep a_laid a_far f_sight a_runs f_choir f_voices a_rest a_wins f_seed a_other a_kept H)
    (hS : va_S (mA q) s.heap H locs)
    (hl : lv_has ls 5 [(0, .ref q), (2, .int x2), (3, .int x3), (4, .int x4)])
    (hw : q_m_sounds_37 a_lands f_land f_singers a_at a_knows a_climbed a_level f_begun x2 x3 x4 post) :
    W p l e rm_m_sounds s m args below meth c H locs 0 0 (MQ below (zQv (S := (Nat → Int32) × (Nat → Int32) × (Int32)) (fun u => post u.1 u.2.1 u.2.2) (fun u H => mW E q f_code a_tape a_size a_fault a_faultPlace a_many a_lands a_evenings a_sights a_choirs f_reached f_length f_begins f_sort f_value f_word f_wrongAt f_laterFault f_laterPlace a_told a_read f_farHut f_farSinger f_good f_land f_huts f_singers f_evening a_at u.1 a_climbed a_snow u.2.1 u.2.2 f_minute f_avalanches a_run a_covers a_routes a_longest a_steep a_laid a_far f_sight a_runs f_choir f_voices a_rest a_wins f_seed a_other a_kept H) (mA q)) args s 0 0 (mA q)) (F0 m 37 ls []) := by
  have hx := zc.1
  have hb := zc.2.1
  refine hw (fun x4 a_knows => ∀ (H : Heap) (locs : List Loc) (ls : Array Slot), lv_has ls 5 [(0, .ref q), (2, .int x2), (3, .int x3), (4, .int x4)] → mW E q f_code a_tape a_size a_fault a_faultPlace a_many a_lands a_evenings a_sights a_choirs f_reached f_length f_begins f_sort f_value f_word f_wrongAt f_laterFault f_laterPlace a_told a_read f_farHut f_farSinger f_good f_land f_huts f_singers f_evening a_at a_knows a_climbed a_snow a_level f_begun f_minute f_avalanches a_run a_covers a_routes a_longest a_steep a_laid a_far f_sight a_runs f_choir f_voices a_rest a_wins f_seed a_other a_kept H → va_S (mA q) s.heap H locs → W p l e rm_m_sounds s m args below meth c H locs 0 0 (MQ below (zQv (S := (Nat → Int32) × (Nat → Int32) × (Int32)) (fun u => post u.1 u.2.1 u.2.2) (fun u H => mW E q f_code a_tape a_size a_fault a_faultPlace a_many a_lands a_evenings a_sights a_choirs f_reached f_length f_begins f_sort f_value f_word f_wrongAt f_laterFault f_laterPlace a_told a_read f_farHut f_farSinger f_good f_land f_huts f_singers f_evening a_at u.1 a_climbed a_snow u.2.1 u.2.2 f_minute f_avalanches a_run a_covers a_routes a_longest a_steep a_laid a_far f_sight a_runs f_choir f_voices a_rest a_wins f_seed a_other a_kept H) (mA q)) args s 0 0 (mA q)) (F0 m 37 ls [])) ?_ _ _ _ hl hM hS
  intro x4 a_knows hw H locs ls hl hM hS
  refine lv_iload hx hb dX11_sounds_37 (lv_at hl 3 rfl) ?_
  refine lv_aload_n hx hb dX11_sounds_39 rfl (lv_at hl 0 rfl) ?_
  refine mg_11_310_0 zc hK hM dX11_sounds_40 ?_
  refine lv_icmp_ge (tgt := 83) hx hb dX11_sounds_43 (by decide) (fun hc => ?_) (fun hc => ?_)
  · have hw := hw.1 hc
    exact zret_vw ⟨a_knows, a_level, f_begun⟩ zc hS hw hM dX11_sounds_83
  · have hw := hw.2 hc
    refine lv_aload_n hx hb dX11_sounds_46 rfl (lv_at hl 0 rfl) ?_
    refine mg_11_47_0 zc hK hM dX11_sounds_47 ?_
    refine lv_iload hx hb dX11_sounds_50 (lv_at hl 3 rfl) ?_
    refine lv_dup2_11 hx hb dX11_sounds_52 rfl rfl ?_
    refine mld_13 zc hK hM hw.1 dX11_sounds_53 ?_
    have hw := hw.2
    refine lv_iload_n hx hb dX11_sounds_54 rfl (lv_at hl 2 rfl) ?_
    refine lv_aload_n hx hb dX11_sounds_55 rfl (lv_at hl 0 rfl) ?_
    refine mg_11_44_0 zc hK hM dX11_sounds_56 ?_
    refine lv_iload hx hb dX11_sounds_59 (lv_at hl 3 rfl) ?_
    refine mld_12 zc hK hM hw.1 dX11_sounds_61 ?_
    have hw := hw.2
    refine zS_i [.int x3, .int (a_at (Int32.toNatClampNeg x4))] [.int (a_knows (Int32.toNatClampNeg x4)), .int x4, .ref (q + 13)] zc ky_X11_has kz_X11_has km_11_101 (c_m_has l hw) (zPre0 _) rfl rfl hl.1 (Nat.le_of_ble_eq_true rfl) ⟨rfl, rfl⟩ ⟨Nat.le_of_ble_eq_true rfl, Nat.le_of_ble_eq_true rfl⟩ ⟨(Nat.zero_le _), (Nat.zero_le _)⟩ dX11_sounds_62 (fun r_1 hw => ?_)
    refine lv_if_eq (tgt := 74) hx hb dX11_sounds_65 (by decide) (fun hc => ?_) (fun hc => ?_)
    · have hw := hw.1 hc
      refine lv_iconst (v := (0 : Int32)) hx hb dX11_sounds_74 (by decide) ?_
      exact t_m_sounds_75 zc hK hM hS (fun _ _ H locs ls h hl hM hS => h H locs ls hl hM hS) (lv_sub hl [0, 1, 2, 3] rfl) hw
    · have hw := hw.2 hc
      refine lv_iconst (v := (1 : Int32)) hx hb dX11_sounds_68 (by decide) ?_
      refine lv_iload_n hx hb dX11_sounds_69 rfl (lv_at hl 1 rfl) ?_
      refine lv_ishl hx hb dX11_sounds_70 ?_
      refine lv_goto (tgt := 75) hx hb dX11_sounds_71 (by decide) ?_
      exact t_m_sounds_75 zc hK hM hS (fun _ _ H locs ls h hl hM hS => h H locs ls hl hM hS) (lv_sub hl [0, 1, 2, 3] rfl) hw
set_option maxRecDepth 20000 in
theorem t_m_sounds_0 {p : Program} {l : Launch} {e : Env} {s : State} {m : MethodId} {args : Array Value} {below : List Frame} {meth : Method} {c : Code} {E : zE} {q : Nat} {f_code : Int32} {a_tape : Nat → Int32} {a_size : Nat → Int32} {a_fault : Nat → Int32} {a_faultPlace : Nat → Int32} {a_many : Nat → Int32} {a_lands : Nat → Int32} {a_evenings : Nat → Int32} {a_sights : Nat → Int32} {a_choirs : Nat → Int32} {f_reached : Int32} {f_length : Int32} {f_begins : Int32} {f_sort : Int32} {f_value : Int32} {f_word : Int64} {f_wrongAt : Int32} {f_laterFault : Int32} {f_laterPlace : Int32} {a_told : Nat → Int32} {a_read : Nat → Int32} {f_farHut : Int32} {f_farSinger : Int32} {f_good : Int32} {f_land : Int32} {f_huts : Int32} {f_singers : Int32} {f_evening : Int32} {a_at : Nat → Int32} {a_knows : Nat → Int32} {a_climbed : Nat → Int32} {a_snow : Nat → Int32} {a_level : Nat → Int32} {f_begun : Int32} {f_minute : Int32} {f_avalanches : Int32} {a_run : Nat → Int32} {a_covers : Nat → Int32} {a_routes : Nat → Int32} {a_longest : Nat → Int32} {a_steep : Nat → Int32} {a_laid : Nat → Int32} {a_far : Nat → Int32} {f_sight : Int32} {a_runs : Nat → Int32} {f_choir : Int32} {f_voices : Int32} {a_rest : Nat → Int64} {a_wins : Nat → Int32} {f_seed : Int32} {a_other : Nat → Int32} {a_kept : Nat → Int32} {post : (Nat → Int32) → (Nat → Int32) → (Int32) → Prop} {x1 : Int32} {x2 : Int32} {ls : Array Slot} {H : Heap} {locs : List Loc}
    (zc : zC p s m args meth c cX11_sounds 5 RX11 none)
    (hK : zK E s)
    (hM : mW E q f_code a_tape a_size a_fault a_faultPlace a_many a_lands a_evenings a_sights a_choirs f_reached f_length f_begins f_sort f_value f_word f_wrongAt f_laterFault f_laterPlace a_told a_read f_farHut f_farSinger f_good f_land f_huts f_singers f_evening a_at a_knows a_climbed a_snow a_level f_begun f_minute f_avalanches a_run a_covers a_routes a_longest a_steep a_laid a_far f_sight a_runs f_choir f_voices a_rest a_wins f_seed a_other a_kept H)
    (hS : va_S (mA q) s.heap H locs)
    (hl : lv_has ls 5 [(0, .ref q), (1, .int x1), (2, .int x2)])
    (hw : q_m_sounds_0 a_lands f_land f_singers a_at a_knows a_climbed a_level f_begun x1 x2 post) :
    W p l e rm_m_sounds s m args below meth c H locs 0 0 (MQ below (zQv (S := (Nat → Int32) × (Nat → Int32) × (Int32)) (fun u => post u.1 u.2.1 u.2.2) (fun u H => mW E q f_code a_tape a_size a_fault a_faultPlace a_many a_lands a_evenings a_sights a_choirs f_reached f_length f_begins f_sort f_value f_word f_wrongAt f_laterFault f_laterPlace a_told a_read f_farHut f_farSinger f_good f_land f_huts f_singers f_evening a_at u.1 a_climbed a_snow u.2.1 u.2.2 f_minute f_avalanches a_run a_covers a_routes a_longest a_steep a_laid a_far f_sight a_runs f_choir f_voices a_rest a_wins f_seed a_other a_kept H) (mA q)) args s 0 0 (mA q)) (F0 m 0 ls []) := by
  have hx := zc.1
  have hb := zc.2.1
  refine lv_aload_n hx hb dX11_sounds_0 rfl (lv_at hl 0 rfl) ?_
  refine lv_aload_n hx hb dX11_sounds_1 rfl (lv_at hl 0 rfl) ?_
  refine mg_11_44_0 zc hK hM dX11_sounds_2 ?_
  refine lv_iload_n hx hb dX11_sounds_5 rfl (lv_at hl 1 rfl) ?_
  refine mld_12 zc hK hM hw.1 dX11_sounds_6 ?_
  have hw := hw.2
  refine zV_i [.int (a_at (Int32.toNatClampNeg x1))] [] zc ky_X11_hearing kz_X11_hearing km_11_349 (c_m_hearing l hw) (mPreV0 hK hM) rfl rfl hl.1 (Nat.le_of_ble_eq_true rfl) ⟨rfl, rfl⟩ ⟨Nat.le_of_ble_eq_true rfl, Nat.le_of_ble_eq_true rfl⟩ ⟨(Nat.zero_le _), (Nat.zero_le _)⟩ dX11_sounds_7 (fun r_1 hw => ?_)
  refine lv_istore_n (lv' := [(3, .int r_1), (0, .ref q), (1, .int x1), (2, .int x2)]) hx hb dX11_sounds_10 rfl hl (by decide) rfl (fun ls hl => ?_)
  refine lv_aload_n hx hb dX11_sounds_11 rfl (lv_at hl 1 rfl) ?_
  refine mg_11_56_0 zc hK hM dX11_sounds_12 ?_
  refine lv_iload_n hx hb dX11_sounds_15 rfl (lv_at hl 3 rfl) ?_
  refine lv_aload_n hx hb dX11_sounds_16 rfl (lv_at hl 1 rfl) ?_
  refine lv_iload_n hx hb dX11_sounds_17 rfl (lv_at hl 2 rfl) ?_
  refine zV_i [.int x1] [.int x2, .ref (q + 16)] zc ky_X11_high kz_X11_high km_11_352 (c_m_high l hw) (mPreV0 hK hM) rfl rfl hl.1 (Nat.le_of_ble_eq_true rfl) ⟨rfl, rfl⟩ ⟨Nat.le_of_ble_eq_true rfl, Nat.le_of_ble_eq_true rfl⟩ ⟨(Nat.zero_le _), (Nat.zero_le _)⟩ dX11_sounds_18 (fun r_2 hw => ?_)
  refine mst_16 zc hK hM hS hw.1 dX11_sounds_21 (fun a_level_1 H locs ea_level_1 hM hS => ?_)
  have hw := hw.2 a_level_1 ea_level_1
  refine lv_aload_n hx hb dX11_sounds_22 rfl (lv_at hl 1 rfl) ?_
  refine lv_dup hx hb dX11_sounds_23 rfl ?_
  refine mg_11_340_0 zc hK hM dX11_sounds_24 ?_
  refine lv_iconst (v := (1 : Int32)) hx hb dX11_sounds_27 (by decide) ?_
  refine lv_iload_n hx hb dX11_sounds_28 rfl (lv_at hl 3 rfl) ?_
  refine lv_ishl hx hb dX11_sounds_29 ?_
  refine lv_ior hx hb dX11_sounds_30 ?_
  refine lv_topi (fun v_1 ev_1 => ?_)
  have hw := hw v_1 ev_1
  refine mp_11_340_0 zc hK hM hS dX11_sounds_31 (fun H locs hM hS => ?_)
  refine lv_iconst (v := (0 : Int32)) hx hb dX11_sounds_34 (by decide) ?_
  refine lv_istore (lv' := [(4, .int (0 : Int32)), (3, .int r_1), (0, .ref q), (1, .int x1), (2, .int x2)]) hx hb dX11_sounds_35 hl (by decide) rfl (fun ls hl => ?_)
  exact t_m_sounds_37 zc hK hM hS  (lv_sub hl [2, 4, 1, 0] rfl) hw
set_option maxRecDepth 20000 in
theorem c_m_sounds (l : Launch) {E : zE} {q : Nat} {f_code : Int32} {a_tape : Nat → Int32} {a_size : Nat → Int32} {a_fault : Nat → Int32} {a_faultPlace : Nat → Int32} {a_many : Nat → Int32} {a_lands : Nat → Int32} {a_evenings : Nat → Int32} {a_sights : Nat → Int32} {a_choirs : Nat → Int32} {f_reached : Int32} {f_length : Int32} {f_begins : Int32} {f_sort : Int32} {f_value : Int32} {f_word : Int64} {f_wrongAt : Int32} {f_laterFault : Int32} {f_laterPlace : Int32} {a_told : Nat → Int32} {a_read : Nat → Int32} {f_farHut : Int32} {f_farSinger : Int32} {f_good : Int32} {f_land : Int32} {f_huts : Int32} {f_singers : Int32} {f_evening : Int32} {a_at : Nat → Int32} {a_knows : Nat → Int32} {a_climbed : Nat → Int32} {a_snow : Nat → Int32} {a_level : Nat → Int32} {f_begun : Int32} {f_minute : Int32} {f_avalanches : Int32} {a_run : Nat → Int32} {a_covers : Nat → Int32} {a_routes : Nat → Int32} {a_longest : Nat → Int32} {a_steep : Nat → Int32} {a_laid : Nat → Int32} {a_far : Nat → Int32} {f_sight : Int32} {a_runs : Nat → Int32} {f_choir : Int32} {f_voices : Int32} {a_rest : Nat → Int64} {a_wins : Nat → Int32} {f_seed : Int32} {a_other : Nat → Int32} {a_kept : Nat → Int32} {x1 : Int32} {x2 : Int32} {post : (Nat → Int32) → (Nat → Int32) → (Int32) → Prop} (hw : q_m_sounds_0 a_lands f_land f_singers a_at a_knows a_climbed a_level f_begun x1 x2 post) : Met l yX11_sounds (Cond.code yX11_sounds cX11_sounds 5 none :: zb) rm_m_sounds (va_Pc [.ref q, .int x1, .int x2] (fun U => mW E q f_code a_tape a_size a_fault a_faultPlace a_many a_lands a_evenings a_sights a_choirs f_reached f_length f_begins f_sort f_value f_word f_wrongAt f_laterFault f_laterPlace a_told a_read f_farHut f_farSinger f_good f_land f_huts f_singers f_evening a_at a_knows a_climbed a_snow a_level f_begun f_minute f_avalanches a_run a_covers a_routes a_longest a_steep a_laid a_far f_sight a_runs f_choir f_voices a_rest a_wins f_seed a_other a_kept U.heap ∧ zK E U)) (zQv (S := (Nat → Int32) × (Nat → Int32) × (Int32)) (fun u => post u.1 u.2.1 u.2.2) (fun u H => mW E q f_code a_tape a_size a_fault a_faultPlace a_many a_lands a_evenings a_sights a_choirs f_reached f_length f_begins f_sort f_value f_word f_wrongAt f_laterFault f_laterPlace a_told a_read f_farHut f_farSinger f_good f_land f_huts f_singers f_evening a_at u.1 a_climbed a_snow u.2.1 u.2.2 f_minute f_avalanches a_run a_covers a_routes a_longest a_steep a_laid a_far f_sight a_runs f_choir f_voices a_rest a_wins f_seed a_other a_kept H) (mA q)) 0 0 (mA q) := by
  refine Met.ofW (cc := cX11_sounds) (maxL := 5) (ret := none) (by decide) rfl ?_
  intro p e s m args below meth c s₁ B hml hv
  obtain ⟨rfl, hM, hK⟩ := hv
  have zc := zc_of B hml
  have hl := lv_entry ([.ref q, .int x1, .int x2]) (n := 5) (Nat.le_of_ble_eq_true rfl)
  rw [lg_entry_eq]
  generalize (lg_sl ([.ref q, .int x1, .int x2]) ++ List.replicate (5 - (lg_sl ([.ref q, .int x1, .int x2])).length) Slot.unset).toArray = ls at hl ⊢
  have hl : lv_has ls 5 [(0, .ref q), (1, .int x1), (2, .int x2)] := hl
  exact t_m_sounds_0 zc hK hM va_S.rf (lv_sub hl [0, 1, 2] rfl) hw
-- m_mayBegin
abbrev rm_m_mayBegin : Room := { frames := 2, cells := 0, slots := 0, locals := 42 }
def q_m_mayBegin_0 (a_lands : Nat → Int32) (f_land : Int32) (a_at : Nat → Int32) (a_knows : Nat → Int32) (f_begun : Int32) (x1 : Int32) (x2 : Int32) (post : Int32 → Prop) : Prop :=
  vp_in x1 6 ∧ (q_m_has_0 (a_knows (Int32.toNatClampNeg x1)) x2 (fun r_1 => (r_1 = 0 → (post (0 : Int32))) ∧ (¬ r_1 = 0 → (q_m_has_0 f_begun x2 (fun r_2 => (¬ r_2 = 0 → (post (0 : Int32))) ∧ (r_2 = 0 → (vp_in x1 6 ∧ (q_m_isDam_0 a_lands f_land (a_at (Int32.toNatClampNeg x1)) (fun r_3 => (¬ r_3 = 0 → (post (0 : Int32))) ∧ (r_3 = 0 → (post (1 : Int32))))))))))))
set_option maxRecDepth 20000 in
theorem t_m_mayBegin_0 {p : Program} {l : Launch} {e : Env} {s : State} {m : MethodId} {args : Array Value} {below : List Frame} {meth : Method} {c : Code} {E : zE} {q : Nat} {f_code : Int32} {a_tape : Nat → Int32} {a_size : Nat → Int32} {a_fault : Nat → Int32} {a_faultPlace : Nat → Int32} {a_many : Nat → Int32} {a_lands : Nat → Int32} {a_evenings : Nat → Int32} {a_sights : Nat → Int32} {a_choirs : Nat → Int32} {f_reached : Int32} {f_length : Int32} {f_begins : Int32} {f_sort : Int32} {f_value : Int32} {f_word : Int64} {f_wrongAt : Int32} {f_laterFault : Int32} {f_laterPlace : Int32} {a_told : Nat → Int32} {a_read : Nat → Int32} {f_farHut : Int32} {f_farSinger : Int32} {f_good : Int32} {f_land : Int32} {f_huts : Int32} {f_singers : Int32} {f_evening : Int32} {a_at : Nat → Int32} {a_knows : Nat → Int32} {a_climbed : Nat → Int32} {a_snow : Nat → Int32} {a_level : Nat → Int32} {f_begun : Int32} {f_minute : Int32} {f_avalanches : Int32} {a_run : Nat → Int32} {a_covers : Nat → Int32} {a_routes : Nat → Int32} {a_longest : Nat → Int32} {a_steep : Nat → Int32} {a_laid : Nat → Int32} {a_far : Nat → Int32} {f_sight : Int32} {a_runs : Nat → Int32} {f_choir : Int32} {f_voices : Int32} {a_rest : Nat → Int64} {a_wins : Nat → Int32} {f_seed : Int32} {a_other : Nat → Int32} {a_kept : Nat → Int32} {post : Int32 → Prop} {x1 : Int32} {x2 : Int32} {ls : Array Slot}
    (zc : zC p s m args meth c cX11_mayBegin 3 RX11 (some .boolean))
    (hK : zK E s)
    (hM : mW E q f_code a_tape a_size a_fault a_faultPlace a_many a_lands a_evenings a_sights a_choirs f_reached f_length f_begins f_sort f_value f_word f_wrongAt f_laterFault f_laterPlace a_told a_read f_farHut f_farSinger f_good f_land f_huts f_singers f_evening a_at a_knows a_climbed a_snow a_level f_begun f_minute f_avalanches a_run a_covers a_routes a_longest a_steep a_laid a_far f_sight a_runs f_choir f_voices a_rest a_wins f_seed a_other a_kept s.heap)
    (hl : lv_has ls 3 [(0, .ref q), (1, .int x1), (2, .int x2)])
    (hw : q_m_mayBegin_0 a_lands f_land a_at a_knows f_begun x1 x2 post) :
    W p l e rm_m_mayBegin s m args below meth c s.heap [] 0 0 (MQ below (vp_Si post) args s 0 0 (fun _ => False)) (F0 m 0 ls []) := by
  have hx := zc.1
  have hb := zc.2.1
  refine lv_aload_n hx hb dX11_mayBegin_0 rfl (lv_at hl 0 rfl) ?_
  refine mg_11_47_0 zc hK hM dX11_mayBegin_1 ?_
  refine lv_iload_n hx hb dX11_mayBegin_4 rfl (lv_at hl 1 rfl) ?_
  refine mld_13 zc hK hM hw.1 dX11_mayBegin_5 ?_
  have hw := hw.2
  refine lv_iload_n hx hb dX11_mayBegin_6 rfl (lv_at hl 2 rfl) ?_
  refine zS_i [.int (a_knows (Int32.toNatClampNeg x1)), .int x2] [] zc ky_X11_has kz_X11_has km_11_101 (c_m_has l hw) (zPre0 _) rfl rfl hl.1 (Nat.le_of_ble_eq_true rfl) ⟨rfl, rfl⟩ ⟨Nat.le_of_ble_eq_true rfl, Nat.le_of_ble_eq_true rfl⟩ ⟨(Nat.zero_le _), (Nat.zero_le _)⟩ dX11_mayBegin_7 (fun r_1 hw => ?_)
  refine lv_if_eq (tgt := 41) hx hb dX11_mayBegin_10 (by decide) (fun hc => ?_) (fun hc => ?_)
  · have hw := hw.1 hc
    refine lv_iconst (v := (0 : Int32)) hx hb dX11_mayBegin_41 (by decide) ?_
    exact zret_z zc rfl hw dX11_mayBegin_42
  · have hw := hw.2 hc
    refine lv_aload_n hx hb dX11_mayBegin_13 rfl (lv_at hl 0 rfl) ?_
    refine mg_11_340_0 zc hK hM dX11_mayBegin_14 ?_
    refine lv_iload_n hx hb dX11_mayBegin_17 rfl (lv_at hl 2 rfl) ?_
    refine zS_i [.int f_begun, .int x2] [] zc ky_X11_has kz_X11_has km_11_101 (c_m_has l hw) (zPre0 _) rfl rfl hl.1 (Nat.le_of_ble_eq_true rfl) ⟨rfl, rfl⟩ ⟨Nat.le_of_ble_eq_true rfl, Nat.le_of_ble_eq_true rfl⟩ ⟨(Nat.zero_le _), (Nat.zero_le _)⟩ dX11_mayBegin_18 (fun r_2 hw => ?_)
    refine lv_if_ne (tgt := 41) hx hb dX11_mayBegin_21 (by decide) (fun hc => ?_) (fun hc => ?_)
    · have hw := hw.1 hc
      refine lv_iconst (v := (0 : Int32)) hx hb dX11_mayBegin_41 (by decide) ?_
      exact zret_z zc rfl hw dX11_mayBegin_42
    · have hw := hw.2 hc
      refine lv_aload_n hx hb dX11_mayBegin_24 rfl (lv_at hl 0 rfl) ?_
      refine lv_aload_n hx hb dX11_mayBegin_25 rfl (lv_at hl 0 rfl) ?_
      refine mg_11_44_0 zc hK hM dX11_mayBegin_26 ?_
      refine lv_iload_n hx hb dX11_mayBegin_29 rfl (lv_at hl 1 rfl) ?_
      refine mld_12 zc hK hM hw.1 dX11_mayBegin_30 ?_
      have hw := hw.2
      refine zV_i [.int (a_at (Int32.toNatClampNeg x1))] [] zc ky_X11_isDam kz_X11_isDam km_11_355 (c_m_isDam l hw) (mPreV0 hK hM) rfl rfl hl.1 (Nat.le_of_ble_eq_true rfl) ⟨rfl, rfl⟩ ⟨Nat.le_of_ble_eq_true rfl, Nat.le_of_ble_eq_true rfl⟩ ⟨(Nat.zero_le _), (Nat.zero_le _)⟩ dX11_mayBegin_31 (fun r_3 hw => ?_)
      refine lv_if_ne (tgt := 41) hx hb dX11_mayBegin_34 (by decide) (fun hc => ?_) (fun hc => ?_)
      · have hw := hw.1 hc
        refine lv_iconst (v := (0 : Int32)) hx hb dX11_mayBegin_41 (by decide) ?_
        exact zret_z zc rfl hw dX11_mayBegin_42
      · have hw := hw.2 hc
        refine lv_iconst (v := (1 : Int32)) hx hb dX11_mayBegin_37 (by decide) ?_
        refine lv_goto (tgt := 42) hx hb dX11_mayBegin_38 (by decide) ?_
        exact zret_z zc rfl hw dX11_mayBegin_42
set_option maxRecDepth 20000 in
theorem c_m_mayBegin (l : Launch) {E : zE} {q : Nat} {f_code : Int32} {a_tape : Nat → Int32} {a_size : Nat → Int32} {a_fault : Nat → Int32} {a_faultPlace : Nat → Int32} {a_many : Nat → Int32} {a_lands : Nat → Int32} {a_evenings : Nat → Int32} {a_sights : Nat → Int32} {a_choirs : Nat → Int32} {f_reached : Int32} {f_length : Int32} {f_begins : Int32} {f_sort : Int32} {f_value : Int32} {f_word : Int64} {f_wrongAt : Int32} {f_laterFault : Int32} {f_laterPlace : Int32} {a_told : Nat → Int32} {a_read : Nat → Int32} {f_farHut : Int32} {f_farSinger : Int32} {f_good : Int32} {f_land : Int32} {f_huts : Int32} {f_singers : Int32} {f_evening : Int32} {a_at : Nat → Int32} {a_knows : Nat → Int32} {a_climbed : Nat → Int32} {a_snow : Nat → Int32} {a_level : Nat → Int32} {f_begun : Int32} {f_minute : Int32} {f_avalanches : Int32} {a_run : Nat → Int32} {a_covers : Nat → Int32} {a_routes : Nat → Int32} {a_longest : Nat → Int32} {a_steep : Nat → Int32} {a_laid : Nat → Int32} {a_far : Nat → Int32} {f_sight : Int32} {a_runs : Nat → Int32} {f_choir : Int32} {f_voices : Int32} {a_rest : Nat → Int64} {a_wins : Nat → Int32} {f_seed : Int32} {a_other : Nat → Int32} {a_kept : Nat → Int32} {x1 : Int32} {x2 : Int32} {post : Int32 → Prop} (hw : q_m_mayBegin_0 a_lands f_land a_at a_knows f_begun x1 x2 post) : Met l yX11_mayBegin (Cond.code yX11_mayBegin cX11_mayBegin 3 (some .boolean) :: zb) rm_m_mayBegin (va_Pc [.ref q, .int x1, .int x2] (fun U => mW E q f_code a_tape a_size a_fault a_faultPlace a_many a_lands a_evenings a_sights a_choirs f_reached f_length f_begins f_sort f_value f_word f_wrongAt f_laterFault f_laterPlace a_told a_read f_farHut f_farSinger f_good f_land f_huts f_singers f_evening a_at a_knows a_climbed a_snow a_level f_begun f_minute f_avalanches a_run a_covers a_routes a_longest a_steep a_laid a_far f_sight a_runs f_choir f_voices a_rest a_wins f_seed a_other a_kept U.heap ∧ zK E U)) (vp_Si post) 0 0 (fun _ => False) := by
  refine Met.ofW (cc := cX11_mayBegin) (maxL := 3) (ret := (some .boolean)) (by decide) rfl ?_
  intro p e s m args below meth c s₁ B hml hv
  obtain ⟨rfl, hM, hK⟩ := hv
  have zc := zc_of B hml
  have hl := lv_entry ([.ref q, .int x1, .int x2]) (n := 3) (Nat.le_of_ble_eq_true rfl)
  rw [lg_entry_eq]
  generalize (lg_sl ([.ref q, .int x1, .int x2]) ++ List.replicate (3 - (lg_sl ([.ref q, .int x1, .int x2])).length) Slot.unset).toArray = ls at hl ⊢
  have hl : lv_has ls 3 [(0, .ref q), (1, .int x1), (2, .int x2)] := hl
  exact t_m_mayBegin_0 zc hK hM (lv_sub hl [0, 1, 2] rfl) hw
-- m_maySing
abbrev rm_m_maySing : Room := { frames := 2, cells := 0, slots := 0, locals := 42 }
def q_m_maySing_0 (a_lands : Nat → Int32) (f_land : Int32) (a_at : Nat → Int32) (a_knows : Nat → Int32) (f_begun : Int32) (x1 : Int32) (x2 : Int32) (post : Int32 → Prop) : Prop :=
  vp_in x1 6 ∧ (q_m_has_0 (a_knows (Int32.toNatClampNeg x1)) x2 (fun r_1 => (r_1 = 0 → (post (0 : Int32))) ∧ (¬ r_1 = 0 → (q_m_has_0 f_begun x2 (fun r_2 => (r_2 = 0 → (post (0 : Int32))) ∧ (¬ r_2 = 0 → (vp_in x1 6 ∧ (q_m_isDam_0 a_lands f_land (a_at (Int32.toNatClampNeg x1)) (fun r_3 => (¬ r_3 = 0 → (post (0 : Int32))) ∧ (r_3 = 0 → (post (1 : Int32))))))))))))
set_option maxRecDepth 20000 in
theorem t_m_maySing_0 {p : Program} {l : Launch} {e : Env} {s : State} {m : MethodId} {args : Array Value} {below : List Frame} {meth : Method} {c : Code} {E : zE} {q : Nat} {f_code : Int32} {a_tape : Nat → Int32} {a_size : Nat → Int32} {a_fault : Nat → Int32} {a_faultPlace : Nat → Int32} {a_many : Nat → Int32} {a_lands : Nat → Int32} {a_evenings : Nat → Int32} {a_sights : Nat → Int32} {a_choirs : Nat → Int32} {f_reached : Int32} {f_length : Int32} {f_begins : Int32} {f_sort : Int32} {f_value : Int32} {f_word : Int64} {f_wrongAt : Int32} {f_laterFault : Int32} {f_laterPlace : Int32} {a_told : Nat → Int32} {a_read : Nat → Int32} {f_farHut : Int32} {f_farSinger : Int32} {f_good : Int32} {f_land : Int32} {f_huts : Int32} {f_singers : Int32} {f_evening : Int32} {a_at : Nat → Int32} {a_knows : Nat → Int32} {a_climbed : Nat → Int32} {a_snow : Nat → Int32} {a_level : Nat → Int32} {f_begun : Int32} {f_minute : Int32} {f_avalanches : Int32} {a_run : Nat → Int32} {a_covers : Nat → Int32} {a_routes : Nat → Int32} {a_longest : Nat → Int32} {a_steep : Nat → Int32} {a_laid : Nat → Int32} {a_far : Nat → Int32} {f_sight : Int32} {a_runs : Nat → Int32} {f_choir : Int32} {f_voices : Int32} {a_rest : Nat → Int64} {a_wins : Nat → Int32} {f_seed : Int32} {a_other : Nat → Int32} {a_kept : Nat → Int32} {post : Int32 → Prop} {x1 : Int32} {x2 : Int32} {ls : Array Slot}
    (zc : zC p s m args meth c cX11_maySing 3 RX11 (some .boolean))
    (hK : zK E s)
    (hM : mW E q f_code a_tape a_size a_fault a_faultPlace a_many a_lands a_evenings a_sights a_choirs f_reached f_length f_begins f_sort f_value f_word f_wrongAt f_laterFault f_laterPlace a_told a_read f_farHut f_farSinger f_good f_land f_huts f_singers f_evening a_at a_knows a_climbed a_snow a_level f_begun f_minute f_avalanches a_run a_covers a_routes a_longest a_steep a_laid a_far f_sight a_runs f_choir f_voices a_rest a_wins f_seed a_other a_kept s.heap)
    (hl : lv_has ls 3 [(0, .ref q), (1, .int x1), (2, .int x2)])
    (hw : q_m_maySing_0 a_lands f_land a_at a_knows f_begun x1 x2 post) :
    W p l e rm_m_maySing s m args below meth c s.heap [] 0 0 (MQ below (vp_Si post) args s 0 0 (fun _ => False)) (F0 m 0 ls []) := by
  have hx := zc.1
  have hb := zc.2.1
  refine lv_aload_n hx hb dX11_maySing_0 rfl (lv_at hl 0 rfl) ?_
  refine mg_11_47_0 zc hK hM dX11_maySing_1 ?_
  refine lv_iload_n hx hb dX11_maySing_4 rfl (lv_at hl 1 rfl) ?_
  refine mld_13 zc hK hM hw.1 dX11_maySing_5 ?_
  have hw := hw.2
  refine lv_iload_n hx hb dX11_maySing_6 rfl (lv_at hl 2 rfl) ?_
  refine zS_i [.int (a_knows (Int32.toNatClampNeg x1)), .int x2] [] zc ky_X11_has kz_X11_has km_11_101 (c_m_has l hw) (zPre0 _) rfl rfl hl.1 (Nat.le_of_ble_eq_true rfl) ⟨rfl, rfl⟩ ⟨Nat.le_of_ble_eq_true rfl, Nat.le_of_ble_eq_true rfl⟩ ⟨(Nat.zero_le _), (Nat.zero_le _)⟩ dX11_maySing_7 (fun r_1 hw => ?_)
  refine lv_if_eq (tgt := 41) hx hb dX11_maySing_10 (by decide) (fun hc => ?_) (fun hc => ?_)
  · have hw := hw.1 hc
    refine lv_iconst (v := (0 : Int32)) hx hb dX11_maySing_41 (by decide) ?_
    exact zret_z zc rfl hw dX11_maySing_42
  · have hw := hw.2 hc
    refine lv_aload_n hx hb dX11_maySing_13 rfl (lv_at hl 0 rfl) ?_
    refine mg_11_340_0 zc hK hM dX11_maySing_14 ?_
    refine lv_iload_n hx hb dX11_maySing_17 rfl (lv_at hl 2 rfl) ?_
    refine zS_i [.int f_begun, .int x2] [] zc ky_X11_has kz_X11_has km_11_101 (c_m_has l hw) (zPre0 _) rfl rfl hl.1 (Nat.le_of_ble_eq_true rfl) ⟨rfl, rfl⟩ ⟨Nat.le_of_ble_eq_true rfl, Nat.le_of_ble_eq_true rfl⟩ ⟨(Nat.zero_le _), (Nat.zero_le _)⟩ dX11_maySing_18 (fun r_2 hw => ?_)
    refine lv_if_eq (tgt := 41) hx hb dX11_maySing_21 (by decide) (fun hc => ?_) (fun hc => ?_)
    · have hw := hw.1 hc
      refine lv_iconst (v := (0 : Int32)) hx hb dX11_maySing_41 (by decide) ?_
      exact zret_z zc rfl hw dX11_maySing_42
    · have hw := hw.2 hc
      refine lv_aload_n hx hb dX11_maySing_24 rfl (lv_at hl 0 rfl) ?_
      refine lv_aload_n hx hb dX11_maySing_25 rfl (lv_at hl 0 rfl) ?_
      refine mg_11_44_0 zc hK hM dX11_maySing_26 ?_
      refine lv_iload_n hx hb dX11_maySing_29 rfl (lv_at hl 1 rfl) ?_
      refine mld_12 zc hK hM hw.1 dX11_maySing_30 ?_
      have hw := hw.2
      refine zV_i [.int (a_at (Int32.toNatClampNeg x1))] [] zc ky_X11_isDam kz_X11_isDam km_11_355 (c_m_isDam l hw) (mPreV0 hK hM) rfl rfl hl.1 (Nat.le_of_ble_eq_true rfl) ⟨rfl, rfl⟩ ⟨Nat.le_of_ble_eq_true rfl, Nat.le_of_ble_eq_true rfl⟩ ⟨(Nat.zero_le _), (Nat.zero_le _)⟩ dX11_maySing_31 (fun r_3 hw => ?_)
      refine lv_if_ne (tgt := 41) hx hb dX11_maySing_34 (by decide) (fun hc => ?_) (fun hc => ?_)
      · have hw := hw.1 hc
        refine lv_iconst (v := (0 : Int32)) hx hb dX11_maySing_41 (by decide) ?_
        exact zret_z zc rfl hw dX11_maySing_42
      · have hw := hw.2 hc
        refine lv_iconst (v := (1 : Int32)) hx hb dX11_maySing_37 (by decide) ?_
        refine lv_goto (tgt := 42) hx hb dX11_maySing_38 (by decide) ?_
        exact zret_z zc rfl hw dX11_maySing_42
set_option maxRecDepth 20000 in
theorem c_m_maySing (l : Launch) {E : zE} {q : Nat} {f_code : Int32} {a_tape : Nat → Int32} {a_size : Nat → Int32} {a_fault : Nat → Int32} {a_faultPlace : Nat → Int32} {a_many : Nat → Int32} {a_lands : Nat → Int32} {a_evenings : Nat → Int32} {a_sights : Nat → Int32} {a_choirs : Nat → Int32} {f_reached : Int32} {f_length : Int32} {f_begins : Int32} {f_sort : Int32} {f_value : Int32} {f_word : Int64} {f_wrongAt : Int32} {f_laterFault : Int32} {f_laterPlace : Int32} {a_told : Nat → Int32} {a_read : Nat → Int32} {f_farHut : Int32} {f_farSinger : Int32} {f_good : Int32} {f_land : Int32} {f_huts : Int32} {f_singers : Int32} {f_evening : Int32} {a_at : Nat → Int32} {a_knows : Nat → Int32} {a_climbed : Nat → Int32} {a_snow : Nat → Int32} {a_level : Nat → Int32} {f_begun : Int32} {f_minute : Int32} {f_avalanches : Int32} {a_run : Nat → Int32} {a_covers : Nat → Int32} {a_routes : Nat → Int32} {a_longest : Nat → Int32} {a_steep : Nat → Int32} {a_laid : Nat → Int32} {a_far : Nat → Int32} {f_sight : Int32} {a_runs : Nat → Int32} {f_choir : Int32} {f_voices : Int32} {a_rest : Nat → Int64} {a_wins : Nat → Int32} {f_seed : Int32} {a_other : Nat → Int32} {a_kept : Nat → Int32} {x1 : Int32} {x2 : Int32} {post : Int32 → Prop} (hw : q_m_maySing_0 a_lands f_land a_at a_knows f_begun x1 x2 post) : Met l yX11_maySing (Cond.code yX11_maySing cX11_maySing 3 (some .boolean) :: zb) rm_m_maySing (va_Pc [.ref q, .int x1, .int x2] (fun U => mW E q f_code a_tape a_size a_fault a_faultPlace a_many a_lands a_evenings a_sights a_choirs f_reached f_length f_begins f_sort f_value f_word f_wrongAt f_laterFault f_laterPlace a_told a_read f_farHut f_farSinger f_good f_land f_huts f_singers f_evening a_at a_knows a_climbed a_snow a_level f_begun f_minute f_avalanches a_run a_covers a_routes a_longest a_steep a_laid a_far f_sight a_runs f_choir f_voices a_rest a_wins f_seed a_other a_kept U.heap ∧ zK E U)) (vp_Si post) 0 0 (fun _ => False) := by
  refine Met.ofW (cc := cX11_maySing) (maxL := 3) (ret := (some .boolean)) (by decide) rfl ?_
  intro p e s m args below meth c s₁ B hml hv
  obtain ⟨rfl, hM, hK⟩ := hv
  have zc := zc_of B hml
  have hl := lv_entry ([.ref q, .int x1, .int x2]) (n := 3) (Nat.le_of_ble_eq_true rfl)
  rw [lg_entry_eq]
  generalize (lg_sl ([.ref q, .int x1, .int x2]) ++ List.replicate (3 - (lg_sl ([.ref q, .int x1, .int x2])).length) Slot.unset).toArray = ls at hl ⊢
  have hl : lv_has ls 3 [(0, .ref q), (1, .int x1), (2, .int x2)] := hl
  exact t_m_maySing_0 zc hK hM (lv_sub hl [0, 1, 2] rfl) hw
-- m_sings
abbrev rm_m_sings : Room := { frames := 4, cells := 0, slots := 0, locals := 87 }
def q_m_sings_78 (a_lands : Nat → Int32) (f_land : Int32) (f_singers : Int32) (a_at : Nat → Int32) (a_knows : Nat → Int32) (a_climbed : Nat → Int32) (a_snow : Nat → Int32) (a_level : Nat → Int32) (f_begun : Int32) (f_avalanches : Int32) (x1 : Int32) (x2 : Int32) (y0 : Int32) (y1 : Int32) (post : (Nat → Int32) → (Nat → Int32) → (Nat → Int32) → (Int32) → (Int32) → Prop) : Prop :=
  ∀ v_1 : Int32, v_1 = (y0 + y1) → (q_m_sounds_0 a_lands f_land f_singers a_at a_knows a_climbed a_level f_begun x1 x2 (fun a_knows_1 a_level_1 f_begun_1 => post a_knows_1 a_snow a_level_1 f_begun_1 v_1))
def q_m_sings_61 (a_lands : Nat → Int32) (f_land : Int32) (f_singers : Int32) (a_at : Nat → Int32) (a_knows : Nat → Int32) (a_climbed : Nat → Int32) (a_snow : Nat → Int32) (a_level : Nat → Int32) (f_begun : Int32) (f_avalanches : Int32) (x1 : Int32) (x2 : Int32) (x4 : Int32) (y0 : Int32) (y1 : Int32) (y2 : Int32) (post : (Nat → Int32) → (Nat → Int32) → (Nat → Int32) → (Int32) → (Int32) → Prop) : Prop :=
  ∀ v_1 : Int32, v_1 = (y1 + y2) → (vp_in y0 9 ∧ (∀ a_snow_1 : Nat → Int32, a_snow_1 = upd a_snow (Int32.toNatClampNeg y0) v_1 → ((x4 = 0 → (q_m_sings_78 a_lands f_land f_singers a_at a_knows a_climbed a_snow_1 a_level f_begun f_avalanches x1 x2 f_avalanches (0 : Int32) post)) ∧ (¬ x4 = 0 → (q_m_sings_78 a_lands f_land f_singers a_at a_knows a_climbed a_snow_1 a_level f_begun f_avalanches x1 x2 f_avalanches (1 : Int32) post)))))
def q_m_sings_37 (a_lands : Nat → Int32) (f_land : Int32) (f_singers : Int32) (a_at : Nat → Int32) (a_knows : Nat → Int32) (a_climbed : Nat → Int32) (a_snow : Nat → Int32) (a_level : Nat → Int32) (f_begun : Int32) (f_avalanches : Int32) (x1 : Int32) (x2 : Int32) (y0 : Int32) (post : (Nat → Int32) → (Nat → Int32) → (Nat → Int32) → (Int32) → (Int32) → Prop) : Prop :=
  vp_in x1 6 ∧ (vp_in (a_at (Int32.toNatClampNeg x1)) 9 ∧ ((y0 = 0 → (q_m_sings_61 a_lands f_land f_singers a_at a_knows a_climbed a_snow a_level f_begun f_avalanches x1 x2 y0 (a_at (Int32.toNatClampNeg x1)) (a_snow (Int32.toNatClampNeg (a_at (Int32.toNatClampNeg x1)))) (0 : Int32) post)) ∧ (¬ y0 = 0 → (q_m_sings_61 a_lands f_land f_singers a_at a_knows a_climbed a_snow a_level f_begun f_avalanches x1 x2 y0 (a_at (Int32.toNatClampNeg x1)) (a_snow (Int32.toNatClampNeg (a_at (Int32.toNatClampNeg x1)))) (1 : Int32) post))))
def q_m_sings_32 (a_lands : Nat → Int32) (f_land : Int32) (f_singers : Int32) (a_at : Nat → Int32) (a_knows : Nat → Int32) (a_climbed : Nat → Int32) (a_snow : Nat → Int32) (a_level : Nat → Int32) (f_begun : Int32) (f_avalanches : Int32) (x1 : Int32) (x2 : Int32) (post : (Nat → Int32) → (Nat → Int32) → (Nat → Int32) → (Int32) → (Int32) → Prop) : Prop :=
  q_m_sings_37 a_lands f_land f_singers a_at a_knows a_climbed a_snow a_level f_begun f_avalanches x1 x2 (1 : Int32) post
def q_m_sings_36 (a_lands : Nat → Int32) (f_land : Int32) (f_singers : Int32) (a_at : Nat → Int32) (a_knows : Nat → Int32) (a_climbed : Nat → Int32) (a_snow : Nat → Int32) (a_level : Nat → Int32) (f_begun : Int32) (f_avalanches : Int32) (x1 : Int32) (x2 : Int32) (post : (Nat → Int32) → (Nat → Int32) → (Nat → Int32) → (Int32) → (Int32) → Prop) : Prop :=
  q_m_sings_37 a_lands f_land f_singers a_at a_knows a_climbed a_snow a_level f_begun f_avalanches x1 x2 (0 : Int32) post
def q_m_sings_0 (a_lands : Nat → Int32) (f_land : Int32) (f_singers : Int32) (a_at : Nat → Int32) (a_knows : Nat → Int32) (a_climbed : Nat → Int32) (a_snow : Nat → Int32) (a_level : Nat → Int32) (f_begun : Int32) (f_avalanches : Int32) (x1 : Int32) (x2 : Int32) (x3 : Int32) (post : (Nat → Int32) → (Nat → Int32) → (Nat → Int32) → (Int32) → (Int32) → Prop) : Prop :=
  q_m_high_0 a_lands f_land a_at a_climbed x1 (fun r_1 => vp_in x2 5 ∧ (((a_level (Int32.toNatClampNeg x2)) < r_1 → (q_m_sings_32 a_lands f_land f_singers a_at a_knows a_climbed a_snow a_level f_begun f_avalanches x1 x2 post)) ∧ (¬ (a_level (Int32.toNatClampNeg x2)) < r_1 → ((¬ x3 = 0 → (q_m_sings_36 a_lands f_land f_singers a_at a_knows a_climbed a_snow a_level f_begun f_avalanches x1 x2 post)) ∧ (x3 = 0 → (q_m_high_0 a_lands f_land a_at a_climbed x1 (fun r_2 => vp_in x2 5 ∧ ((¬ r_2 = (a_level (Int32.toNatClampNeg x2)) → (q_m_sings_36 a_lands f_land f_singers a_at a_knows a_climbed a_snow a_level f_begun f_avalanches x1 x2 post)) ∧ (r_2 = (a_level (Int32.toNatClampNeg x2)) → (q_m_sings_32 a_lands f_land f_singers a_at a_knows a_climbed a_snow a_level f_begun f_avalanches x1 x2 post))))))))))
set_option maxRecDepth 20000 in
theorem t_m_sings_78 {p : Program} {l : Launch} {e : Env} {s : State} {m : MethodId} {args : Array Value} {below : List Frame} {meth : Method} {c : Code} {E : zE} {q : Nat} {f_code : Int32} {a_tape : Nat → Int32} {a_size : Nat → Int32} {a_fault : Nat → Int32} {a_faultPlace : Nat → Int32} {a_many : Nat → Int32} {a_lands : Nat → Int32} {a_evenings : Nat → Int32} {a_sights : Nat → Int32} {a_choirs : Nat → Int32} {f_reached : Int32} {f_length : Int32} {f_begins : Int32} {f_sort : Int32} {f_value : Int32} {f_word : Int64} {f_wrongAt : Int32} {f_laterFault : Int32} {f_laterPlace : Int32} {a_told : Nat → Int32} {a_read : Nat → Int32} {f_farHut : Int32} {f_farSinger : Int32} {f_good : Int32} {f_land : Int32} {f_huts : Int32} {f_singers : Int32} {f_evening : Int32} {a_at : Nat → Int32} {a_knows : Nat → Int32} {a_climbed : Nat → Int32} {a_snow : Nat → Int32} {a_level : Nat → Int32} {f_begun : Int32} {f_minute : Int32} {f_avalanches : Int32} {a_run : Nat → Int32} {a_covers : Nat → Int32} {a_routes : Nat → Int32} {a_longest : Nat → Int32} {a_steep : Nat → Int32} {a_laid : Nat → Int32} {a_far : Nat → Int32} {f_sight : Int32} {a_runs : Nat → Int32} {f_choir : Int32} {f_voices : Int32} {a_rest : Nat → Int64} {a_wins : Nat → Int32} {f_seed : Int32} {a_other : Nat → Int32} {a_kept : Nat → Int32} {post : (Nat → Int32) → (Nat → Int32) → (Nat → Int32) → (Int32) → (Int32) → Prop} {x1 : Int32} {x2 : Int32} {y0 : Int32} {y1 : Int32} {ls : Array Slot} {H : Heap} {locs : List Loc}
    (zc : zC p s m args meth c cX11_sings 5 RX11 none)
    (hK : zK E s)
    (hM : mW E q f_code a_tape a_size a_fault a_faultPlace a_many a_lands a_evenings a_sights a_choirs f_reached f_length f_begins f_sort f_value f_word f_wrongAt f_laterFault f_laterPlace a_told a_read f_farHut f_farSinger f_good f_land f_huts f_singers f_evening a_at a_knows a_climbed a_snow a_level f_begun f_minute f_avalanches a_run a_covers a_routes a_longest a_steep a_laid a_far f_sight a_runs f_choir f_voices a_rest a_wins f_seed a_other a_kept H)
    (hS : va_S (mA q) s.heap H locs)
    (hl : lv_has ls 5 [(0, .ref q), (1, .int x1), (2, .int x2)])
    (hw : q_m_sings_78 a_lands f_land f_singers a_at a_knows a_climbed a_snow a_level f_begun f_avalanches x1 x2 y0 y1 post) :
    W p l e rm_m_sings s m args below meth c H locs 0 0 (MQ below (zQv (S := (Nat → Int32) × (Nat → Int32) × (Nat → Int32) × (Int32) × (Int32)) (fun u => post u.1 u.2.1 u.2.2.1 u.2.2.2.1 u.2.2.2.2) (fun u H => mW E q f_code a_tape a_size a_fault a_faultPlace a_many a_lands a_evenings a_sights a_choirs f_reached f_length f_begins f_sort f_value f_word f_wrongAt f_laterFault f_laterPlace a_told a_read f_farHut f_farSinger f_good f_land f_huts f_singers f_evening a_at u.1 a_climbed u.2.1 u.2.2.1 u.2.2.2.1 f_minute u.2.2.2.2 a_run a_covers a_routes a_longest a_steep a_laid a_far f_sight a_runs f_choir f_voices a_rest a_wins f_seed a_other a_kept H) (mA q)) args s 0 0 (mA q)) (F0 m 78 ls [.int y1, .int y0, .ref q]) := by
  have hx := zc.1
  have hb := zc.2.1
  refine lv_iadd hx hb dX11_sings_78 ?_
  refine lv_topi (fun v_1 ev_1 => ?_)
  have hw := hw v_1 ev_1
  refine mp_11_346_0 zc hK hM hS dX11_sings_79 (fun H locs hM hS => ?_)
  refine lv_aload_n hx hb dX11_sings_82 rfl (lv_at hl 0 rfl) ?_
  refine lv_iload_n hx hb dX11_sings_83 rfl (lv_at hl 1 rfl) ?_
  refine lv_iload_n hx hb dX11_sings_84 rfl (lv_at hl 2 rfl) ?_
  refine zVw_v [.int x1, .int x2] [] zc ky_X11_sounds kz_X11_sounds km_11_358 (c_m_sounds l hw) (mPreV0 hK hM) hS rfl rfl hl.1 (Nat.le_of_ble_eq_true rfl) ⟨rfl, rfl⟩ ⟨Nat.le_of_ble_eq_true rfl, Nat.le_of_ble_eq_true rfl⟩ ⟨(Nat.zero_le _), (Nat.zero_le _)⟩ dX11_sings_85 (fun u H locs hw hM hS => ?_)
  obtain ⟨a_knows_1, a_level_1, f_begun_1⟩ := u
  exact zret_vw ⟨a_knows_1, a_snow, a_level_1, f_begun_1, v_1⟩ zc hS hw hM dX11_sings_88
set_option maxRecDepth 20000 in
theorem t_m_sings_61 {p : Program} {l : Launch} {e : Env} {s : State} {m : MethodId} {args : Array Value} {below : List Frame} {meth : Method} {c : Code} {E : zE} {q : Nat} {f_code : Int32} {a_tape : Nat → Int32} {a_size : Nat → Int32} {a_fault : Nat → Int32} {a_faultPlace : Nat → Int32} {a_many : Nat → Int32} {a_lands : Nat → Int32} {a_evenings : Nat → Int32} {a_sights : Nat → Int32} {a_choirs : Nat → Int32} {f_reached : Int32} {f_length : Int32} {f_begins : Int32} {f_sort : Int32} {f_value : Int32} {f_word : Int64} {f_wrongAt : Int32} {f_laterFault : Int32} {f_laterPlace : Int32} {a_told : Nat → Int32} {a_read : Nat → Int32} {f_farHut : Int32} {f_farSinger : Int32} {f_good : Int32} {f_land : Int32} {f_huts : Int32} {f_singers : Int32} {f_evening : Int32} {a_at : Nat → Int32} {a_knows : Nat → Int32} {a_climbed : Nat → Int32} {a_snow : Nat → Int32} {a_level : Nat → Int32} {f_begun : Int32} {f_minute : Int32} {f_avalanches : Int32} {a_run : Nat → Int32} {a_covers : Nat → Int32} {a_routes : Nat → Int32} {a_longest : Nat → Int32} {a_steep : Nat → Int32} {a_laid : Nat → Int32} {a_far : Nat → Int32} {f_sight : Int32} {a_runs : Nat → Int32} {f_choir : Int32} {f_voices : Int32} {a_rest : Nat → Int64} {a_wins : Nat → Int32} {f_seed : Int32} {a_other : Nat → Int32} {a_kept : Nat → Int32} {post : (Nat → Int32) → (Nat → Int32) → (Nat → Int32) → (Int32) → (Int32) → Prop} {x1 : Int32} {x2 : Int32} {x4 : Int32} {y0 : Int32} {y1 : Int32} {y2 : Int32} {ls : Array Slot} {H : Heap} {locs : List Loc}
    (zc : zC p s m args meth c cX11_sings 5 RX11 none)
    (hK : zK E s)
    (hM : mW E q f_code a_tape a_size a_fault a_faultPlace a_many a_lands a_evenings a_sights a_choirs f_reached f_length f_begins f_sort f_value f_word f_wrongAt f_laterFault f_laterPlace a_told a_read f_farHut f_farSinger f_good f_land f_huts f_singers f_evening a_at a_knows a_climbed a_snow a_level f_begun f_minute f_avalanches a_run a_covers a_routes a_longest a_steep a_laid a_far f_sight a_runs f_choir f_voices a_rest a_wins f_seed a_other a_kept H)
    (hS : va_S (mA q) s.heap H locs)
    (hl : lv_has ls 5 [(0, .ref q), (1, .int x1), (2, .int x2), (4, .int x4)])
    (hw : q_m_sings_61 a_lands f_land f_singers a_at a_knows a_climbed a_snow a_level f_begun f_avalanches x1 x2 x4 y0 y1 y2 post) :
    W p l e rm_m_sings s m args below meth c H locs 0 0 (MQ below (zQv (S := (Nat → Int32) × (Nat → Int32) × (Nat → Int32) × (Int32) × (Int32)) (fun u => post u.1 u.2.1 u.2.2.1 u.2.2.2.1 u.2.2.2.2) (fun u H => mW E q f_code a_tape a_size a_fault a_faultPlace a_many a_lands a_evenings a_sights a_choirs f_reached f_length f_begins f_sort f_value f_word f_wrongAt f_laterFault f_laterPlace a_told a_read f_farHut f_farSinger f_good f_land f_huts f_singers f_evening a_at u.1 a_climbed u.2.1 u.2.2.1 u.2.2.2.1 f_minute u.2.2.2.2 a_run a_covers a_routes a_longest a_steep a_laid a_far f_sight a_runs f_choir f_voices a_rest a_wins f_seed a_other a_kept H) (mA q)) args s 0 0 (mA q)) (F0 m 61 ls [.int y2, .int y1, .int y0, .ref (q + 15)]) := by
  have hx := zc.1
  have hb := zc.2.1
  refine lv_iadd hx hb dX11_sings_61 ?_
  refine lv_topi (fun v_1 ev_1 => ?_)
  have hw := hw v_1 ev_1
  refine mst_15 zc hK hM hS hw.1 dX11_sings_62 (fun a_snow_1 H locs ea_snow_1 hM hS => ?_)
  have hw := hw.2 a_snow_1 ea_snow_1
  refine lv_aload_n hx hb dX11_sings_63 rfl (lv_at hl 0 rfl) ?_
  refine lv_dup hx hb dX11_sings_64 rfl ?_
  refine mg_11_346_0 zc hK hM dX11_sings_65 ?_
  refine lv_iload hx hb dX11_sings_68 (lv_at hl 3 rfl) ?_
  refine lv_if_eq (tgt := 77) hx hb dX11_sings_70 (by decide) (fun hc => ?_) (fun hc => ?_)
  · have hw := hw.1 hc
    refine lv_iconst (v := (0 : Int32)) hx hb dX11_sings_77 (by decide) ?_
    exact t_m_sings_78 zc hK hM hS  (lv_sub hl [0, 1, 2] rfl) hw
  · have hw := hw.2 hc
    refine lv_iconst (v := (1 : Int32)) hx hb dX11_sings_73 (by decide) ?_
    refine lv_goto (tgt := 78) hx hb dX11_sings_74 (by decide) ?_
    exact t_m_sings_78 zc hK hM hS  (lv_sub hl [0, 1, 2] rfl) hw
set_option maxRecDepth 20000 in
theorem t_m_sings_37 {p : Program} {l : Launch} {e : Env} {s : State} {m : MethodId} {args : Array Value} {below : List Frame} {meth : Method} {c : Code} {E : zE} {q : Nat} {f_code : Int32} {a_tape : Nat → Int32} {a_size : Nat → Int32} {a_fault : Nat → Int32} {a_faultPlace : Nat → Int32} {a_many : Nat → Int32} {a_lands : Nat → Int32} {a_evenings : Nat → Int32} {a_sights : Nat → Int32} {a_choirs : Nat → Int32} {f_reached : Int32} {f_length : Int32} {f_begins : Int32} {f_sort : Int32} {f_value : Int32} {f_word : Int64} {f_wrongAt : Int32} {f_laterFault : Int32} {f_laterPlace : Int32} {a_told : Nat → Int32} {a_read : Nat → Int32} {f_farHut : Int32} {f_farSinger : Int32} {f_good : Int32} {f_land : Int32} {f_huts : Int32} {f_singers : Int32} {f_evening : Int32} {a_at : Nat → Int32} {a_knows : Nat → Int32} {a_climbed : Nat → Int32} {a_snow : Nat → Int32} {a_level : Nat → Int32} {f_begun : Int32} {f_minute : Int32} {f_avalanches : Int32} {a_run : Nat → Int32} {a_covers : Nat → Int32} {a_routes : Nat → Int32} {a_longest : Nat → Int32} {a_steep : Nat → Int32} {a_laid : Nat → Int32} {a_far : Nat → Int32} {f_sight : Int32} {a_runs : Nat → Int32} {f_choir : Int32} {f_voices : Int32} {a_rest : Nat → Int64} {a_wins : Nat → Int32} {f_seed : Int32} {a_other : Nat → Int32} {a_kept : Nat → Int32} {post : (Nat → Int32) → (Nat → Int32) → (Nat → Int32) → (Int32) → (Int32) → Prop} {x1 : Int32} {x2 : Int32} {y0 : Int32} {ls : Array Slot} {H : Heap} {locs : List Loc}
    (zc : zC p s m args meth c cX11_sings 5 RX11 none)
    (hK : zK E s)
    (hM : mW E q f_code a_tape a_size a_fault a_faultPlace a_many a_lands a_evenings a_sights a_choirs f_reached f_length f_begins f_sort f_value f_word f_wrongAt f_laterFault f_laterPlace a_told a_read f_farHut f_farSinger f_good f_land f_huts f_singers f_evening a_at a_knows a_climbed a_snow a_level f_begun f_minute f_avalanches a_run a_covers a_routes a_longest a_steep a_laid a_far f_sight a_runs f_choir f_voices a_rest a_wins f_seed a_other a_kept H)
    (hS : va_S (mA q) s.heap H locs)
    (hl : lv_has ls 5 [(0, .ref q), (1, .int x1), (2, .int x2)])
    (hw : q_m_sings_37 a_lands f_land f_singers a_at a_knows a_climbed a_snow a_level f_begun f_avalanches x1 x2 y0 post) :
    W p l e rm_m_sings s m args below meth c H locs 0 0 (MQ below (zQv (S := (Nat → Int32) × (Nat → Int32) × (Nat → Int32) × (Int32) × (Int32)) (fun u => post u.1 u.2.1 u.2.2.1 u.2.2.2.1 u.2.2.2.2) (fun u H => mW E q f_code a_tape a_size a_fault a_faultPlace a_many a_lands a_evenings a_sights a_choirs f_reached f_length f_begins f_sort f_value f_word f_wrongAt f_laterFault f_laterPlace a_told a_read f_farHut f_farSinger f_good f_land f_huts f_singers f_evening a_at u.1 a_climbed u.2.1 u.2.2.1 u.2.2.2.1 f_minute u.2.2.2.2 a_run a_covers a_routes a_longest a_steep a_laid a_far f_sight a_runs f_choir f_voices a_rest a_wins f_seed a_other a_kept H) (mA q)) args s 0 0 (mA q)) (F0 m 37 ls [.int y0]) := by
  have hx := zc.1
  have hb := zc.2.1
  refine lv_istore (lv' := [(4, .int y0), (0, .ref q), (1, .int x1), (2, .int x2)]) hx hb dX11_sings_37 hl (by decide) rfl (fun ls hl => ?_)
  refine lv_aload_n hx hb dX11_sings_39 rfl (lv_at hl 1 rfl) ?_
  refine mg_11_53_0 zc hK hM dX11_sings_40 ?_
  refine lv_aload_n hx hb dX11_sings_43 rfl (lv_at hl 1 rfl) ?_
  refine mg_11_44_0 zc hK hM dX11_sings_44 ?_
  refine lv_iload_n hx hb dX11_sings_47 rfl (lv_at hl 2 rfl) ?_
  refine mld_12 zc hK hM hw.1 dX11_sings_48 ?_
  have hw := hw.2
  refine lv_dup2_11 hx hb dX11_sings_49 rfl rfl ?_
  refine mld_15 zc hK hM hw.1 dX11_sings_50 ?_
  have hw := hw.2
  refine lv_iload hx hb dX11_sings_51 (lv_at hl 0 rfl) ?_
  refine lv_if_eq (tgt := 60) hx hb dX11_sings_53 (by decide) (fun hc => ?_) (fun hc => ?_)
  · have hw := hw.1 hc
    refine lv_iconst (v := (0 : Int32)) hx hb dX11_sings_60 (by decide) ?_
    exact t_m_sings_61 zc hK hM hS  (lv_sub hl [1, 2, 3, 0] rfl) hw
  · have hw := hw.2 hc
    refine lv_iconst (v := (1 : Int32)) hx hb dX11_sings_56 (by decide) ?_
    refine lv_goto (tgt := 61) hx hb dX11_sings_57 (by decide) ?_
    exact t_m_sings_61 zc hK hM hS  (lv_sub hl [1, 2, 3, 0] rfl) hw
set_option maxRecDepth 20000 in
theorem t_m_sings_32 {p : Program} {l : Launch} {e : Env} {s : State} {m : MethodId} {args : Array Value} {below : List Frame} {meth : Method} {c : Code} {E : zE} {q : Nat} {f_code : Int32} {a_tape : Nat → Int32} {a_size : Nat → Int32} {a_fault : Nat → Int32} {a_faultPlace : Nat → Int32} {a_many : Nat → Int32} {a_lands : Nat → Int32} {a_evenings : Nat → Int32} {a_sights : Nat → Int32} {a_choirs : Nat → Int32} {f_reached : Int32} {f_length : Int32} {f_begins : Int32} {f_sort : Int32} {f_value : Int32} {f_word : Int64} {f_wrongAt : Int32} {f_laterFault : Int32} {f_laterPlace : Int32} {a_told : Nat → Int32} {a_read : Nat → Int32} {f_farHut : Int32} {f_farSinger : Int32} {f_good : Int32} {f_land : Int32} {f_huts : Int32} {f_singers : Int32} {f_evening : Int32} {a_at : Nat → Int32} {a_knows : Nat → Int32} {a_climbed : Nat → Int32} {a_snow : Nat → Int32} {a_level : Nat → Int32} {f_begun : Int32} {f_minute : Int32} {f_avalanches : Int32} {a_run : Nat → Int32} {a_covers : Nat → Int32} {a_routes : Nat → Int32} {a_longest : Nat → Int32} {a_steep : Nat → Int32} {a_laid : Nat → Int32} {a_far : Nat → Int32} {f_sight : Int32} {a_runs : Nat → Int32} {f_choir : Int32} {f_voices : Int32} {a_rest : Nat → Int64} {a_wins : Nat → Int32} {f_seed : Int32} {a_other : Nat → Int32} {a_kept : Nat → Int32} {post : (Nat → Int32) → (Nat → Int32) → (Nat → Int32) → (Int32) → (Int32) → Prop} {x1 : Int32} {x2 : Int32} {ls : Array Slot} {H : Heap} {locs : List Loc}
    (zc : zC p s m args meth c cX11_sings 5 RX11 none)
    (hK : zK E s)
    (hM : mW E q f_code a_tape a_size a_fault a_faultPlace a_many a_lands a_evenings a_sights a_choirs f_reached f_length f_begins f_sort f_value f_word f_wrongAt f_laterFault f_laterPlace a_told a_read f_farHut f_farSinger f_good f_land f_huts f_singers f_evening a_at a_knows a_climbed a_snow a_level f_begun f_minute f_avalanches a_run a_covers a_routes a_longest a_steep a_laid a_far f_sight a_runs f_choir f_voices a_rest a_wins f_seed a_other a_kept H)
    (hS : va_S (mA q) s.heap H locs)
    (hl : lv_has ls 5 [(0, .ref q), (1, .int x1), (2, .int x2)])
    (hw : q_m_sings_32 a_lands f_land f_singers a_at a_knows a_climbed a_snow a_level f_begun f_avalanches x1 x2 post) :
    W p l e rm_m_sings s m args below meth c H locs 0 0 (MQ below (zQv (S := (Nat → Int32) × (Nat → Int32) × (Nat → Int32) × (Int32) × (Int32)) (fun u => post u.1 u.2.1 u.2.2.1 u.2.2.2.1 u.2.2.2.2) (fun u H => mW E q f_code a_tape a_size a_fault a_faultPlace a_many a_lands a_evenings a_sights a_choirs f_reached f_length f_begins f_sort f_value f_word f_wrongAt f_laterFault f_laterPlace a_told a_read f_farHut f_farSinger f_good f_land f_huts f_singers f_evening a_at u.1 a_climbed u.2.1 u.2.2.1 u.2.2.2.1 f_minute u.2.2.2.2 a_run a_covers a_routes a_longest a_steep a_laid a_far f_sight a_runs f_choir f_voices a_rest a_wins f_seed a_other a_kept H) (mA q)) args s 0 0 (mA q)) (F0 m 32 ls []) := by
  have hx := zc.1
  have hb := zc.2.1
  refine lv_iconst (v := (1 : Int32)) hx hb dX11_sings_32 (by decide) ?_
  refine lv_goto (tgt := 37) hx hb dX11_sings_33 (by decide) ?_
  exact t_m_sings_37 zc hK hM hS  (lv_sub hl [0, 1, 2] rfl) hw
set_option maxRecDepth 20000 in
theorem t_m_sings_36 {p : Program} {l : Launch} {e : Env} {s : State} {m : MethodId} {args : Array Value} {below : List Frame} {meth : Method} {c : Code} {E : zE} {q : Nat} {f_code : Int32} {a_tape : Nat → Int32} {a_size : Nat → Int32} {a_fault : Nat → Int32} {a_faultPlace : Nat → Int32} {a_many : Nat → Int32} {a_lands : Nat → Int32} {a_evenings : Nat → Int32} {a_sights : Nat → Int32} {a_choirs : Nat → Int32} {f_reached : Int32} {f_length : Int32} {f_begins : Int32} {f_sort : Int32} {f_value : Int32} {f_word : Int64} {f_wrongAt : Int32} {f_laterFault : Int32} {f_laterPlace : Int32} {a_told : Nat → Int32} {a_read : Nat → Int32} {f_farHut : Int32} {f_farSinger : Int32} {f_good : Int32} {f_land : Int32} {f_huts : Int32} {f_singers : Int32} {f_evening : Int32} {a_at : Nat → Int32} {a_knows : Nat → Int32} {a_climbed : Nat → Int32} {a_snow : Nat → Int32} {a_level : Nat → Int32} {f_begun : Int32} {f_minute : Int32} {f_avalanches : Int32} {a_run : Nat → Int32} {a_covers : Nat → Int32} {a_routes : Nat → Int32} {a_longest : Nat → Int32} {a_steep : Nat → Int32} {a_laid : Nat → Int32} {a_far : Nat → Int32} {f_sight : Int32} {a_runs : Nat → Int32} {f_choir : Int32} {f_voices : Int32} {a_rest : Nat → Int64} {a_wins : Nat → Int32} {f_seed : Int32} {a_other : Nat → Int32} {a_kept : Nat → Int32} {post : (Nat → Int32) → (Nat → Int32) → (Nat → Int32) → (Int32) → (Int32) → Prop} {x1 : Int32} {x2 : Int32} {ls : Array Slot} {H : Heap} {locs : List Loc}
    (zc : zC p s m args meth c cX11_sings 5 RX11 none)
    (hK : zK E s)
    (hM : mW E q f_code a_tape a_size a_fault a_faultPlace a_many a_lands a_evenings a_sights a_choirs f_reached f_length f_begins f_sort f_value f_word f_wrongAt f_laterFault f_laterPlace a_told a_read f_farHut f_farSinger f_good f_land f_huts f_singers f_evening a_at a_knows a_climbed a_snow a_level f_begun f_minute f_avalanches a_run a_covers a_routes a_longest a_steep a_laid a_far f_sight a_runs f_choir f_voices a_rest a_wins f_seed a_other a_kept H)
    (hS : va_S (mA q) s.heap H locs)
    (hl : lv_has ls 5 [(0, .ref q), (1, .int x1), (2, .int x2)])
    (hw : q_m_sings_36 a_lands f_land f_singers a_at a_knows a_climbed a_snow a_level f_begun f_avalanches x1 x2 post) :
    W p l e rm_m_sings s m args below meth c H locs 0 0 (MQ below (zQv (S := (Nat → Int32) × (Nat → Int32) × (Nat → Int32) × (Int32) × (Int32)) (fun u => post u.1 u.2.1 u.2.2.1 u.2.2.2.1 u.2.2.2.2) (fun u H => mW E q f_code a_tape a_size a_fault a_faultPlace a_many a_lands a_evenings a_sights a_choirs f_reached f_length f_begins f_sort f_value f_word f_wrongAt f_laterFault f_laterPlace a_told a_read f_farHut f_farSinger f_good f_land f_huts f_singers f_evening a_at u.1 a_climbed u.2.1 u.2.2.1 u.2.2.2.1 f_minute u.2.2.2.2 a_run a_covers a_routes a_longest a_steep a_laid a_far f_sight a_runs f_choir f_voices a_rest a_wins f_seed a_other a_kept H) (mA q)) args s 0 0 (mA q)) (F0 m 36 ls []) := by
  have hx := zc.1
  have hb := zc.2.1
  refine lv_iconst (v := (0 : Int32)) hx hb dX11_sings_36 (by decide) ?_
  exact t_m_sings_37 zc hK hM hS  (lv_sub hl [0, 1, 2] rfl) hw
set_option maxRecDepth 20000 in
theorem t_m_sings_0 {p : Program} {l : Launch} {e : Env} {s : State} {m : MethodId} {args : Array Value} {below : List Frame} {meth : Method} {c : Code} {E : zE} {q : Nat} {f_code : Int32} {a_tape : Nat → Int32} {a_size : Nat → Int32} {a_fault : Nat → Int32} {a_faultPlace : Nat → Int32} {a_many : Nat → Int32} {a_lands : Nat → Int32} {a_evenings : Nat → Int32} {a_sights : Nat → Int32} {a_choirs : Nat → Int32} {f_reached : Int32} {f_length : Int32} {f_begins : Int32} {f_sort : Int32} {f_value : Int32} {f_word : Int64} {f_wrongAt : Int32} {f_laterFault : Int32} {f_laterPlace : Int32} {a_told : Nat → Int32} {a_read : Nat → Int32} {f_farHut : Int32} {f_farSinger : Int32} {f_good : Int32} {f_land : Int32} {f_huts : Int32} {f_singers : Int32} {f_evening : Int32} {a_at : Nat → Int32} {a_knows : Nat → Int32} {a_climbed : Nat → Int32} {a_snow : Nat → Int32} {a_level : Nat → Int32} {f_begun : Int32} {f_minute : Int32} {f_avalanches : Int32} {a_run : Nat → Int32} {a_covers : Nat → Int32} {a_routes : Nat → Int32} {a_longest : Nat → Int32} {a_steep : Nat → Int32} {a_laid : Nat → Int32} {a_far : Nat → Int32} {f_sight : Int32} {a_runs : Nat → Int32} {f_choir : Int32} {f_voices : Int32} {a_rest : Nat → Int64} {a_wins : Nat → Int32} {f_seed : Int32} {a_other : Nat → Int32} {a_kept : Nat → Int32} {post : (Nat → Int32) → (Nat → Int32) → (Nat → Int32) → (Int32) → (Int32) → Prop} {x1 : Int32} {x2 : Int32} {x3 : Int32} {ls : Array Slot} {H : Heap} {locs : List Loc}
    (zc : zC p s m args meth c cX11_sings 5 RX11 none)
    (hK : zK E s)
    (hM : mW E q f_code a_tape a_size a_fault a_faultPlace a_many a_lands a_evenings a_sights a_choirs f_reached f_length f_begins f_sort f_value f_word f_wrongAt f_laterFault f_laterPlace a_told a_read f_farHut f_farSinger f_good f_land f_huts f_singers f_evening a_at a_knows a_climbed a_snow a_level f_begun f_minute f_avalanches a_run a_covers a_routes a_longest a_steep a_laid a_far f_sight a_runs f_choir f_voices a_rest a_wins f_seed a_other a_kept H)
    (hS : va_S (mA q) s.heap H locs)
    (hl : lv_has ls 5 [(0, .ref q), (1, .int x1), (2, .int x2), (3, .int x3)])
    (hw : q_m_sings_0 a_lands f_land f_singers a_at a_knows a_climbed a_snow a_level f_begun f_avalanches x1 x2 x3 post) :
    W p l e rm_m_sings s m args below meth c H locs 0 0 (MQ below (zQv (S := (Nat → Int32) × (Nat → Int32) × (Nat → Int32) × (Int32) × (Int32)) (fun u => post u.1 u.2.1 u.2.2.1 u.2.2.2.1 u.2.2.2.2) (fun u H => mW E q f_code a_tape a_size a_fault a_faultPlace a_many a_lands a_evenings a_sights a_choirs f_reached f_length f_begins f_sort f_value f_word f_wrongAt f_laterFault f_laterPlace a_told a_read f_farHut f_farSinger f_good f_land f_huts f_singers f_evening a_at u.1 a_climbed u.2.1 u.2.2.1 u.2.2.2.1 f_minute u.2.2.2.2 a_run a_covers a_routes a_longest a_steep a_laid a_far f_sight a_runs f_choir f_voices a_rest a_wins f_seed a_other a_kept H) (mA q)) args s 0 0 (mA q)) (F0 m 0 ls []) := by
  have hx := zc.1
  have hb := zc.2.1
  refine lv_aload_n hx hb dX11_sings_0 rfl (lv_at hl 0 rfl) ?_
  refine lv_iload_n hx hb dX11_sings_1 rfl (lv_at hl 1 rfl) ?_
  refine zV_i [.int x1] [] zc ky_X11_high kz_X11_high km_11_352 (c_m_high l hw) (mPreV0 hK hM) rfl rfl hl.1 (Nat.le_of_ble_eq_true rfl) ⟨rfl, rfl⟩ ⟨Nat.le_of_ble_eq_true rfl, Nat.le_of_ble_eq_true rfl⟩ ⟨(Nat.zero_le _), (Nat.zero_le _)⟩ dX11_sings_2 (fun r_1 hw => ?_)
  refine lv_aload_n hx hb dX11_sings_5 rfl (lv_at hl 0 rfl) ?_
  refine mg_11_56_0 zc hK hM dX11_sings_6 ?_
  refine lv_iload_n hx hb dX11_sings_9 rfl (lv_at hl 2 rfl) ?_
  refine mld_16 zc hK hM hw.1 dX11_sings_10 ?_
  have hw := hw.2
  refine lv_icmp_gt (tgt := 32) hx hb dX11_sings_11 (by decide) (fun hc => ?_) (fun hc => ?_)
  · have hw := hw.1 hc
    exact t_m_sings_32 zc hK hM hS  (lv_sub hl [0, 1, 2] rfl) hw
  · have hw := hw.2 hc
    refine lv_iload_n hx hb dX11_sings_14 rfl (lv_at hl 3 rfl) ?_
    refine lv_if_ne (tgt := 36) hx hb dX11_sings_15 (by decide) (fun hc => ?_) (fun hc => ?_)
    · have hw := hw.1 hc
      exact t_m_sings_36 zc hK hM hS  (lv_sub hl [0, 1, 2] rfl) hw
    · have hw := hw.2 hc
      refine lv_aload_n hx hb dX11_sings_18 rfl (lv_at hl 0 rfl) ?_
      refine lv_iload_n hx hb dX11_sings_19 rfl (lv_at hl 1 rfl) ?_
      refine zV_i [.int x1] [] zc ky_X11_high kz_X11_high km_11_352 (c_m_high l hw) (mPreV0 hK hM) rfl rfl hl.1 (Nat.le_of_ble_eq_true rfl) ⟨rfl, rfl⟩ ⟨Nat.le_of_ble_eq_true rfl, Nat.le_of_ble_eq_true rfl⟩ ⟨(Nat.zero_le _), (Nat.zero_le _)⟩ dX11_sings_20 (fun r_2 hw => ?_)
      refine lv_aload_n hx hb dX11_sings_23 rfl (lv_at hl 0 rfl) ?_
      refine mg_11_56_0 zc hK hM dX11_sings_24 ?_
      refine lv_iload_n hx hb dX11_sings_27 rfl (lv_at hl 2 rfl) ?_
      refine mld_16 zc hK hM hw.1 dX11_sings_28 ?_
      have hw := hw.2
      refine lv_icmp_ne (tgt := 36) hx hb dX11_sings_29 (by decide) (fun hc => ?_) (fun hc => ?_)
      · have hw := hw.1 hc
        exact t_m_sings_36 zc hK hM hS  (lv_sub hl [0, 1, 2] rfl) hw
      · have hw := hw.2 hc
        exact t_m_sings_32 zc hK hM hS  (lv_sub hl [0, 1, 2] rfl) hw
set_option maxRecDepth 20000 in
theorem c_m_sings (l : Launch) {E : zE} {q : Nat} {f_code : Int32} {a_tape : Nat → Int32} {a_size : Nat → Int32} {a_fault : Nat → Int32} {a_faultPlace : Nat → Int32} {a_many : Nat → Int32} {a_lands : Nat → Int32} {a_evenings : Nat → Int32} {a_sights : Nat → Int32} {a_choirs : Nat → Int32} {f_reached : Int32} {f_length : Int32} {f_begins : Int32} {f_sort : Int32} {f_value : Int32} {f_word : Int64} {f_wrongAt : Int32} {f_laterFault : Int32} {f_laterPlace : Int32} {a_told : Nat → Int32} {a_read : Nat → Int32} {f_farHut : Int32} {f_farSinger : Int32} {f_good : Int32} {f_land : Int32} {f_huts : Int32} {f_singers : Int32} {f_evening : Int32} {a_at : Nat → Int32} {a_knows : Nat → Int32} {a_climbed : Nat → Int32} {a_snow : Nat → Int32} {a_level : Nat → Int32} {f_begun : Int32} {f_minute : Int32} {f_avalanches : Int32} {a_run : Nat → Int32} {a_covers : Nat → Int32} {a_routes : Nat → Int32} {a_longest : Nat → Int32} {a_steep : Nat → Int32} {a_laid : Nat → Int32} {a_far : Nat → Int32} {f_sight : Int32} {a_runs : Nat → Int32} {f_choir : Int32} {f_voices : Int32} {a_rest : Nat → Int64} {a_wins : Nat → Int32} {f_seed : Int32} {a_other : Nat → Int32} {a_kept : Nat → Int32} {x1 : Int32} {x2 : Int32} {x3 : Int32} {post : (Nat → Int32) → (Nat → Int32) → (Nat → Int32) → (Int32) → (Int32) → Prop} (hw : q_m_sings_0 a_lands f_land f_singers a_at a_knows a_climbed a_snow a_level f_begun f_avalanches x1 x2 x3 post) : Met l yX11_sings (Cond.code yX11_sings cX11_sings 5 none :: zb) rm_m_sings (va_Pc [.ref q, .int x1, .int x2, .int x3] (fun U => mW E q f_code a_tape a_size a_fault a_faultPlace a_many a_lands a_evenings a_sights a_choirs f_reached f_length f_begins f_sort f_value f_word f_wrongAt f_laterFault f_laterPlace a_told a_read f_farHut f_farSinger f_good f_land f_huts f_singers f_evening a_at a_knows a_climbed a_snow a_level f_begun f_minute f_avalanches a_run a_covers a_routes a_longest a_steep a_laid a_far f_sight a_runs f_choir f_voices a_rest a_wins f_seed a_other a_kept U.heap ∧ zK E U)) (zQv (S := (Nat → Int32) × (Nat → Int32) × (Nat → Int32) × (Int32) × (Int32)) (fun u => post u.1 u.2.1 u.2.2.1 u.2.2.2.1 u.2.2.2.2) (fun u H => mW E q f_code a_tape a_size a_fault a_faultPlace a_many a_lands a_evenings a_sights a_choirs f_reached f_length f_begins f_sort f_value f_word f_wrongAt f_laterFault f_laterPlace a_told a_read f_farHut f_farSinger f_good f_land f_huts f_singers f_evening a_at u.1 a_climbed u.2.1 u.2.2.1 u.2.2.2.1 f_minute u.2.2.2.2 a_run a_covers a_routes a_longest a_steep a_laid a_far f_sight a_runs f_choir f_voices a_rest a_wins f_seed a_other a_kept H) (mA q)) 0 0 (mA q) := by
  refine Met.ofW (cc := cX11_sings) (maxL := 5) (ret := none) (by decide) rfl ?_
  intro p e s m args below meth c s₁ B hml hv
  obtain ⟨rfl, hM, hK⟩ := hv
  have zc := zc_of B hml
  have hl := lv_entry ([.ref q, .int x1, .int x2, .int x3]) (n := 5) (Nat.le_of_ble_eq_true rfl)
  rw [lg_entry_eq]
  generalize (lg_sl ([.ref q, .int x1, .int x2, .int x3]) ++ List.replicate (5 - (lg_sl ([.ref q, .int x1, .int x2, .int x3])).length) Slot.unset).toArray = ls at hl ⊢
  have hl : lv_has ls 5 [(0, .ref q), (1, .int x1), (2, .int x2), (3, .int x3)] := hl
  exact t_m_sings_0 zc hK hM va_S.rf (lv_sub hl [0, 1, 2, 3] rfl) hw
end
section
-- m_walks
abbrev rm_m_walks : Room := { frames := 2, cells := 0, slots := 0, locals := 43 }
def q_m_walks_23 (a_lands : Nat → Int32) (f_land : Int32) (f_huts : Int32) (a_at : Nat → Int32) (a_climbed : Nat → Int32) (a_snow : Nat → Int32) (f_minute : Int32) (x1 : Int32) (x2 : Int32) (y0 : Int32) (post : Int32 → (Nat → Int32) → (Int32) → Prop) : Prop :=
  (y0 = 0 → (post (0 : Int32) a_at f_minute)) ∧ (¬ y0 = 0 → (vp_in x1 6 ∧ (((a_climbed (Int32.toNatClampNeg x1)) = (1 : Int32) → (post (0 : Int32) a_at f_minute)) ∧ (¬ (a_climbed (Int32.toNatClampNeg x1)) = (1 : Int32) → (vp_in x1 6 ∧ (q_m_isCut_0 a_lands f_land a_snow (a_at (Int32.toNatClampNeg x1)) (fun r_1 => (¬ r_1 = 0 → (post (0 : Int32) a_at f_minute)) ∧ (r_1 = 0 → (q_m_isCut_0 a_lands f_land a_snow x2 (fun r_2 => (r_2 = 0 → (vp_in x1 6 ∧ (∀ a_at_1 : Nat → Int32, a_at_1 = upd a_at (Int32.toNatClampNeg x1) x2 → (∀ v_1 : Int32, v_1 = (f_minute + y0) → (post (1 : Int32) a_at_1 v_1))))) ∧ (¬ r_2 = 0 → (post (0 : Int32) a_at f_minute))))))))))))
def q_m_walks_0 (a_lands : Nat → Int32) (f_land : Int32) (f_huts : Int32) (a_at : Nat → Int32) (a_climbed : Nat → Int32) (a_snow : Nat → Int32) (f_minute : Int32) (x1 : Int32) (x2 : Int32) (post : Int32 → (Nat → Int32) → (Int32) → Prop) : Prop :=
  q_m_isHut_0 f_huts x2 (fun r_1 => (r_1 = 0 → (q_m_walks_23 a_lands f_land f_huts a_at a_climbed a_snow f_minute x1 x2 (0 : Int32) post)) ∧ (¬ r_1 = 0 → (vp_in x1 6 ∧ (q_m_way_0 a_lands f_land (a_at (Int32.toNatClampNeg x1)) x2 (fun r_2 => q_m_walks_23 a_lands f_land f_huts a_at a_climbed a_snow f_minute x1 x2 r_2 post)))))
set_option maxRecDepth 20000 in
theorem t_m_walks_23 {p : Program} {l : Launch} {e : Env} {s : State} {m : MethodId} {args : Array Value} {below : List Frame} {meth : Method} {c : Code} {E : zE} {q : Nat} {f_code : Int32} {a_tape : Nat → Int32} {a_size : Nat → Int32} {a_fault : Nat → Int32} {a_faultPlace : Nat → Int32} {a_many : Nat → Int32} {a_lands : Nat → Int32} {a_evenings : Nat → Int32} {a_sights : Nat → Int32} {a_choirs : Nat → Int32} {f_reached : Int32} {f_length : Int32} {f_begins : Int32} {f_sort : Int32} {f_value : Int32} {f_word : Int64} {f_wrongAt : Int32} {f_laterFault : Int32} {f_laterPlace : Int32} {a_told : Nat → Int32} {a_read : Nat → Int32} {f_farHut : Int32} {f_farSinger : Int32} {f_good : Int32} {f_land : Int32} {f_huts : Int32} {f_singers : Int32} {f_evening : Int32} {a_at : Nat → Int32} {a_knows : Nat → Int32} {a_climbed : Nat → Int32} {a_snow : Nat → Int32} {a_level : Nat → Int32} {f_begun : Int32} {f_minute : Int32} {f_avalanches : Int32} {a_run : Nat → Int32} {a_covers : Nat → Int32} {a_routes : Nat → Int32} {a_longest : Nat → Int32} {a_steep : Nat → Int32} {a_laid : Nat → Int32} {a_far : Nat → Int32} {f_sight : Int32} {a_runs : Nat → Int32} {f_choir : Int32} {f_voices : Int32} {a_rest : Nat → Int64} {a_wins : Nat → Int32} {f_seed : Int32} {a_other : Nat → Int32} {a_kept : Nat → Int32} {post : Int32 → (Nat → Int32) → (Int32) → Prop} {x1 : Int32} {x2 : Int32} {y0 : Int32} {ls : Array Slot} {H : Heap} {locs : List Loc}
    (zc : zC p s m args meth c cX11_walks 4 RX11 (some .boolean))
    (hK : zK E s)
    (hM : mW E q f_code a_tape a_size a_fault a_faultPlace a_many a_lands a_evenings a_sights a_choirs f_reached f_length f_begins f_sort f_value f_word f_wrongAt f_laterFault f_laterPlace a_told a_read f_farHut f_farSinger f_good f_land f_huts f_singers f_evening a_at a_knows a_climbed a_snow a_level f_begun f_minute f_avalanches a_run a_covers a_routes a_longest a_steep a_laid a_far f_sight a_runs f_choir f_voices a_rest a_wins f_seed a_other a_kept H)
    (hS : va_S (mA q) s.heap H locs)
    (hl : lv_has ls 4 [(0, .ref q), (1, .int x1), (2, .int x2)])
    (hw : q_m_walks_23 a_lands f_land f_huts a_at a_climbed a_snow f_minute x1 x2 y0 post) :
    W p l e rm_m_walks s m args below meth c H locs 0 0 (MQ below (zQi (S := (Nat → Int32) × (Int32)) (fun r u => post r u.1 u.2) (fun u H => mW E q f_code a_tape a_size a_fault a_faultPlace a_many a_lands a_evenings a_sights a_choirs f_reached f_length f_begins f_sort f_value f_word f_wrongAt f_laterFault f_laterPlace a_told a_read f_farHut f_farSinger f_good f_land f_huts f_singers f_evening u.1 a_knows a_climbed a_snow a_level f_begun u.2 f_avalanches a_run a_covers a_routes a_longest a_steep a_laid a_far f_sight a_runs f_choir f_voices a_rest a_wins f_seed a_other a_kept H) (mA q)) args s 0 0 (mA q)) (F0 m 23 ls [.int y0]) := by
  have hx := zc.1
  have hb := zc.2.1
  refine lv_istore_n (lv' := [(3, .int y0), (0, .ref q), (1, .int x1), (2, .int x2)]) hx hb dX11_walks_23 rfl hl (by decide) rfl (fun ls hl => ?_)
  refine lv_iload_n hx hb dX11_walks_24 rfl (lv_at hl 0 rfl) ?_
  refine lv_if_eq (tgt := 59) hx hb dX11_walks_25 (by decide) (fun hc => ?_) (fun hc => ?_)
  · have hw := hw.1 hc
    refine lv_iconst (v := (0 : Int32)) hx hb dX11_walks_59 (by decide) ?_
    exact zret_zw ⟨a_at, f_minute⟩ zc hS rfl hw hM dX11_walks_60
  · have hw := hw.2 hc
    refine lv_aload_n hx hb dX11_walks_28 rfl (lv_at hl 1 rfl) ?_
    refine mg_11_50_0 zc hK hM dX11_walks_29 ?_
    refine lv_iload_n hx hb dX11_walks_32 rfl (lv_at hl 2 rfl) ?_
    refine mld_14 zc hK hM hw.1 dX11_walks_33 ?_
    have hw := hw.2
    refine lv_iconst (v := (1 : Int32)) hx hb dX11_walks_34 (by decide) ?_
    refine lv_icmp_eq (tgt := 59) hx hb dX11_walks_35 (by decide) (fun hc => ?_) (fun hc => ?_)
    · have hw := hw.1 hc
      refine lv_iconst (v := (0 : Int32)) hx hb dX11_walks_59 (by decide) ?_
      exact zret_zw ⟨a_at, f_minute⟩ zc hS rfl hw hM dX11_walks_60
    · have hw := hw.2 hc
      refine lv_aload_n hx hb dX11_walks_38 rfl (lv_at hl 1 rfl) ?_
      refine lv_aload_n hx hb dX11_walks_39 rfl (lv_at hl 1 rfl) ?_
      refine mg_11_44_0 zc hK hM dX11_walks_40 ?_
      refine lv_iload_n hx hb dX11_walks_43 rfl (lv_at hl 2 rfl) ?_
      refine mld_12 zc hK hM hw.1 dX11_walks_44 ?_
      have hw := hw.2
      refine zV_i [.int (a_at (Int32.toNatClampNeg x1))] [] zc ky_X11_isCut kz_X11_isCut km_11_361 (c_m_isCut l hw) (mPreV0 hK hM) rfl rfl hl.1 (Nat.le_of_ble_eq_true rfl) ⟨rfl, rfl⟩ ⟨Nat.le_of_ble_eq_true rfl, Nat.le_of_ble_eq_true rfl⟩ ⟨(Nat.zero_le _), (Nat.zero_le _)⟩ dX11_walks_45 (fun r_1 hw => ?_)
      refine lv_if_ne (tgt := 59) hx hb dX11_walks_48 (by decide) (fun hc => ?_) (fun hc => ?_)
      · have hw := hw.1 hc
        refine lv_iconst (v := (0 : Int32)) hx hb dX11_walks_59 (by decide) ?_
        exact zret_zw ⟨a_at, f_minute⟩ zc hS rfl hw hM dX11_walks_60
      · have hw := hw.2 hc
        refine lv_aload_n hx hb dX11_walks_51 rfl (lv_at hl 1 rfl) ?_
        refine lv_iload_n hx hb dX11_walks_52 rfl (lv_at hl 3 rfl) ?_
        refine zV_i [.int x2] [] zc ky_X11_isCut kz_X11_isCut km_11_361 (c_m_isCut l hw) (mPreV0 hK hM) rfl rfl hl.1 (Nat.le_of_ble_eq_true rfl) ⟨rfl, rfl⟩ ⟨Nat.le_of_ble_eq_true rfl, Nat.le_of_ble_eq_true rfl⟩ ⟨(Nat.zero_le _), (Nat.zero_le _)⟩ dX11_walks_53 (fun r_2 hw => ?_)
        refine lv_if_eq (tgt := 61) hx hb dX11_walks_56 (by decide) (fun hc => ?_) (fun hc => ?_)
        · have hw := hw.1 hc
          refine lv_aload_n hx hb dX11_walks_61 rfl (lv_at hl 1 rfl) ?_
          refine mg_11_44_0 zc hK hM dX11_walks_62 ?_
          refine lv_iload_n hx hb dX11_walks_65 rfl (lv_at hl 2 rfl) ?_
          refine lv_iload_n hx hb dX11_walks_66 rfl (lv_at hl 3 rfl) ?_
          refine mst_12 zc hK hM hS hw.1 dX11_walks_67 (fun a_at_1 H locs ea_at_1 hM hS => ?_)
          have hw := hw.2 a_at_1 ea_at_1
          refine lv_aload_n hx hb dX11_walks_68 rfl (lv_at hl 1 rfl) ?_
          refine lv_dup hx hb dX11_walks_69 rfl ?_
          refine mg_11_343_0 zc hK hM dX11_walks_70 ?_
          refine lv_iload_n hx hb dX11_walks_73 rfl (lv_at hl 0 rfl) ?_
          refine lv_iadd hx hb dX11_walks_74 ?_
          refine lv_topi (fun v_1 ev_1 => ?_)
          have hw := hw v_1 ev_1
          refine mp_11_343_0 zc hK hM hS dX11_walks_75 (fun H locs hM hS => ?_)
          refine lv_iconst (v := (1 : Int32)) hx hb dX11_walks_78 (by decide) ?_
          exact zret_zw ⟨a_at_1, v_1⟩ zc hS rfl hw hM dX11_walks_79
        · have hw := hw.2 hc
          refine lv_iconst (v := (0 : Int32)) hx hb dX11_walks_59 (by decide) ?_
          exact zret_zw ⟨a_at, f_minute⟩ zc hS rfl hw hM dX11_walks_60
set_option maxRecDepth 20000 in
theorem t_m_walks_0 {p : Program} {l : Launch} {e : Env} {s : State} {m : MethodId} {args : Array Value} {below : List Frame} {meth : Method} {c : Code} {E : zE} {q : Nat} {f_code : Int32} {a_tape : Nat → Int32} {a_size : Nat → Int32} {a_fault : Nat → Int32} {a_faultPlace : Nat → Int32} {a_many : Nat → Int32} {a_lands : Nat → Int32} {a_evenings : Nat → Int32} {a_sights : Nat → Int32} {a_choirs : Nat → Int32} {f_reached : Int32} {f_length : Int32} {f_begins : Int32} {f_sort : Int32} {f_value : Int32} {f_word : Int64} {f_wrongAt : Int32} {f_laterFault : Int32} {f_laterPlace : Int32} {a_told : Nat → Int32} {a_read : Nat → Int32} {f_farHut : Int32} {f_farSinger : Int32} {f_good : Int32} {f_land : Int32} {f_huts : Int32} {f_singers : Int32} {f_evening : Int32} {a_at : Nat → Int32} {a_knows : Nat → Int32} {a_climbed : Nat → Int32} {a_snow : Nat → Int32} {a_level : Nat → Int32} {f_begun : Int32} {f_minute : Int32} {f_avalanches : Int32} {a_run : Nat → Int32} {a_covers : Nat → Int32} {a_routes : Nat → Int32} {a_longest : Nat → Int32} {a_steep : Nat → Int32} {a_laid : Nat → Int32} {a_far : Nat → Int32} {f_sight : Int32} {a_runs : Nat → Int32} {f_choir : Int32} {f_voices : Int32} {a_rest : Nat → Int64} {a_wins : Nat → Int32} {f_seed : Int32} {a_other : Nat → Int32} {a_kept : Nat → Int32} {post : Int32 → (Nat → Int32) → (Int32) → Prop} {x1 : Int32} {x2 : Int32} {ls : Array Slot} {H : Heap} {locs : List Loc}
    (zc : zC p s m args meth c cX11_walks 4 RX11 (some .boolean))
    (hK : zK E s)
    (hM : mW E q f_code a_tape a_size a_fault a_faultPlace a_many a_lands a_evenings a_sights a_choirs f_reached f_length f_begins f_sort f_value f_word f_wrongAt f_laterFault f_laterPlace a_told a_read f_farHut f_farSinger f_good f_land f_huts f_singers f_evening a_at a_knows a_climbed a_snow a_level f_begun f_minute f_avalanches a_run a_covers a_routes a_longest a_steep a_laid a_far f_sight a_runs f_choir f_voices a_rest a_wins f_seed a_other a_kept H)
    (hS : va_S (mA q) s.heap H locs)
    (hl : lv_has ls 4 [(0, .ref q), (1, .int x1), (2, .int x2)])
    (hw : q_m_walks_0 a_lands f_land f_huts a_at a_climbed a_snow f_minute x1 x2 post) :
    W p l e rm_m_walks s m args below meth c H locs 0 0 (MQ below (zQi (S := (Nat → Int32) × (Int32)) (fun r u => post r u.1 u.2) (fun u H => mW E q f_code a_tape a_size a_fault a_faultPlace a_many a_lands a_evenings a_sights a_choirs f_reached f_length f_begins f_sort f_value f_word f_wrongAt f_laterFault f_laterPlace a_told a_read f_farHut f_farSinger f_good f_land f_huts f_singers f_evening u.1 a_knows a_climbed a_snow a_level f_begun u.2 f_avalanches a_run a_covers a_routes a_longest a_steep a_laid a_far f_sight a_runs f_choir f_voices a_rest a_wins f_seed a_other a_kept H) (mA q)) args s 0 0 (mA q)) (F0 m 0 ls []) := by
  have hx := zc.1
  have hb := zc.2.1
  refine lv_aload_n hx hb dX11_walks_0 rfl (lv_at hl 0 rfl) ?_
  refine lv_iload_n hx hb dX11_walks_1 rfl (lv_at hl 2 rfl) ?_
  refine zV_i [.int x2] [] zc ky_X11_isHut kz_X11_isHut km_11_316 (c_m_isHut l hw) (mPreV0 hK hM) rfl rfl hl.1 (Nat.le_of_ble_eq_true rfl) ⟨rfl, rfl⟩ ⟨Nat.le_of_ble_eq_true rfl, Nat.le_of_ble_eq_true rfl⟩ ⟨(Nat.zero_le _), (Nat.zero_le _)⟩ dX11_walks_2 (fun r_1 hw => ?_)
  refine lv_if_eq (tgt := 22) hx hb dX11_walks_5 (by decide) (fun hc => ?_) (fun hc => ?_)
  · have hw := hw.1 hc
    refine lv_iconst (v := (0 : Int32)) hx hb dX11_walks_22 (by decide) ?_
    exact t_m_walks_23 zc hK hM hS  (lv_sub hl [0, 1, 2] rfl) hw
  · have hw := hw.2 hc
    refine lv_aload_n hx hb dX11_walks_8 rfl (lv_at hl 0 rfl) ?_
    refine lv_aload_n hx hb dX11_walks_9 rfl (lv_at hl 0 rfl) ?_
    refine mg_11_44_0 zc hK hM dX11_walks_10 ?_
    refine lv_iload_n hx hb dX11_walks_13 rfl (lv_at hl 1 rfl) ?_
    refine mld_12 zc hK hM hw.1 dX11_walks_14 ?_
    have hw := hw.2
    refine lv_iload_n hx hb dX11_walks_15 rfl (lv_at hl 2 rfl) ?_
    refine zV_i [.int (a_at (Int32.toNatClampNeg x1)), .int x2] [] zc ky_X11_way kz_X11_way km_11_319 (c_m_way l hw) (mPreV0 hK hM) rfl rfl hl.1 (Nat.le_of_ble_eq_true rfl) ⟨rfl, rfl⟩ ⟨Nat.le_of_ble_eq_true rfl, Nat.le_of_ble_eq_true rfl⟩ ⟨(Nat.zero_le _), (Nat.zero_le _)⟩ dX11_walks_16 (fun r_2 hw => ?_)
    refine lv_goto (tgt := 23) hx hb dX11_walks_19 (by decide) ?_
    exact t_m_walks_23 zc hK hM hS  (lv_sub hl [0, 1, 2] rfl) hw
set_option maxRecDepth 20000 in
theorem c_m_walks (l : Launch) {E : zE} {q : Nat} {f_code : Int32} {a_tape : Nat → Int32} {a_size : Nat → Int32} {a_fault : Nat → Int32} {a_faultPlace : Nat → Int32} {a_many : Nat → Int32} {a_lands : Nat → Int32} {a_evenings : Nat → Int32} {a_sights : Nat → Int32} {a_choirs : Nat → Int32} {f_reached : Int32} {f_length : Int32} {f_begins : Int32} {f_sort : Int32} {f_value : Int32} {f_word : Int64} {f_wrongAt : Int32} {f_laterFault : Int32} {f_laterPlace : Int32} {a_told : Nat → Int32} {a_read : Nat → Int32} {f_farHut : Int32} {f_farSinger : Int32} {f_good : Int32} {f_land : Int32} {f_huts : Int32} {f_singers : Int32} {f_evening : Int32} {a_at : Nat → Int32} {a_knows : Nat → Int32} {a_climbed : Nat → Int32} {a_snow : Nat → Int32} {a_level : Nat → Int32} {f_begun : Int32} {f_minute : Int32} {f_avalanches : Int32} {a_run : Nat → Int32} {a_covers : Nat → Int32} {a_routes : Nat → Int32} {a_longest : Nat → Int32} {a_steep : Nat → Int32} {a_laid : Nat → Int32} {a_far : Nat → Int32} {f_sight : Int32} {a_runs : Nat → Int32} {f_choir : Int32} {f_voices : Int32} {a_rest : Nat → Int64} {a_wins : Nat → Int32} {f_seed : Int32} {a_other : Nat → Int32} {a_kept : Nat → Int32} {x1 : Int32} {x2 : Int32} {post : Int32 → (Nat → Int32) → (Int32) → Prop} (hw : q_m_walks_0 a_lands f_land f_huts a_at a_climbed a_snow f_minute x1 x2 post) : Met l yX11_walks (Cond.code yX11_walks cX11_walks 4 (some .boolean) :: zb) rm_m_walks (va_Pc [.ref q, .int x1, .int x2] (fun U => mW E q f_code a_tape a_size a_fault a_faultPlace a_many a_lands a_evenings a_sights a_choirs f_reached f_length f_begins f_sort f_value f_word f_wrongAt f_laterFault f_laterPlace a_told a_read f_farHut f_farSinger f_good f_land f_huts f_singers f_evening a_at a_knows a_climbed a_snow a_level f_begun f_minute f_avalanches a_run a_covers a_routes a_longest a_steep a_laid a_far f_sight a_runs f_choir f_voices a_rest a_wins f_seed a_other a_kept U.heap ∧ zK E U)) (zQi (S := (Nat → Int32) × (Int32)) (fun r u => post r u.1 u.2) (fun u H => mW E q f_code a_tape a_size a_fault a_faultPlace a_many a_lands a_evenings a_sights a_choirs f_reached f_length f_begins f_sort f_value f_word f_wrongAt f_laterFault f_laterPlace a_told a_read f_farHut f_farSinger f_good f_land f_huts f_singers f_evening u.1 a_knows a_climbed a_snow a_level f_begun u.2 f_avalanches a_run a_covers a_routes a_longest a_steep a_laid a_far f_sight a_runs f_choir f_voices a_rest a_wins f_seed a_other a_kept H) (mA q)) 0 0 (mA q) := by
  refine Met.ofW (cc := cX11_walks) (maxL := 4) (ret := (some .boolean)) (by decide) rfl ?_
  intro p e s m args below meth c s₁ B hml hv
  obtain ⟨rfl, hM, hK⟩ := hv
  have zc := zc_of B hml
  have hl := lv_entry ([.ref q, .int x1, .int x2]) (n := 4) (Nat.le_of_ble_eq_true rfl)
  rw [lg_entry_eq]
  generalize (lg_sl ([.ref q, .int x1, .int x2]) ++ List.replicate (4 - (lg_sl ([.ref q, .int x1, .int x2])).length) Slot.unset).toArray = ls at hl ⊢
  have hl : lv_has ls 4 [(0, .ref q), (1, .int x1), (2, .int x2)] := hl
  exact t_m_walks_0 zc hK hM va_S.rf (lv_sub hl [0, 1, 2] rfl) hw
-- m_does
abbrev rm_m_does : Room := { frames := 5, cells := 0, slots := 0, locals := 111 }
def q_m_does_112 (a_lands : Nat → Int32) (a_evenings : Nat → Int32) (f_land : Int32) (f_huts : Int32) (f_singers : Int32) (f_evening : Int32) (a_at : Nat → Int32) (a_knows : Nat → Int32) (a_climbed : Nat → Int32) (a_snow : Nat → Int32) (a_level : Nat → Int32) (f_begun : Int32) (f_minute : Int32) (f_avalanches : Int32) (y0 : Int32) (y1 : Int32) (y2 : Int32) (post : Int32 → (Nat → Int32) → (Nat → Int32) → (Nat → Int32) → (Nat → Int32) → (Nat → Int32) → (Int32) → (Int32) → (Int32) → Prop) : Prop :=
  q_m_sings_0 a_lands f_land f_singers a_at a_knows a_climbed a_snow a_level f_begun f_avalanches y0 y1 y2 (fun a_knows_1 a_snow_1 a_level_1 f_begun_1 f_avalanches_1 => post (1 : Int32) a_at a_knows_1 a_climbed a_snow_1 a_level_1 f_begun_1 f_minute f_avalanches_1)
def q_m_does_83 (a_lands : Nat → Int32) (a_evenings : Nat → Int32) (f_land : Int32) (f_huts : Int32) (f_singers : Int32) (f_evening : Int32) (a_at : Nat → Int32) (a_knows : Nat → Int32) (a_climbed : Nat → Int32) (a_snow : Nat → Int32) (a_level : Nat → Int32) (f_begun : Int32) (f_minute : Int32) (f_avalanches : Int32) (x1 : Int32) (x2 : Int32) (x3 : Int32) (post : Int32 → (Nat → Int32) → (Nat → Int32) → (Nat → Int32) → (Nat → Int32) → (Nat → Int32) → (Int32) → (Int32) → (Int32) → Prop) : Prop :=
  q_m_maySing_0 a_lands f_land a_at a_knows f_begun x2 x3 (fun r_1 => (¬ r_1 = 0 → (q_m_deedOf_0 a_evenings f_evening x1 (0 : Int32) (fun r_2 => (¬ r_2 = (2 : Int32) → (q_m_does_112 a_lands a_evenings f_land f_huts f_singers f_evening a_at a_knows a_climbed a_snow a_level f_begun f_minute f_avalanches x2 x3 (0 : Int32) post)) ∧ (r_2 = (2 : Int32) → (q_m_does_112 a_lands a_evenings f_land f_huts f_singers f_evening a_at a_knows a_climbed a_snow a_level f_begun f_minute f_avalanches x2 x3 (1 : Int32) post))))) ∧ (r_1 = 0 → (post (0 : Int32) a_at a_knows a_climbed a_snow a_level f_begun f_minute f_avalanches)))
def q_m_does_0 (a_lands : Nat → Int32) (a_evenings : Nat → Int32) (f_land : Int32) (f_huts : Int32) (f_singers : Int32) (f_evening : Int32) (a_at : Nat → Int32) (a_knows : Nat → Int32) (a_climbed : Nat → Int32) (a_snow : Nat → Int32) (a_level : Nat → Int32) (f_begun : Int32) (f_minute : Int32) (f_avalanches : Int32) (x1 : Int32) (post : Int32 → (Nat → Int32) → (Nat → Int32) → (Nat → Int32) → (Nat → Int32) → (Nat → Int32) → (Int32) → (Int32) → (Int32) → Prop) : Prop :=
  q_m_deedOf_0 a_evenings f_evening x1 (1 : Int32) (fun r_1 => q_m_deedOf_0 a_evenings f_evening x1 (2 : Int32) (fun r_2 => q_m_isSinger_0 f_singers r_1 (fun r_3 => (¬ r_3 = 0 → (q_m_deedOf_0 a_evenings f_evening x1 (0 : Int32) (fun r_4 => (r_4.toInt < 0 ∨ 4 < r_4.toInt → (vp_in r_1 6 ∧ ((¬ (a_climbed (Int32.toNatClampNeg r_1)) = 0 → (vp_in r_1 6 ∧ (∀ a_climbed_1 : Nat → Int32, a_climbed_1 = upd a_climbed (Int32.toNatClampNeg r_1) (0 : Int32) → (post (1 : Int32) a_at a_knows a_climbed_1 a_snow a_level f_begun f_minute f_avalanches)))) ∧ ((a_climbed (Int32.toNatClampNeg r_1)) = 0 → (post (0 : Int32) a_at a_knows a_climbed a_snow a_level f_begun f_minute f_avalanches))))) ∧ (r_4 = (0 : Int32) → (q_m_mayBegin_0 a_lands f_land a_at a_knows f_begun r_1 r_2 (fun r_5 => (¬ r_5 = 0 → (q_m_sounds_0 a_lands f_land f_singers a_at a_knows a_climbed a_level f_begun r_1 r_2 (fun a_knows_1 a_level_1 f_begun_1 => post (1 : Int32) a_at a_knows_1 a_climbed a_snow a_level_1 f_begun_1 f_minute f_avalanches))) ∧ (r_5 = 0 → (post (0 : Int32) a_at a_knows a_climbed a_snow a_level f_begun f_minute f_avalanches))))) ∧ (r_4 = (1 : Int32) → (q_m_does_83 a_lands a_evenings f_land f_huts f_singers f_evening a_at a_knows a_climbed a_snow a_level f_begun f_minute f_avalanches x1 r_1 r_2 post)) ∧ (r_4 = (2 : Int32) → (q_m_does_83 a_lands a_evenings f_land f_huts f_singers f_evening a_at a_knows a_climbed a_snow a_level f_begun f_minute f_avalanches x1 r_1 r_2 post)) ∧ (r_4 = (3 : Int32) → (q_m_walks_0 a_lands f_land f_huts a_at a_climbed a_snow f_minute r_1 r_2 (fun r_6 a_at_1 f_minute_1 => narrow .boolean (.int r_6) = .int r_6 ∧ post r_6 a_at_1 a_knows a_climbed a_snow a_level f_begun f_minute_1 f_avalanches))) ∧ (r_4 = (4 : Int32) → (vp_in r_1 6 ∧ (q_m_of_0 a_lands f_land ((16 : Int32) + (a_at (Int32.toNatClampNeg r_1))) (fun r_7 => (r_7 = 0 → (post (0 : Int32) a_at a_knows a_climbed a_snow a_level f_begun f_minute f_avalanches)) ∧ (¬ r_7 = 0 → (vp_in r_1 6 ∧ ((¬ (a_climbed (Int32.toNatClampNeg r_1)) = (1 : Int32) → (vp_in r_1 6 ∧ (∀ a_climbed_2 : Nat → Int32, a_climbed_2 = upd a_climbed (Int32.toNatClampNeg r_1) (1 : Int32) → (post (1 : Int32) a_at a_knows a_climbed_2 a_snow a_level f_begun f_minute f_avalanches)))) ∧ ((a_climbed (Int32.toNatClampNeg r_1)) = (1 : Int32) → (post (0 : Int32) a_at a_knows a_climbed a_snow a_level f_begun f_minute f_avalanches)))))))))))) ∧ (r_3 = 0 → (post (0 : Int32) a_at a_knows a_climbed a_snow a_level f_begun f_minute f_avalanches)))))
set_option maxRecDepth 20000 in
theorem t_m_does_112 {p : Program} {l : Launch} {e : Env} {s : State} {m : MethodId} {args : Array Value} {below : List Frame} {meth : Method} {c : Code} {E : zE} {q : Nat} {f_code : Int32} {a_tape : Nat → Int32} {a_size : Nat → Int32} {a_fault : Nat → Int32} {a_faultPlace : Nat → Int32} {a_many : Nat → Int32} {a_lands : Nat → Int32} {a_evenings : Nat → Int32} {a_sights : Nat → Int32} {a_choirs : Nat → Int32} {f_reached : Int32} {f_length : Int32} {f_begins : Int32} {f_sort : Int32} {f_value : Int32} {f_word : Int64} {f_wrongAt : Int32} {f_laterFault : Int32} {f_laterPlace : Int32} {a_told : Nat → Int32} {a_read : Nat → Int32} {f_farHut : Int32} {f_farSinger : Int32} {f_good : Int32} {f_land : Int32} {f_huts : Int32} {f_singers : Int32} {f_evening : Int32} {a_at : Nat → Int32} {a_knows : Nat → Int32} {a_climbed : Nat → Int32} {a_snow : Nat → Int32} {a_level : Nat → Int32} {f_begun : Int32} {f_minute : Int32} {f_avalanches : Int32} {a_run : Nat → Int32} {a_covers : Nat → Int32} {a_routes : Nat → Int32} {a_longest : Nat → Int32} {a_steep : Nat → Int32} {a_laid : Nat → Int32} {a_far : Nat → Int32} {f_sight : Int32} {a_runs : Nat → Int32} {f_choir : Int32} {f_voices : Int32} {a_rest : Nat → Int64} {a_wins : Nat → Int32} {f_seed : Int32} {a_other : Nat → Int32} {a_kept : Nat → Int32} {post : Int32 → (Nat → Int32) → (Nat → Int32) → (Nat → Int32) → (Nat → Int32) → (Nat → Int32) → (Int32) → (Int32) → (Int32) → Prop} {y0 : Int32} {y1 : Int32} {y2 : Int32} {ls : Array Slot} {H : Heap} {locs : List Loc}
    (zc : zC p s m args meth c cX11_does 4 RX11 (some .boolean))
    (hK : zK E s)
    (hM : mW E q f_code a_tape a_size a_fault a_faultPlace a_many a_lands a_evenings a_sights a_choirs f_reached f_length f_begins f_sort f_value f_word f_wrongAt f_laterFault f_laterPlace a_told a_read f_farHut f_farSinger f_good f_land f_huts f_singers f_evening a_at a_knows a_climbed a_snow a_level f_begun f_minute f_avalanches a_run a_covers a_routes a_longest a_steep a_laid a_far f_sight a_runs f_choir f_voices a_rest a_wins f_seed a_other a_kept H)
    (hS : va_S (mA q) s.heap H locs)
    (hl : lv_has ls 4 [])
    (hw : q_m_does_112 a_lands a_evenings f_land f_huts f_singers f_evening a_at a_knows a_climbed a_snow a_level f_begun f_minute f_avalanches y0 y1 y2 post) :
    W p l e rm_m_does s m args below meth c H locs 0 0 (MQ below (zQi (S := (Nat → Int32) × (Nat → Int32) × (Nat → Int32) × (Nat → Int32) × (Nat → Int32) × (Int32) × (Int32) × (Int32)) (fun r u => post r u.1 u.2.1 u.2.2.1 u.2.2.2.1 u.2.2.2.2.1 u.2.2.2.2.2.1 u.2.2.2.2.2.2.1 u.2.2.2.2.2.2.2) (fun u H => mW E q f_code a_tape a_size a_fault a_faultPlace a_many a_lands a_evenings a_sights a_choirs f_reached f_length f_begins f_sort f_value f_word f_wrongAt f_laterFault f_laterPlace a_told a_read f_farHut f_farSinger f_good f_land f_huts f_singers f_evening u.1 u.2.1 u.2.2.1 u.2.2.2.1 u.2.2.2.2.1 u.2.2.2.2.2.1 u.2.2.2.2.2.2.1 u.2.2.2.2.2.2.2 a_run a_covers a_routes a_longest a_steep a_laid a_far f_sight a_runs f_choir f_voices a_rest a_wins f_seed a_other a_kept H) (mA q)) args s 0 0 (mA q)) (F0 m 112 ls [.int y2, .int y1, .int y0, .ref q]) := by
  have hx := zc.1
  have hb := zc.2.1
  refine zVw_v [.int y0, .int y1, .int y2] [] zc ky_X11_sings kz_X11_sings km_11_370 (c_m_sings l hw) (mPreV0 hK hM) hS rfl rfl hl.1 (Nat.le_of_ble_eq_true rfl) ⟨rfl, rfl⟩ ⟨Nat.le_of_ble_eq_true rfl, Nat.le_of_ble_eq_true rfl⟩ ⟨(Nat.zero_le _), (Nat.zero_le _)⟩ dX11_does_112 (fun u H locs hw hM hS => ?_)
  obtain ⟨a_knows_1, a_snow_1, a_level_1, f_begun_1, f_avalanches_1⟩ := u
  refine lv_iconst (v := (1 : Int32)) hx hb dX11_does_115 (by decide) ?_
  exact zret_zw ⟨a_at, a_knows_1, a_climbed, a_snow_1, a_level_1, f_begun_1, f_minute, f_avalanches_1⟩ zc hS rfl hw hM dX11_does_116
set_option maxRecDepth 20000 in
theorem t_m_does_83 {p : Program} {l : Launch} {e : Env} {s : State} {m : MethodId} {args : Array Value} {below : List Frame} {meth : Method} {c : Code} {E : zE} {q : Nat} {f_code : Int32} {a_tape : Nat → Int32} {a_size : Nat → Int32} {a_fault : Nat → Int32} {a_faultPlace : Nat → Int32} {a_many : Nat → Int32} {a_lands : Nat → Int32} {a_evenings : Nat → Int32} {a_sights : Nat → Int32} {a_choirs : Nat → Int32} {f_reached : Int32} {f_length : Int32} {f_begins : Int32} {f_sort : Int32} {f_value : Int32} {f_word : Int64} {f_wrongAt : Int32} {f_laterFault : Int32} {f_laterPlace : Int32} {a_told : Nat → Int32} {a_read : Nat → Int32} {f_farHut : Int32} {f_farSinger : Int32} {f_good : Int32} {f_land : Int32} {f_huts : Int32} {f_singers : Int32} {f_evening : Int32} {a_at : Nat → Int32} {a_knows : Nat → Int32} {a_climbed : Nat → Int32} {a_snow : Nat → Int32} {a_level : Nat → Int32} {f_begun : Int32} {f_minute : Int32} {f_avalanches : Int32} {a_run : Nat → Int32} {a_covers : Nat → Int32} {a_routes : Nat → Int32} {a_longest : Nat → Int32} {a_steep : Nat → Int32} {a_laid : Nat → Int32} {a_far : Nat → Int32} {f_sight : Int32} {a_runs : Nat → Int32} {f_choir : Int32} {f_voices : Int32} {a_rest : Nat → Int64} {a_wins : Nat → Int32} {f_seed : Int32} {a_other : Nat → Int32} {a_kept : Nat → Int32} {post : Int32 → (Nat → Int32) → (Nat → Int32) → (Nat → Int32) → (Nat → Int32) → (Nat → Int32) → (Int32) → (Int32) → (Int32) → Prop} {x1 : Int32} {x2 : Int32} {x3 : Int32} {ls : Array Slot} {H : Heap} {locs : List Loc}
    (zc : zC p s m args meth c cX11_does 4 RX11 (some .boolean))
    (hK : zK E s)
    (hM : mW E q f_code a_tape a_size a_fault a_faultPlace a_many a_lands a_evenings a_sights a_choirs f_reached f_length f_begins f_sort f_value f_word f_wrongAt f_laterFault f_laterPlace a_told a_read f_farHut f_farSinger f_good f_land f_huts f_singers f_evening a_at a_knows a_climbed a_snow a_level f_begun f_minute f_avalanches a_run a_covers a_routes a_longest a_steep a_laid a_far f_sight a_runs f_choir f_voices a_rest a_wins f_seed a_other a_kept H)
    (hS : va_S (mA q) s.heap H locs)
    (hl : lv_has ls 4 [(0, .ref q), (1, .int x1), (2, .int x2), (3, .int x3)])
    (hw : q_m_does_83 a_lands a_evenings f_land f_huts f_singers f_evening a_at a_knows a_climbed a_snow a_level f_begun f_minute f_avalanches x1 x2 x3 post) :
    W p l e rm_m_does s m args below meth c H locs 0 0 (MQ below (zQi (S := (Nat → Int32) × (Nat → Int32) × (Nat → Int32) × (Nat → Int32) × (Nat → Int32) × (Int32) × (Int32) × (Int32)) (fun r u => post r u.1 u.2.1 u.2.2.1 u.2.2.2.1 u.2.2.2.2.1 u.2.2.2.2.2.1 u.2.2.2.2.2.2.1 u.2.2.2.2.2.2.2) (fun u H => mW E q f_code a_tape a_size a_fault a_faultPlace a_many a_lands a_evenings a_sights a_choirs f_reached f_length f_begins f_sort f_value f_word f_wrongAt f_laterFault f_laterPlace a_told a_read f_farHut f_farSinger f_good f_land f_huts f_singers f_evening u.1 u.2.1 u.2.2.1 u.2.2.2.1 u.2.2.2.2.1 u.2.2.2.2.2.1 u.2.2.2.2.2.2.1 u.2.2.2.2.2.2.2 a_run a_covers a_routes a_longest a_steep a_laid a_far f_sight a_runs f_choir f_voices a_rest a_wins f_seed a_other a_kept H) (mA q)) args s 0 0 (mA q)) (F0 m 83 ls []) := by
  have hx := zc.1
  have hb := zc.2.1
  refine lv_aload_n hx hb dX11_does_83 rfl (lv_at hl 0 rfl) ?_
  refine lv_iload_n hx hb dX11_does_84 rfl (lv_at hl 2 rfl) ?_
  refine lv_iload_n hx hb dX11_does_85 rfl (lv_at hl 3 rfl) ?_
  refine zV_i [.int x2, .int x3] [] zc ky_X11_maySing kz_X11_maySing km_11_367 (c_m_maySing l hw) (mPreV0 hK hM) rfl rfl hl.1 (Nat.le_of_ble_eq_true rfl) ⟨rfl, rfl⟩ ⟨Nat.le_of_ble_eq_true rfl, Nat.le_of_ble_eq_true rfl⟩ ⟨(Nat.zero_le _), (Nat.zero_le _)⟩ dX11_does_86 (fun r_1 hw => ?_)
  refine lv_if_ne (tgt := 94) hx hb dX11_does_89 (by decide) (fun hc => ?_) (fun hc => ?_)
  · have hw := hw.1 hc
    refine lv_aload_n hx hb dX11_does_94 rfl (lv_at hl 0 rfl) ?_
    refine lv_iload_n hx hb dX11_does_95 rfl (lv_at hl 2 rfl) ?_
    refine lv_iload_n hx hb dX11_does_96 rfl (lv_at hl 3 rfl) ?_
    refine lv_aload_n hx hb dX11_does_97 rfl (lv_at hl 0 rfl) ?_
    refine lv_iload_n hx hb dX11_does_98 rfl (lv_at hl 1 rfl) ?_
    refine lv_iconst (v := (0 : Int32)) hx hb dX11_does_99 (by decide) ?_
    refine zV_i [.int x1, .int (0 : Int32)] [.int x3, .int x2, .ref q] zc ky_X11_deedOf kz_X11_deedOf km_11_337 (c_m_deedOf l hw) (mPreV0 hK hM) rfl rfl hl.1 (Nat.le_of_ble_eq_true rfl) ⟨rfl, rfl⟩ ⟨Nat.le_of_ble_eq_true rfl, Nat.le_of_ble_eq_true rfl⟩ ⟨(Nat.zero_le _), (Nat.zero_le _)⟩ dX11_does_100 (fun r_2 hw => ?_)
    refine lv_iconst (v := (2 : Int32)) hx hb dX11_does_103 (by decide) ?_
    refine lv_icmp_ne (tgt := 111) hx hb dX11_does_104 (by decide) (fun hc => ?_) (fun hc => ?_)
    · have hw := hw.1 hc
      refine lv_iconst (v := (0 : Int32)) hx hb dX11_does_111 (by decide) ?_
      exact t_m_does_112 zc hK hM hS  (lv_sub hl [] rfl) hw
    · have hw := hw.2 hc
      refine lv_iconst (v := (1 : Int32)) hx hb dX11_does_107 (by decide) ?_
      refine lv_goto (tgt := 112) hx hb dX11_does_108 (by decide) ?_
      exact t_m_does_112 zc hK hM hS  (lv_sub hl [] rfl) hw
  · have hw := hw.2 hc
    refine lv_iconst (v := (0 : Int32)) hx hb dX11_does_92 (by decide) ?_
    exact zret_zw ⟨a_at, a_knows, a_climbed, a_snow, a_level, f_begun, f_minute, f_avalanches⟩ zc hS rfl hw hM dX11_does_93
set_option maxRecDepth 20000 in
theorem t_m_does_0 {p : Program} {l : Launch} {e : Env} {s : State} {m : MethodId} {args : Array Value} {below : List Frame} {meth : Method} {c : Code} {E : zE} {q : Nat} {f_code : Int32} {a_tape : Nat → Int32} {a_size : Nat → Int32} {a_fault : Nat → Int32} {a_faultPlace : Nat → Int32} {a_many : Nat → Int32} {a_lands : Nat → Int32} {a_evenings : Nat → Int32} {a_sights : Nat → Int32} {a_choirs : Nat → Int32} {f_reached : Int32} {f_length : Int32} {f_begins : Int32} {f_sort : Int32} {f_value : Int32} {f_word : Int64} {f_wrongAt : Int32} {f_laterFault : Int32} {f_laterPlace : Int32} {a_told : Nat → Int32} {a_read : Nat → Int32} {f_farHut : Int32} {f_farSinger : Int32} {f_good : Int32} {f_land : Int32} {f_huts : Int32} {f_singers : Int32} {f_evening : Int32} {a_at : Nat → Int32} {a_knows : Nat → Int32} {a_climbed : Nat → Int32} {a_snow : Nat → Int32} {a_level : Nat → Int32} {f_begun : Int32} {f_minute : Int32} {f_avalanches : Int32} {a_run : Nat → Int32} {a_covers : Nat → Int32} {a_routes : Nat → Int32} {a_longest : Nat → Int32} {a_steep : Nat → Int32} {a_laid : Nat → Int32} {a_far : Nat → Int32} {f_sight : Int32} {a_runs : Nat → Int32} {f_choir : Int32} {f_voices : Int32} {a_rest : Nat → Int64} {a_wins : Nat → Int32} {f_seed : Int32} {a_other : Nat → Int32} {a_kept : Nat → Int32} {post : Int32 → (Nat → Int32) → (Nat → Int32) → (Nat → Int32) → (Nat → Int32) → (Nat → Int32) → (Int32) → (Int32) → (Int32) → Prop} {x1 : Int32} {ls : Array Slot} {H : Heap} {locs : List Loc}
    (zc : zC p s m args meth c cX11_does 4 RX11 (some .boolean))
    (hK : zK E s)
    (hM : mW E q f_code a_tape a_size a_fault a_faultPlace a_many a_lands a_evenings a_sights a_choirs f_reached f_length f_begins f_sort f_value f_word f_wrongAt f_laterFault f_laterPlace a_told a_read f_farHut f_farSinger f_good f_land f_huts f_singers f_evening a_at a_knows a_climbed a_snow a_level f_begun f_minute f_avalanches a_run a_covers a_routes a_longest a_steep a_laid a_far f_sight a_runs f_choir f_voices a_rest a_wins f_seed a_other a_kept H)
    (hS : va_S (mA q) s.heap H locs)
    (hl : lv_has ls 4 [(0, .ref q), (1, .int x1)])
    (hw : q_m_does_0 a_lands a_evenings f_land f_huts f_singers f_evening a_at a_knows a_climbed a_snow a_level f_begun f_minute f_avalanches x1 post) :
    W p l e rm_m_does s m args below meth c H locs 0 0 (MQ below (zQi (S := (Nat → Int32) × (Nat → Int32) × (Nat → Int32) × (Nat → Int32) × (Nat → Int32) × (Int32) × (Int32) × (Int32)) (fun r u => post r u.1 u.2.1 u.2.2.1 u.2.2.2.1 u.2.2.2.2.1 u.2.2.2.2.2.1 u.2.2.2.2.2.2.1 u.2.2.2.2.2.2.2) (fun u H => mW E q f_code a_tape a_size a_fault a_faultPlace a_many a_lands a_evenings a_sights a_choirs f_reached f_length f_begins f_sort f_value f_word f_wrongAt f_laterFault f_laterPlace a_told a_read f_farHut f_farSinger f_good f_land f_huts f_singers f_evening u.1 u.2.1 u.2.2.1 u.2.2.2.1 u.2.2.2.2.1 u.2.2.2.2.2.1 u.2.2.2.2.2.2.1 u.2.2.2.2.2.2.2 a_run a_covers a_routes a_longest a_steep a_laid a_far f_sight a_runs f_choir f_voices a_rest a_wins f_seed a_other a_kept H) (mA q)) args s 0 0 (mA q)) (F0 m 0 ls []) := by
  have hx := zc.1
  have hb := zc.2.1
  refine lv_aload_n hx hb dX11_does_0 rfl (lv_at hl 0 rfl) ?_
  refine lv_iload_n hx hb dX11_does_1 rfl (lv_at hl 1 rfl) ?_
  refine lv_iconst (v := (1 : Int32)) hx hb dX11_does_2 (by decide) ?_
  refine zV_i [.int x1, .int (1 : Int32)] [] zc ky_X11_deedOf kz_X11_deedOf km_11_337 (c_m_deedOf l hw) (mPreV0 hK hM) rfl rfl hl.1 (Nat.le_of_ble_eq_true rfl) ⟨rfl, rfl⟩ ⟨Nat.le_of_ble_eq_true rfl, Nat.le_of_ble_eq_true rfl⟩ ⟨(Nat.zero_le _), (Nat.zero_le _)⟩ dX11_does_3 (fun r_1 hw => ?_)
  refine lv_istore_n (lv' := [(2, .int r_1), (0, .ref q), (1, .int x1)]) hx hb dX11_does_6 rfl hl (by decide) rfl (fun ls hl => ?_)
  refine lv_aload_n hx hb dX11_does_7 rfl (lv_at hl 1 rfl) ?_
  refine lv_iload_n hx hb dX11_does_8 rfl (lv_at hl 2 rfl) ?_
  refine lv_iconst (v := (2 : Int32)) hx hb dX11_does_9 (by decide) ?_
  refine zV_i [.int x1, .int (2 : Int32)] [] zc ky_X11_deedOf kz_X11_deedOf km_11_337 (c_m_deedOf l hw) (mPreV0 hK hM) rfl rfl hl.1 (Nat.le_of_ble_eq_true rfl) ⟨rfl, rfl⟩ ⟨Nat.le_of_ble_eq_true rfl, Nat.le_of_ble_eq_true rfl⟩ ⟨(Nat.zero_le _), (Nat.zero_le _)⟩ dX11_does_10 (fun r_2 hw => ?_)
  refine lv_istore_n (lv' := [(3, .int r_2), (2, .int r_1), (0, .ref q), (1, .int x1)]) hx hb dX11_does_13 rfl hl (by decide) rfl (fun ls hl => ?_)
  refine lv_aload_n hx hb dX11_does_14 rfl (lv_at hl 2 rfl) ?_
  refine lv_iload_n hx hb dX11_does_15 rfl (lv_at hl 1 rfl) ?_
  refine zV_i [.int r_1] [] zc ky_X11_isSinger kz_X11_isSinger km_11_325 (c_m_isSinger l hw) (mPreV0 hK hM) rfl rfl hl.1 (Nat.le_of_ble_eq_true rfl) ⟨rfl, rfl⟩ ⟨Nat.le_of_ble_eq_true rfl, Nat.le_of_ble_eq_true rfl⟩ ⟨(Nat.zero_le _), (Nat.zero_le _)⟩ dX11_does_16 (fun r_3 hw => ?_)
  refine lv_if_ne (tgt := 24) hx hb dX11_does_19 (by decide) (fun hc => ?_) (fun hc => ?_)
  · have hw := hw.1 hc
    refine lv_aload_n hx hb dX11_does_24 rfl (lv_at hl 2 rfl) ?_
    refine lv_iload_n hx hb dX11_does_25 rfl (lv_at hl 3 rfl) ?_
    refine lv_iconst (v := (0 : Int32)) hx hb dX11_does_26 (by decide) ?_
    refine zV_i [.int x1, .int (0 : Int32)] [] zc ky_X11_deedOf kz_X11_deedOf km_11_337 (c_m_deedOf l hw) (mPreV0 hK hM) rfl rfl hl.1 (Nat.le_of_ble_eq_true rfl) ⟨rfl, rfl⟩ ⟨Nat.le_of_ble_eq_true rfl, Nat.le_of_ble_eq_true rfl⟩ ⟨(Nat.zero_le _), (Nat.zero_le _)⟩ dX11_does_27 (fun r_4 hw => ?_)
    by_cases hc : r_4.toInt < 0 ∨ 4 < r_4.toInt
    · have hw := hw.1 hc
      refine lv_tableOut (tgt := 161) hx hb dX11_does_30 hc (by decide) ?_
      refine lv_aload_n hx hb dX11_does_161 rfl (lv_at hl 2 rfl) ?_
      refine mg_11_50_0 zc hK hM dX11_does_162 ?_
      refine lv_iload_n hx hb dX11_does_165 rfl (lv_at hl 1 rfl) ?_
      refine mld_14 zc hK hM hw.1 dX11_does_166 ?_
      have hw := hw.2
      refine lv_if_ne (tgt := 172) hx hb dX11_does_167 (by decide) (fun hc => ?_) (fun hc => ?_)
      · have hw := hw.1 hc
        refine lv_aload_n hx hb dX11_does_172 rfl (lv_at hl 2 rfl) ?_
        refine mg_11_50_0 zc hK hM dX11_does_173 ?_
        refine lv_iload_n hx hb dX11_does_176 rfl (lv_at hl 1 rfl) ?_
        refine lv_iconst (v := (0 : Int32)) hx hb dX11_does_177 (by decide) ?_
        refine mst_14 zc hK hM hS hw.1 dX11_does_178 (fun a_climbed_1 H locs ea_climbed_1 hM hS => ?_)
        have hw := hw.2 a_climbed_1 ea_climbed_1
        refine lv_iconst (v := (1 : Int32)) hx hb dX11_does_179 (by decide) ?_
        exact zret_zw ⟨a_at, a_knows, a_climbed_1, a_snow, a_level, f_begun, f_minute, f_avalanches⟩ zc hS rfl hw hM dX11_does_180
      · have hw := hw.2 hc
        refine lv_iconst (v := (0 : Int32)) hx hb dX11_does_170 (by decide) ?_
        exact zret_zw ⟨a_at, a_knows, a_climbed, a_snow, a_level, f_begun, f_minute, f_avalanches⟩ zc hS rfl hw hM dX11_does_171
    have hin := zsw hc
    by_cases hc0 : r_4 = (0 : Int32)
    · have hw := hw.2.1 hc0
      refine lv_tableIn (tgt := 64) hx hb dX11_does_30 (by rw [hc0]; decide) (by rw [hc0]; decide) (by rw [hc0]; rfl) (by decide) ?_
      refine lv_aload_n hx hb dX11_does_64 rfl (lv_at hl 2 rfl) ?_
      refine lv_iload_n hx hb dX11_does_65 rfl (lv_at hl 1 rfl) ?_
      refine lv_iload_n hx hb dX11_does_66 rfl (lv_at hl 0 rfl) ?_
      refine zV_i [.int r_1, .int r_2] [] zc ky_X11_mayBegin kz_X11_mayBegin km_11_364 (c_m_mayBegin l hw) (mPreV0 hK hM) rfl rfl hl.1 (Nat.le_of_ble_eq_true rfl) ⟨rfl, rfl⟩ ⟨Nat.le_of_ble_eq_true rfl, Nat.le_of_ble_eq_true rfl⟩ ⟨(Nat.zero_le _), (Nat.zero_le _)⟩ dX11_does_67 (fun r_5 hw => ?_)
      refine lv_if_ne (tgt := 75) hx hb dX11_does_70 (by decide) (fun hc => ?_) (fun hc => ?_)
      · have hw := hw.1 hc
        refine lv_aload_n hx hb dX11_does_75 rfl (lv_at hl 2 rfl) ?_
        refine lv_iload_n hx hb dX11_does_76 rfl (lv_at hl 1 rfl) ?_
        refine lv_iload_n hx hb dX11_does_77 rfl (lv_at hl 0 rfl) ?_
        refine zVw_v [.int r_1, .int r_2] [] zc ky_X11_sounds kz_X11_sounds km_11_358 (c_m_sounds l hw) (mPreV0 hK hM) hS rfl rfl hl.1 (Nat.le_of_ble_eq_true rfl) ⟨rfl, rfl⟩ ⟨Nat.le_of_ble_eq_true rfl, Nat.le_of_ble_eq_true rfl⟩ ⟨(Nat.zero_le _), (Nat.zero_le _)⟩ dX11_does_78 (fun u H locs hw hM hS => ?_)
        obtain ⟨a_knows_1, a_level_1, f_begun_1⟩ := u
        refine lv_iconst (v := (1 : Int32)) hx hb dX11_does_81 (by decide) ?_
        exact zret_zw ⟨a_at, a_knows_1, a_climbed, a_snow, a_level_1, f_begun_1, f_minute, f_avalanches⟩ zc hS rfl hw hM dX11_does_82
      · have hw := hw.2 hc
        refine lv_iconst (v := (0 : Int32)) hx hb dX11_does_73 (by decide) ?_
        exact zret_zw ⟨a_at, a_knows, a_climbed, a_snow, a_level, f_begun, f_minute, f_avalanches⟩ zc hS rfl hw hM dX11_does_74
    by_cases hc1 : r_4 = (1 : Int32)
    · have hw := hw.2.2.1 hc1
      refine lv_tableIn (tgt := 83) hx hb dX11_does_30 (by rw [hc1]; decide) (by rw [hc1]; decide) (by rw [hc1]; rfl) (by decide) ?_
      exact t_m_does_83 zc hK hM hS  (lv_sub hl [2, 3, 1, 0] rfl) hw
    by_cases hc2 : r_4 = (2 : Int32)
    · have hw := hw.2.2.2.1 hc2
      refine lv_tableIn (tgt := 83) hx hb dX11_does_30 (by rw [hc2]; decide) (by rw [hc2]; decide) (by rw [hc2]; rfl) (by decide) ?_
      exact t_m_does_83 zc hK hM hS  (lv_sub hl [2, 3, 1, 0] rfl) hw
    by_cases hc3 : r_4 = (3 : Int32)
    · have hw := hw.2.2.2.2.1 hc3
      refine lv_tableIn (tgt := 117) hx hb dX11_does_30 (by rw [hc3]; decide) (by rw [hc3]; decide) (by rw [hc3]; rfl) (by decide) ?_
      refine lv_aload_n hx hb dX11_does_117 rfl (lv_at hl 2 rfl) ?_
      refine lv_iload_n hx hb dX11_does_118 rfl (lv_at hl 1 rfl) ?_
      refine lv_iload_n hx hb dX11_does_119 rfl (lv_at hl 0 rfl) ?_
      refine zVw_i [.int r_1, .int r_2] [] zc ky_X11_walks kz_X11_walks km_11_374 (c_m_walks l hw) (mPreV0 hK hM) hS rfl rfl hl.1 (Nat.le_of_ble_eq_true rfl) ⟨rfl, rfl⟩ ⟨Nat.le_of_ble_eq_true rfl, Nat.le_of_ble_eq_true rfl⟩ ⟨(Nat.zero_le _), (Nat.zero_le _)⟩ dX11_does_120 (fun r_6 u H locs hw hM hS => ?_)
      obtain ⟨a_at_1, f_minute_1⟩ := u
      exact zret_zw ⟨a_at_1, a_knows, a_climbed, a_snow, a_level, f_begun, f_minute_1, f_avalanches⟩ zc hS hw.1 hw.2 hM dX11_does_123
    by_cases hc4 : r_4 = (4 : Int32)
    · have hw := hw.2.2.2.2.2 hc4
      refine lv_tableIn (tgt := 124) hx hb dX11_does_30 (by rw [hc4]; decide) (by rw [hc4]; decide) (by rw [hc4]; rfl) (by decide) ?_
      refine lv_aload_n hx hb dX11_does_124 rfl (lv_at hl 2 rfl) ?_
      refine lv_bipush (v := (16 : Int32)) hx hb dX11_does_125 (by decide) ?_
      refine lv_aload_n hx hb dX11_does_127 rfl (lv_at hl 2 rfl) ?_
      refine mg_11_44_0 zc hK hM dX11_does_128 ?_
      refine lv_iload_n hx hb dX11_does_131 rfl (lv_at hl 1 rfl) ?_
      refine mld_12 zc hK hM hw.1 dX11_does_132 ?_
      have hw := hw.2
      refine lv_iadd hx hb dX11_does_133 ?_
      refine zV_i [.int ((16 : Int32) + (a_at (Int32.toNatClampNeg r_1)))] [] zc ky_X11_of kz_X11_of km_11_303 (c_m_of l hw) (mPreV0 hK hM) rfl rfl hl.1 (Nat.le_of_ble_eq_true rfl) ⟨rfl, rfl⟩ ⟨Nat.le_of_ble_eq_true rfl, Nat.le_of_ble_eq_true rfl⟩ ⟨(Nat.zero_le _), (Nat.zero_le _)⟩ dX11_does_134 (fun r_7 hw => ?_)
      refine lv_if_eq (tgt := 150) hx hb dX11_does_137 (by decide) (fun hc => ?_) (fun hc => ?_)
      · have hw := hw.1 hc
        refine lv_iconst (v := (0 : Int32)) hx hb dX11_does_150 (by decide) ?_
        exact zret_zw ⟨a_at, a_knows, a_climbed, a_snow, a_level, f_begun, f_minute, f_avalanches⟩ zc hS rfl hw hM dX11_does_151
      · have hw := hw.2 hc
        refine lv_aload_n hx hb dX11_does_140 rfl (lv_at hl 2 rfl) ?_
        refine mg_11_50_0 zc hK hM dX11_does_141 ?_
        refine lv_iload_n hx hb dX11_does_144 rfl (lv_at hl 1 rfl) ?_
        refine mld_14 zc hK hM hw.1 dX11_does_145 ?_
        have hw := hw.2
        refine lv_iconst (v := (1 : Int32)) hx hb dX11_does_146 (by decide) ?_
        refine lv_icmp_ne (tgt := 152) hx hb dX11_does_147 (by decide) (fun hc => ?_) (fun hc => ?_)
        · have hw := hw.1 hc
          refine lv_aload_n hx hb dX11_does_152 rfl (lv_at hl 2 rfl) ?_
          refine mg_11_50_0 zc hK hM dX11_does_153 ?_
          refine lv_iload_n hx hb dX11_does_156 rfl (lv_at hl 1 rfl) ?_
          refine lv_iconst (v := (1 : Int32)) hx hb dX11_does_157 (by decide) ?_
          refine mst_14 zc hK hM hS hw.1 dX11_does_158 (fun a_climbed_2 H locs ea_climbed_2 hM hS => ?_)
          have hw := hw.2 a_climbed_2 ea_climbed_2
          refine lv_iconst (v := (1 : Int32)) hx hb dX11_does_159 (by decide) ?_
          exact zret_zw ⟨a_at, a_knows, a_climbed_2, a_snow, a_level, f_begun, f_minute, f_avalanches⟩ zc hS rfl hw hM dX11_does_160
        · have hw := hw.2 hc
          refine lv_iconst (v := (0 : Int32)) hx hb dX11_does_150 (by decide) ?_
          exact zret_zw ⟨a_at, a_knows, a_climbed, a_snow, a_level, f_begun, f_minute, f_avalanches⟩ zc hS rfl hw hM dX11_does_151
    exact absurd hin (by have h0 := zne hc0; have h1 := zne hc1; have h2 := zne hc2; have h3 := zne hc3; have h4 := zne hc4; simp at *; omega)
  · have hw := hw.2 hc
    refine lv_iconst (v := (0 : Int32)) hx hb dX11_does_22 (by decide) ?_
    exact zret_zw ⟨a_at, a_knows, a_climbed, a_snow, a_level, f_begun, f_minute, f_avalanches⟩ zc hS rfl hw hM dX11_does_23
set_option maxRecDepth 20000 in
theorem c_m_does (l : Launch) {E : zE} {q : Nat} {f_code : Int32} {a_tape : Nat → Int32} {a_size : Nat → Int32} {a_fault : Nat → Int32} {a_faultPlace : Nat → Int32} {a_many : Nat → Int32} {a_lands : Nat → Int32} {a_evenings : Nat → Int32} {a_sights : Nat → Int32} {a_choirs : Nat → Int32} {f_reached : Int32} {f_length : Int32} {f_begins : Int32} {f_sort : Int32} {f_value : Int32} {f_word : Int64} {f_wrongAt : Int32} {f_laterFault : Int32} {f_laterPlace : Int32} {a_told : Nat → Int32} {a_read : Nat → Int32} {f_farHut : Int32} {f_farSinger : Int32} {f_good : Int32} {f_land : Int32} {f_huts : Int32} {f_singers : Int32} {f_evening : Int32} {a_at : Nat → Int32} {a_knows : Nat → Int32} {a_climbed : Nat → Int32} {a_snow : Nat → Int32} {a_level : Nat → Int32} {f_begun : Int32} {f_minute : Int32} {f_avalanches : Int32} {a_run : Nat → Int32} {a_covers : Nat → Int32} {a_routes : Nat → Int32} {a_longest : Nat → Int32} {a_steep : Nat → Int32} {a_laid : Nat → Int32} {a_far : Nat → Int32} {f_sight : Int32} {a_runs : Nat → Int32} {f_choir : Int32} {f_voices : Int32} {a_rest : Nat → Int64} {a_wins : Nat → Int32} {f_seed : Int32} {a_other : Nat → Int32} {a_kept : Nat → Int32} {x1 : Int32} {post : Int32 → (Nat → Int32) → (Nat → Int32) → (Nat → Int32) → (Nat → Int32) → (Nat → Int32) → (Int32) → (Int32) → (Int32) → Prop} (hw : q_m_does_0 a_lands a_evenings f_land f_huts f_singers f_evening a_at a_knows a_climbed a_snow a_level f_begun f_minute f_avalanches x1 post) : Met l yX11_does (Cond.code yX11_does cX11_does 4 (some .boolean) :: zb) rm_m_does (va_Pc [.ref q, .int x1] (fun U => mW E q f_code a_tape a_size a_fault a_faultPlace a_many a_lands a_evenings a_sights a_choirs f_reached f_length f_begins f_sort f_value f_word f_wrongAt f_laterFault f_laterPlace a_told a_read f_farHut f_farSinger f_good f_land f_huts f_singers f_evening a_at a_knows a_climbed a_snow a_level f_begun f_minute f_avalanches a_run a_covers a_routes a_longest a_steep a_laid a_far f_sight a_runs f_choir f_voices a_rest a_wins f_seed a_other a_kept U.heap ∧ zK E U)) (zQi (S := (Nat → Int32) × (Nat → Int32) × (Nat → Int32) × (Nat → Int32) × (Nat → Int32) × (Int32) × (Int32) × (Int32)) (fun r u => post r u.1 u.2.1 u.2.2.1 u.2.2.2.1 u.2.2.2.2.1 u.2.2.2.2.2.1 u.2.2.2.2.2.2.1 u.2.2.2.2.2.2.2) (fun u H => mW E q f_code a_tape a_size a_fault a_faultPlace a_many a_lands a_evenings a_sights a_choirs f_reached f_length f_begins f_sort f_value f_word f_wrongAt f_laterFault f_laterPlace a_told a_read f_farHut f_farSinger f_good f_land f_huts f_singers f_evening u.1 u.2.1 u.2.2.1 u.2.2.2.1 u.2.2.2.2.1 u.2.2.2.2.2.1 u.2.2.2.2.2.2.1 u.2.2.2.2.2.2.2 a_run a_covers a_routes a_longest a_steep a_laid a_far f_sight a_runs f_choir f_voices a_rest a_wins f_seed a_other a_kept H) (mA q)) 0 0 (mA q) := by
  refine Met.ofW (cc := cX11_does) (maxL := 4) (ret := (some .boolean)) (by decide) rfl ?_
  intro p e s m args below meth c s₁ B hml hv
  obtain ⟨rfl, hM, hK⟩ := hv
  have zc := zc_of B hml
  have hl := lv_entry ([.ref q, .int x1]) (n := 4) (Nat.le_of_ble_eq_true rfl)
  rw [lg_entry_eq]
  generalize (lg_sl ([.ref q, .int x1]) ++ List.replicate (4 - (lg_sl ([.ref q, .int x1])).length) Slot.unset).toArray = ls at hl ⊢
  have hl : lv_has ls 4 [(0, .ref q), (1, .int x1)] := hl
  exact t_m_does_0 zc hK hM va_S.rf (lv_sub hl [0, 1] rfl) hw
-- m_play
abbrev rm_m_play : Room := { frames := 6, cells := 0, slots := 0, locals := 134 }
def q_m_play_6 (a_lands : Nat → Int32) (a_evenings : Nat → Int32) (f_land : Int32) (f_huts : Int32) (f_singers : Int32) (f_evening : Int32) (a_at : Nat → Int32) (a_knows : Nat → Int32) (a_climbed : Nat → Int32) (a_snow : Nat → Int32) (a_level : Nat → Int32) (f_begun : Int32) (f_minute : Int32) (f_avalanches : Int32) (x1 : Int32) (x2 : Int32) (post : Int32 → (Nat → Int32) → (Nat → Int32) → (Nat → Int32) → (Nat → Int32) → (Nat → Int32) → (Int32) → (Int32) → (Int32) → Prop) : Prop :=
  ∀ P6 : Int32 → (Nat → Int32) → (Nat → Int32) → (Nat → Int32) → (Nat → Int32) → (Nat → Int32) → (Int32) → (Int32) → (Int32) → Prop, (∀ (x2 : Int32) (a_at : Nat → Int32) (a_knows : Nat → Int32) (a_climbed : Nat → Int32) (a_snow : Nat → Int32) (a_level : Nat → Int32) (f_begun : Int32) (f_minute : Int32) (f_avalanches : Int32), ((x1 ≤ x2 → (post x2 a_at a_knows a_climbed a_snow a_level f_begun f_minute f_avalanches)) ∧ (¬ x1 ≤ x2 → (q_m_does_0 a_lands a_evenings f_land f_huts f_singers f_evening a_at a_knows a_climbed a_snow a_level f_begun f_minute f_avalanches x2 (fun r_1 a_at_1 a_knows_1 a_climbed_1 a_snow_1 a_level_1 f_begun_1 f_minute_1 f_avalanches_1 => (r_1 = 0 → (post x2 a_at_1 a_knows_1 a_climbed_1 a_snow_1 a_level_1 f_begun_1 f_minute_1 f_avalanches_1)) ∧ (¬ r_1 = 0 → (∀ v_1 : Int32, v_1 = x2 + (1 : Int32) → (P6 v_1 a_at_1 a_knows_1 a_climbed_1 a_snow_1 a_level_1 f_begun_1 f_minute_1 f_avalanches_1))))))) → P6 x2 a_at a_knows a_climbed a_snow a_level f_begun f_minute f_avalanches) → P6 x2 a_at a_knows a_climbed a_snow a_level f_begun f_minute f_avalanches
def q_m_play_0 (a_lands : Nat → Int32) (a_evenings : Nat → Int32) (f_land : Int32) (f_huts : Int32) (f_singers : Int32) (f_evening : Int32) (a_at : Nat → Int32) (a_knows : Nat → Int32) (a_climbed : Nat → Int32) (a_snow : Nat → Int32) (a_level : Nat → Int32) (f_begun : Int32) (f_minute : Int32) (f_avalanches : Int32) (x1 : Int32) (post : Int32 → (Nat → Int32) → (Nat → Int32) → (Nat → Int32) → (Nat → Int32) → (Nat → Int32) → (Int32) → (Int32) → (Int32) → Prop) : Prop :=
  q_m_begin_0 a_lands f_land a_at a_knows a_climbed a_snow f_begun f_minute f_avalanches (fun a_at_1 a_knows_1 a_climbed_1 a_snow_1 f_begun_1 f_minute_1 f_avalanches_1 => q_m_play_6 a_lands a_evenings f_land f_huts f_singers f_evening a_at_1 a_knows_1 a_climbed_1 a_snow_1 a_level f_begun_1 f_minute_1 f_avalanches_1 x1 (0 : Int32) post)
set_option maxRecDepth 20000 in
theorem t_m_play_6 {p : Program} {l : Launch} {e : Env} {s : State} {m : MethodId} {args : Array Value} {below : List Frame} {meth : Method} {c : Code} {E : zE} {q : Nat} {f_code : Int32} {a_tape : Nat → Int32} {a_size : Nat → Int32} {a_fault : Nat → Int32} {a_faultPlace : Nat → Int32} {a_many : Nat → Int32} {a_lands : Nat → Int32} {a_evenings : Nat → Int32} {a_sights : Nat → Int32} {a_choirs : Nat → Int32} {f_reached : Int32} {f_length : Int32} {f_begins : Int32} {f_sort : Int32} {f_value : Int32} {f_word : Int64} {f_wrongAt : Int32} {f_laterFault : Int32} {f_laterPlace : Int32} {a_told : Nat → Int32} {a_read : Nat → Int32} {f_farHut : Int32} {f_farSinger : Int32} {f_good : Int32} {f_land : Int32} {f_huts : Int32} {f_singers : Int32} {f_evening : Int32} {a_at : Nat → Int32} {a_knows : Nat → Int32} {a_climbed : Nat → Int32} {a_snow : Nat → Int32} {a_level : Nat → Int32} {f_begun : Int32} {f_minute : Int32} {f_avalanches : Int32} {a_run : Nat → Int32} {a_covers : Nat → Int32} {a_routes : Nat → Int32} {a_longest : Nat → Int32} {a_steep : Nat → Int32} {a_laid : Nat → Int32} {a_far : Nat → Int32} {f_sight : Int32} {a_runs : Nat → Int32} {f_choir : Int32} {f_voices : Int32} {a_rest : Nat → Int64} {a_wins : Nat → Int32} {f_seed : Int32} {a_other : Nat → Int32} {a_kept : Nat → Int32} {post : Int32 → (Nat → Int32) → (Nat → Int32) → (Nat → Int32) → (Nat → Int32) → (Nat → Int32) → (Int32) → (Int32) → (Int32) → Prop} {x1 : Int32} {x2 : Int32} {ls : Array Slot} {H : Heap} {locs : List Loc}
    (zc : zC p s m args meth c cX11_play 3 RX11 (some .int))
    (hK : zK E s)
    (hM : mW E q f_code a_tape a_size a_fault a_faultPlace a_many a_lands a_evenings a_sights a_choirs f_reached f_length f_begins f_sort f_value f_word f_wrongAt f_laterFault f_laterPlace a_told a_read f_farHut f_farSinger f_good f_land f_huts f_singers f_evening a_at a_knows a_climbed a_snow a_level f_begun f_minute f_avalanches a_run a_covers a_routes a_longest a_steep a_laid a_far f_sight a_runs f_choir f_voices a_rest a_wins f_seed a_other a_kept H)
    (hS : va_S (mA q) s.heap H locs)
    (hl : lv_has ls 3 [(0, .ref q), (1, .int x1), (2, .int x2)])
    (hw : q_m_play_6 a_lands a_evenings f_land f_huts f_singers f_evening a_at a_knows a_climbed a_snow a_level f_begun f_minute f_avalanches x1 x2 post) :
    W p l e rm_m_play s m args below meth c H locs 0 0 (MQ below (zQi (S := (Nat → Int32) × (Nat → Int32) × (Nat → Int32) × (Nat → Int32) × (Nat → Int32) × (Int32) × (Int32) × (Int32)) (fun r u => post r u.1 u.2.1 u.2.2.1 u.2.2.2.1 u.2.2.2.2.1 u.2.2.2.2.2.1 u.2.2.2.2.2.2.1 u.2.2.2.2.2.2.2) (fun u H => mW E q f_code a_tape a_size a_fault a_faultPlace a_many a_lands a_evenings a_sights a_choirs f_reached f_length f_begins f_sort f_value f_word f_wrongAt f_laterFault f_laterPlace a_told a_read f_farHut f_farSinger f_good f_land f_huts f_singers f_evening u.1 u.2.1 u.2.2.1 u.2.2.2.1 u.2.2.2.2.1 u.2.2.2.2.2.1 u.2.2.2.2.2.2.1 u.2.2.2.2.2.2.2 a_run a_covers a_routes a_longest a_steep a_laid a_far f_sight a_runs f_choir f_voices a_rest a_wins f_seed a_other a_kept H) (mA q)) args s 0 0 (mA q)) (F0 m 6 ls []) := by
  have hx := zc.1
  have hb := zc.2.1
  refine hw (fun x2 a_at a_knows a_climbed a_snow a_level f_begun f_minute f_avalanches => ∀ (H : Heap) (locs : List Loc) (ls : Array Slot), lv_has ls 3 [(0, .ref q), (1, .int x1), (2, .int x2)] → mW E q f_code a_tape a_size a_fault a_faultPlace a_many a_lands a_evenings a_sights a_choirs f_reached f_length f_begins f_sort f_value f_word f_wrongAt f_laterFault f_laterPlace a_told a_read f_farHut f_farSinger f_good f_land f_huts f_singers f_evening a_at a_knows a_climbed a_snow a_level f_begun f_minute f_avalanches a_run a_covers a_routes a_longest a_steep a_laid a_far f_sight a_runs f_choir f_voices a_rest a_wins f_seed a_other a_kept H → va_S (mA q) s.heap H locs → W p l e rm_m_play s m args below meth c H locs 0 0 (MQ below (zQi (S := (Nat → Int32) × (Nat → Int32) × (Nat → Int32) × (Nat → Int32) × (Nat → Int32) × (Int32) × (Int32) × (Int32)) (fun r u => post r u.1 u.2.1 u.2.2.1 u.2.2.2.1 u.2.2.2.2.1 u.2.2.2.2.2.1 u.2.2.2.2.2.2.1 u.2.2.2.2.2.2.2) (fun u H => mW E q f_code a_tape a_size a_fault a_faultPlace a_many a_lands a_evenings a_sights a_choirs f_reached f_length f_begins f_sort f_value f_word f_wrongAt f_laterFault f_laterPlace a_told a_read f_farHut f_farSinger f_good f_land f_huts f_singers f_evening u.1 u.2.1 u.2.2.1 u.2.2.2.1 u.2.2.2.2.1 u.2.2.2.2.2.1 u.2.2.2.2.2.2.1 u.2.2.2.2.2.2.2 a_run a_covers a_routes a_longest a_steep a_laid a_far f_sight a_runs f_choir f_voices a_rest a_wins f_seed a_other a_kept H) (mA q)) args s 0 0 (mA q)) (F0 m 6 ls [])) ?_ _ _ _ hl hM hS
  intro x2 a_at a_knows a_climbed a_snow a_level f_begun f_minute f_avalanches hw H locs ls hl hM hS
  refine lv_iload_n hx hb dX11_play_6 rfl (lv_at hl 2 rfl) ?_
  refine lv_iload_n hx hb dX11_play_7 rfl (lv_at hl 1 rfl) ?_
  refine lv_icmp_ge (tgt := 25) hx hb dX11_play_8 (by decide) (fun hc => ?_) (fun hc => ?_)
  · have hw := hw.1 hc
    refine lv_iload_n hx hb dX11_play_25 rfl (lv_at hl 2 rfl) ?_
    exact zret_iw ⟨a_at, a_knows, a_climbed, a_snow, a_level, f_begun, f_minute, f_avalanches⟩ zc hS hw hM dX11_play_26
  · have hw := hw.2 hc
    refine lv_aload_n hx hb dX11_play_11 rfl (lv_at hl 0 rfl) ?_
    refine lv_iload_n hx hb dX11_play_12 rfl (lv_at hl 2 rfl) ?_
    refine zVw_i [.int x2] [] zc ky_X11_does kz_X11_does km_11_380 (c_m_does l hw) (mPreV0 hK hM) hS rfl rfl hl.1 (Nat.le_of_ble_eq_true rfl) ⟨rfl, rfl⟩ ⟨Nat.le_of_ble_eq_true rfl, Nat.le_of_ble_eq_true rfl⟩ ⟨(Nat.zero_le _), (Nat.zero_le _)⟩ dX11_play_13 (fun r_1 u H locs hw hM hS => ?_)
    obtain ⟨a_at_1, a_knows_1, a_climbed_1, a_snow_1, a_level_1, f_begun_1, f_minute_1, f_avalanches_1⟩ := u
    refine lv_if_eq (tgt := 25) hx hb dX11_play_16 (by decide) (fun hc => ?_) (fun hc => ?_)
    · have hw := hw.1 hc
      refine lv_iload_n hx hb dX11_play_25 rfl (lv_at hl 2 rfl) ?_
      exact zret_iw ⟨a_at_1, a_knows_1, a_climbed_1, a_snow_1, a_level_1, f_begun_1, f_minute_1, f_avalanches_1⟩ zc hS hw hM dX11_play_26
    · have hw := hw.2 hc
      obtain ⟨v_1, ev_1⟩ : ∃ y : Int32, y = x2 + (1 : Int32) := ⟨_, rfl⟩
      have hw := hw v_1 ev_1
      refine lv_iinc (v := v_1) (k := 2) (lv' := [(2, .int v_1), (0, .ref q), (1, .int x1)]) hx hb dX11_play_19 hl rfl (by rw [ev_1]; rfl) (by decide) rfl (fun ls hl => ?_)
      refine lv_goto (tgt := 6) hx hb dX11_play_22 (by decide) ?_
      exact hw _ _ _ (lv_sub hl [1, 2, 0] rfl) hM hS
set_option maxRecDepth 20000 in
theorem t_m_play_0 {p : Program} {l : Launch} {e : Env} {s : State} {m : MethodId} {args : Array Value} {below : List Frame} {meth : Method} {c : Code} {E : zE} {q : Nat} {f_code : Int32} {a_tape : Nat → Int32} {a_size : Nat → Int32} {a_fault : Nat → Int32} {a_faultPlace : Nat → Int32} {a_many : Nat → Int32} {a_lands : Nat → Int32} {a_evenings : Nat → Int32} {a_sights : Nat → Int32} {a_choirs : Nat → Int32} {f_reached : Int32} {f_length : Int32} {f_begins : Int32} {f_sort : Int32} {f_value : Int32} {f_word : Int64} {f_wrongAt : Int32} {f_laterFault : Int32} {f_laterPlace : Int32} {a_told : Nat → Int32} {a_read : Nat → Int32} {f_farHut : Int32} {f_farSinger : Int32} {f_good : Int32} {f_land : Int32} {f_huts : Int32} {f_singers : Int32} {f_evening : Int32} {a_at : Nat → Int32} {a_knows : Nat → Int32} {a_climbed : Nat → Int32} {a_snow : Nat → Int32} {a_level : Nat → Int32} {f_begun : Int32} {f_minute : Int32} {f_avalanches : Int32} {a_run : Nat → Int32} {a_covers : Nat → Int32} {a_routes : Nat → Int32} {a_longest : Nat → Int32} {a_steep : Nat → Int32} {a_laid : Nat → Int32} {a_far : Nat → Int32} {f_sight : Int32} {a_runs : Nat → Int32} {f_choir : Int32} {f_voices : Int32} {a_rest : Nat → Int64} {a_wins : Nat → Int32} {f_seed : Int32} {a_other : Nat → Int32} {a_kept : Nat → Int32} {post : Int32 → (Nat → Int32) → (Nat → Int32) → (Nat → Int32) → (Nat → Int32) → (Nat → Int32) → (Int32) → (Int32) → (Int32) → Prop} {x1 : Int32} {ls : Array Slot} {H : Heap} {locs : List Loc}
    (zc : zC p s m args meth c cX11_play 3 RX11 (some .int))
    (hK : zK E s)
    (hM : mW E q f_code a_tape a_size a_fault a_faultPlace a_many a_lands a_evenings a_sights a_choirs f_reached f_length f_begins f_sort f_value f_word f_wrongAt f_laterFault f_laterPlace a_told a_read f_farHut f_farSinger f_good f_land f_huts f_singers f_evening a_at a_knows a_climbed a_snow a_level f_begun f_minute f_avalanches a_run a_covers a_routes a_longest a_steep a_laid a_far f_sight a_runs f_choir f_voices a_rest a_wins f_seed a_other a_kept H)
    (hS : va_S (mA q) s.heap H locs)
    (hl : lv_has ls 3 [(0, .ref q), (1, .int x1)])
    (hw : q_m_play_0 a_lands a_evenings f_land f_huts f_singers f_evening a_at a_knows a_climbed a_snow a_level f_begun f_minute f_avalanches x1 post) :
    W p l e rm_m_play s m args below meth c H locs 0 0 (MQ below (zQi (S := (Nat → Int32) × (Nat → Int32) × (Nat → Int32) × (Nat → Int32) × (Nat → Int32) × (Int32) × (Int32) × (Int32)) (fun r u => post r u.1 u.2.1 u.2.2.1 u.2.2.2.1 u.2.2.2.2.1 u.2.2.2.2.2.1 u.2.2.2.2.2.2.1 u.2.2.2.2.2.2.2) (fun u H => mW E q f_code a_tape a_size a_fault a_faultPlace a_many a_lands a_evenings a_sights a_choirs f_reached f_length f_begins f_sort f_value f_word f_wrongAt f_laterFault f_laterPlace a_told a_read f_farHut f_farSinger f_good f_land f_huts f_singers f_evening u.1 u.2.1 u.2.2.1 u.2.2.2.1 u.2.2.2.2.1 u.2.2.2.2.2.1 u.2.2.2.2.2.2.1 u.2.2.2.2.2.2.2 a_run a_covers a_routes a_longest a_steep a_laid a_far f_sight a_runs f_choir f_voices a_rest a_wins f_seed a_other a_kept H) (mA q)) args s 0 0 (mA q)) (F0 m 0 ls []) := by
  have hx := zc.1
  have hb := zc.2.1
  refine lv_aload_n hx hb dX11_play_0 rfl (lv_at hl 0 rfl) ?_
  refine zVw_v [] [] zc ky_X11_begin kz_X11_begin km_11_377 (c_m_begin l hw) (mPreV0 hK hM) hS rfl rfl hl.1 (Nat.le_of_ble_eq_true rfl) ⟨rfl, rfl⟩ ⟨Nat.le_of_ble_eq_true rfl, Nat.le_of_ble_eq_true rfl⟩ ⟨(Nat.zero_le _), (Nat.zero_le _)⟩ dX11_play_1 (fun u H locs hw hM hS => ?_)
  obtain ⟨a_at_1, a_knows_1, a_climbed_1, a_snow_1, f_begun_1, f_minute_1, f_avalanches_1⟩ := u
  refine lv_iconst (v := (0 : Int32)) hx hb dX11_play_4 (by decide) ?_
  refine lv_istore_n (lv' := [(2, .int (0 : Int32)), (0, .ref q), (1, .int x1)]) hx hb dX11_play_5 rfl hl (by decide) rfl (fun ls hl => ?_)
  exact t_m_play_6 zc hK hM hS  (lv_sub hl [1, 2, 0] rfl) hw
set_option maxRecDepth 20000 in
theorem c_m_play (l : Launch) {E : zE} {q : Nat} {f_code : Int32} {a_tape : Nat → Int32} {a_size : Nat → Int32} {a_fault : Nat → Int32} {a_faultPlace : Nat → Int32} {a_many : Nat → Int32} {a_lands : Nat → Int32} {a_evenings : Nat → Int32} {a_sights : Nat → Int32} {a_choirs : Nat → Int32} {f_reached : Int32} {f_length : Int32} {f_begins : Int32} {f_sort : Int32} {f_value : Int32} {f_word : Int64} {f_wrongAt : Int32} {f_laterFault : Int32} {f_laterPlace : Int32} {a_told : Nat → Int32} {a_read : Nat → Int32} {f_farHut : Int32} {f_farSinger : Int32} {f_good : Int32} {f_land : Int32} {f_huts : Int32} {f_singers : Int32} {f_evening : Int32} {a_at : Nat → Int32} {a_knows : Nat → Int32} {a_climbed : Nat → Int32} {a_snow : Nat → Int32} {a_level : Nat → Int32} {f_begun : Int32} {f_minute : Int32} {f_avalanches : Int32} {a_run : Nat → Int32} {a_covers : Nat → Int32} {a_routes : Nat → Int32} {a_longest : Nat → Int32} {a_steep : Nat → Int32} {a_laid : Nat → Int32} {a_far : Nat → Int32} {f_sight : Int32} {a_runs : Nat → Int32} {f_choir : Int32} {f_voices : Int32} {a_rest : Nat → Int64} {a_wins : Nat → Int32} {f_seed : Int32} {a_other : Nat → Int32} {a_kept : Nat → Int32} {x1 : Int32} {post : Int32 → (Nat → Int32) → (Nat → Int32) → (Nat → Int32) → (Nat → Int32) → (Nat → Int32) → (Int32) → (Int32) → (Int32) → Prop} (hw : q_m_play_0 a_lands a_evenings f_land f_huts f_singers f_evening a_at a_knows a_climbed a_snow a_level f_begun f_minute f_avalanches x1 post) : Met l yX11_play (Cond.code yX11_play cX11_play 3 (some .int) :: zb) rm_m_play (va_Pc [.ref q, .int x1] (fun U => mW E q f_code a_tape a_size a_fault a_faultPlace a_many a_lands a_evenings a_sights a_choirs f_reached f_length f_begins f_sort f_value f_word f_wrongAt f_laterFault f_laterPlace a_told a_read f_farHut f_farSinger f_good f_land f_huts f_singers f_evening a_at a_knows a_climbed a_snow a_level f_begun f_minute f_avalanches a_run a_covers a_routes a_longest a_steep a_laid a_far f_sight a_runs f_choir f_voices a_rest a_wins f_seed a_other a_kept U.heap ∧ zK E U)) (zQi (S := (Nat → Int32) × (Nat → Int32) × (Nat → Int32) × (Nat → Int32) × (Nat → Int32) × (Int32) × (Int32) × (Int32)) (fun r u => post r u.1 u.2.1 u.2.2.1 u.2.2.2.1 u.2.2.2.2.1 u.2.2.2.2.2.1 u.2.2.2.2.2.2.1 u.2.2.2.2.2.2.2) (fun u H => mW E q f_code a_tape a_size a_fault a_faultPlace a_many a_lands a_evenings a_sights a_choirs f_reached f_length f_begins f_sort f_value f_word f_wrongAt f_laterFault f_laterPlace a_told a_read f_farHut f_farSinger f_good f_land f_huts f_singers f_evening u.1 u.2.1 u.2.2.1 u.2.2.2.1 u.2.2.2.2.1 u.2.2.2.2.2.1 u.2.2.2.2.2.2.1 u.2.2.2.2.2.2.2 a_run a_covers a_routes a_longest a_steep a_laid a_far f_sight a_runs f_choir f_voices a_rest a_wins f_seed a_other a_kept H) (mA q)) 0 0 (mA q) := by
  refine Met.ofW (cc := cX11_play) (maxL := 3) (ret := (some .int)) (by decide) rfl ?_
  intro p e s m args below meth c s₁ B hml hv
  obtain ⟨rfl, hM, hK⟩ := hv
  have zc := zc_of B hml
  have hl := lv_entry ([.ref q, .int x1]) (n := 3) (Nat.le_of_ble_eq_true rfl)
  rw [lg_entry_eq]
  generalize (lg_sl ([.ref q, .int x1]) ++ List.replicate (3 - (lg_sl ([.ref q, .int x1])).length) Slot.unset).toArray = ls at hl ⊢
  have hl : lv_has ls 3 [(0, .ref q), (1, .int x1)] := hl
  exact t_m_play_0 zc hK hM va_S.rf (lv_sub hl [0, 1] rfl) hw
-- m_layAll
abbrev rm_m_layAll : Room := { frames := 3, cells := 0, slots := 0, locals := 65 }
def q_m_layAll_0 (a_many : Nat → Int32) (a_lands : Nat → Int32) (f_land : Int32) (f_huts : Int32) (f_singers : Int32) (f_evening : Int32) (x1 : Int32) (x2 : Int32) (post : Int32 → (Int32) → (Int32) → (Int32) → (Int32) → Prop) : Prop :=
  q_m_hasEvening_0 a_many f_evening x2 (fun r_1 f_evening_1 => (r_1 = 0 → (post (0 : Int32) f_land f_huts f_singers f_evening_1)) ∧ (¬ r_1 = 0 → (q_m_hand_0 a_many a_lands f_land f_huts f_singers x1 (fun r_2 f_land_1 f_huts_1 f_singers_1 => (r_2 = 0 → (post (0 : Int32) f_land_1 f_huts_1 f_singers_1 f_evening_1)) ∧ (¬ r_2 = 0 → (post (1 : Int32) f_land_1 f_huts_1 f_singers_1 f_evening_1))))))
set_option maxRecDepth 20000 in
theorem t_m_layAll_0 {p : Program} {l : Launch} {e : Env} {s : State} {m : MethodId} {args : Array Value} {below : List Frame} {meth : Method} {c : Code} {E : zE} {q : Nat} {f_code : Int32} {a_tape : Nat → Int32} {a_size : Nat → Int32} {a_fault : Nat → Int32} {a_faultPlace : Nat → Int32} {a_many : Nat → Int32} {a_lands : Nat → Int32} {a_evenings : Nat → Int32} {a_sights : Nat → Int32} {a_choirs : Nat → Int32} {f_reached : Int32} {f_length : Int32} {f_begins : Int32} {f_sort : Int32} {f_value : Int32} {f_word : Int64} {f_wrongAt : Int32} {f_laterFault : Int32} {f_laterPlace : Int32} {a_told : Nat → Int32} {a_read : Nat → Int32} {f_farHut : Int32} {f_farSinger : Int32} {f_good : Int32} {f_land : Int32} {f_huts : Int32} {f_singers : Int32} {f_evening : Int32} {a_at : Nat → Int32} {a_knows : Nat → Int32} {a_climbed : Nat → Int32} {a_snow : Nat → Int32} {a_level : Nat → Int32} {f_begun : Int32} {f_minute : Int32} {f_avalanches : Int32} {a_run : Nat → Int32} {a_covers : Nat → Int32} {a_routes : Nat → Int32} {a_longest : Nat → Int32} {a_steep : Nat → Int32} {a_laid : Nat → Int32} {a_far : Nat → Int32} {f_sight : Int32} {a_runs : Nat → Int32} {f_choir : Int32} {f_voices : Int32} {a_rest : Nat → Int64} {a_wins : Nat → Int32} {f_seed : Int32} {a_other : Nat → Int32} {a_kept : Nat → Int32} {post : Int32 → (Int32) → (Int32) → (Int32) → (Int32) → Prop} {x1 : Int32} {x2 : Int32} {ls : Array Slot} {H : Heap} {locs : List Loc}
    (zc : zC p s m args meth c cX11_layAll 3 RX11 (some .boolean))
    (hK : zK E s)
    (hM : mW E q f_code a_tape a_size a_fault a_faultPlace a_many a_lands a_evenings a_sights a_choirs f_reached f_length f_begins f_sort f_value f_word f_wrongAt f_laterFault f_laterPlace a_told a_read f_farHut f_farSinger f_good f_land f_huts f_singers f_evening a_at a_knows a_climbed a_snow a_level f_begun f_minute f_avalanches a_run a_covers a_routes a_longest a_steep a_laid a_far f_sight a_runs f_choir f_voices a_rest a_wins f_seed a_other a_kept H)
    (hS : va_S (mA q) s.heap H locs)
    (hl : lv_has ls 3 [(0, .ref q), (1, .int x1), (2, .int x2)])
    (hw : q_m_layAll_0 a_many a_lands f_land f_huts f_singers f_evening x1 x2 post) :
    W p l e rm_m_layAll s m args below meth c H locs 0 0 (MQ below (zQi (S := (Int32) × (Int32) × (Int32) × (Int32)) (fun r u => post r u.1 u.2.1 u.2.2.1 u.2.2.2) (fun u H => mW E q f_code a_tape a_size a_fault a_faultPlace a_many a_lands a_evenings a_sights a_choirs f_reached f_length f_begins f_sort f_value f_word f_wrongAt f_laterFault f_laterPlace a_told a_read f_farHut f_farSinger f_good u.1 u.2.1 u.2.2.1 u.2.2.2 a_at a_knows a_climbed a_snow a_level f_begun f_minute f_avalanches a_run a_covers a_routes a_longest a_steep a_laid a_far f_sight a_runs f_choir f_voices a_rest a_wins f_seed a_other a_kept H) (mA q)) args s 0 0 (mA q)) (F0 m 0 ls []) := by
  have hx := zc.1
  have hb := zc.2.1
  refine lv_aload_n hx hb dX11_layAll_0 rfl (lv_at hl 0 rfl) ?_
  refine lv_iload_n hx hb dX11_layAll_1 rfl (lv_at hl 2 rfl) ?_
  refine zVw_i [.int x2] [] zc ky_X11_hasEvening kz_X11_hasEvening km_11_331 (c_m_hasEvening l hw) (mPreV0 hK hM) hS rfl rfl hl.1 (Nat.le_of_ble_eq_true rfl) ⟨rfl, rfl⟩ ⟨Nat.le_of_ble_eq_true rfl, Nat.le_of_ble_eq_true rfl⟩ ⟨(Nat.zero_le _), (Nat.zero_le _)⟩ dX11_layAll_2 (fun r_1 f_evening_1 H locs hw hM hS => ?_)
  refine lv_if_eq (tgt := 20) hx hb dX11_layAll_5 (by decide) (fun hc => ?_) (fun hc => ?_)
  · have hw := hw.1 hc
    refine lv_iconst (v := (0 : Int32)) hx hb dX11_layAll_20 (by decide) ?_
    exact zret_zw ⟨f_land, f_huts, f_singers, f_evening_1⟩ zc hS rfl hw hM dX11_layAll_21
  · have hw := hw.2 hc
    refine lv_aload_n hx hb dX11_layAll_8 rfl (lv_at hl 0 rfl) ?_
    refine lv_iload_n hx hb dX11_layAll_9 rfl (lv_at hl 1 rfl) ?_
    refine zVw_i [.int x1] [] zc ky_X11_hand kz_X11_hand km_11_313 (c_m_hand l hw) (mPreV0 hK hM) hS rfl rfl hl.1 (Nat.le_of_ble_eq_true rfl) ⟨rfl, rfl⟩ ⟨Nat.le_of_ble_eq_true rfl, Nat.le_of_ble_eq_true rfl⟩ ⟨(Nat.zero_le _), (Nat.zero_le _)⟩ dX11_layAll_10 (fun r_2 u H locs hw hM hS => ?_)
    obtain ⟨f_land_1, f_huts_1, f_singers_1⟩ := u
    refine lv_if_eq (tgt := 20) hx hb dX11_layAll_13 (by decide) (fun hc => ?_) (fun hc => ?_)
    · have hw := hw.1 hc
      refine lv_iconst (v := (0 : Int32)) hx hb dX11_layAll_20 (by decide) ?_
      exact zret_zw ⟨f_land_1, f_huts_1, f_singers_1, f_evening_1⟩ zc hS rfl hw hM dX11_layAll_21
    · have hw := hw.2 hc
      refine lv_iconst (v := (1 : Int32)) hx hb dX11_layAll_16 (by decide) ?_
      refine lv_goto (tgt := 21) hx hb dX11_layAll_17 (by decide) ?_
      exact zret_zw ⟨f_land_1, f_huts_1, f_singers_1, f_evening_1⟩ zc hS rfl hw hM dX11_layAll_21
set_option maxRecDepth 20000 in
theorem c_m_layAll (l : Launch) {E : zE} {q : Nat} {f_code : Int32} {a_tape : Nat → Int32} {a_size : Nat → Int32} {a_fault : Nat → Int32} {a_faultPlace : Nat → Int32} {a_many : Nat → Int32} {a_lands : Nat → Int32} {a_evenings : Nat → Int32} {a_sights : Nat → Int32} {a_choirs : Nat → Int32} {f_reached : Int32} {f_length : Int32} {f_begins : Int32} {f_sort : Int32} {f_value : Int32} {f_word : Int64} {f_wrongAt : Int32} {f_laterFault : Int32} {f_laterPlace : Int32} {a_told : Nat → Int32} {a_read : Nat → Int32} {f_farHut : Int32} {f_farSinger : Int32} {f_good : Int32} {f_land : Int32} {f_huts : Int32} {f_singers : Int32} {f_evening : Int32} {a_at : Nat → Int32} {a_knows : Nat → Int32} {a_climbed : Nat → Int32} {a_snow : Nat → Int32} {a_level : Nat → Int32} {f_begun : Int32} {f_minute : Int32} {f_avalanches : Int32} {a_run : Nat → Int32} {a_covers : Nat → Int32} {a_routes : Nat → Int32} {a_longest : Nat → Int32} {a_steep : Nat → Int32} {a_laid : Nat → Int32} {a_far : Nat → Int32} {f_sight : Int32} {a_runs : Nat → Int32} {f_choir : Int32} {f_voices : Int32} {a_rest : Nat → Int64} {a_wins : Nat → Int32} {f_seed : Int32} {a_other : Nat → Int32} {a_kept : Nat → Int32} {x1 : Int32} {x2 : Int32} {post : Int32 → (Int32) → (Int32) → (Int32) → (Int32) → Prop} (hw : q_m_layAll_0 a_many a_lands f_land f_huts f_singers f_evening x1 x2 post) : Met l yX11_layAll (Cond.code yX11_layAll cX11_layAll 3 (some .boolean) :: zb) rm_m_layAll (va_Pc [.ref q, .int x1, .int x2] (fun U => mW E q f_code a_tape a_size a_fault a_faultPlace a_many a_lands a_evenings a_sights a_choirs f_reached f_length f_begins f_sort f_value f_word f_wrongAt f_laterFault f_laterPlace a_told a_read f_farHut f_farSinger f_good f_land f_huts f_singers f_evening a_at a_knows a_climbed a_snow a_level f_begun f_minute f_avalanches a_run a_covers a_routes a_longest a_steep a_laid a_far f_sight a_runs f_choir f_voices a_rest a_wins f_seed a_other a_kept U.heap ∧ zK E U)) (zQi (S := (Int32) × (Int32) × (Int32) × (Int32)) (fun r u => post r u.1 u.2.1 u.2.2.1 u.2.2.2) (fun u H => mW E q f_code a_tape a_size a_fault a_faultPlace a_many a_lands a_evenings a_sights a_choirs f_reached f_length f_begins f_sort f_value f_word f_wrongAt f_laterFault f_laterPlace a_told a_read f_farHut f_farSinger f_good u.1 u.2.1 u.2.2.1 u.2.2.2 a_at a_knows a_climbed a_snow a_level f_begun f_minute f_avalanches a_run a_covers a_routes a_longest a_steep a_laid a_far f_sight a_runs f_choir f_voices a_rest a_wins f_seed a_other a_kept H) (mA q)) 0 0 (mA q) := by
  refine Met.ofW (cc := cX11_layAll) (maxL := 3) (ret := (some .boolean)) (by decide) rfl ?_
  intro p e s m args below meth c s₁ B hml hv
  obtain ⟨rfl, hM, hK⟩ := hv
  have zc := zc_of B hml
  have hl := lv_entry ([.ref q, .int x1, .int x2]) (n := 3) (Nat.le_of_ble_eq_true rfl)
  rw [lg_entry_eq]
  generalize (lg_sl ([.ref q, .int x1, .int x2]) ++ List.replicate (3 - (lg_sl ([.ref q, .int x1, .int x2])).length) Slot.unset).toArray = ls at hl ⊢
  have hl : lv_has ls 3 [(0, .ref q), (1, .int x1), (2, .int x2)] := hl
  exact t_m_layAll_0 zc hK hM va_S.rf (lv_sub hl [0, 1, 2] rfl) hw
-- m_stop
abbrev rm_m_stop : Room := { frames := 7, cells := 0, slots := 0, locals := 156 }
def q_m_stop_0 (f_code : Int32) (a_many : Nat → Int32) (a_lands : Nat → Int32) (a_evenings : Nat → Int32) (f_land : Int32) (f_huts : Int32) (f_singers : Int32) (f_evening : Int32) (a_at : Nat → Int32) (a_knows : Nat → Int32) (a_climbed : Nat → Int32) (a_snow : Nat → Int32) (a_level : Nat → Int32) (f_begun : Int32) (f_minute : Int32) (f_avalanches : Int32) (x1 : Int32) (x2 : Int32) (post : Int32 → (Int32) → (Int32) → (Int32) → (Int32) → (Int32) → (Nat → Int32) → (Nat → Int32) → (Nat → Int32) → (Nat → Int32) → (Nat → Int32) → (Int32) → (Int32) → (Int32) → Prop) : Prop :=
  q_m_layAll_0 a_many a_lands f_land f_huts f_singers f_evening x1 x2 (fun r_1 f_land_1 f_huts_1 f_singers_1 f_evening_1 => (r_1 = 0 → (post (-1 : Int32) (0 : Int32) f_land_1 f_huts_1 f_singers_1 f_evening_1 a_at a_knows a_climbed a_snow a_level f_begun f_minute f_avalanches)) ∧ (¬ r_1 = 0 → (q_m_deeds_0 a_evenings f_evening_1 (fun r_2 => q_m_play_0 a_lands a_evenings f_land_1 f_huts_1 f_singers_1 f_evening_1 a_at a_knows a_climbed a_snow a_level f_begun f_minute f_avalanches r_2 (fun r_3 a_at_1 a_knows_1 a_climbed_1 a_snow_1 a_level_1 f_begun_1 f_minute_1 f_avalanches_1 => post r_3 (0 : Int32) f_land_1 f_huts_1 f_singers_1 f_evening_1 a_at_1 a_knows_1 a_climbed_1 a_snow_1 a_level_1 f_begun_1 f_minute_1 f_avalanches_1)))))
set_option maxRecDepth 20000 in
theorem t_m_stop_0 {p : Program} {l : Launch} {e : Env} {s : State} {m : MethodId} {args : Array Value} {below : List Frame} {meth : Method} {c : Code} {E : zE} {q : Nat} {f_code : Int32} {a_tape : Nat → Int32} {a_size : Nat → Int32} {a_fault : Nat → Int32} {a_faultPlace : Nat → Int32} {a_many : Nat → Int32} {a_lands : Nat → Int32} {a_evenings : Nat → Int32} {a_sights : Nat → Int32} {a_choirs : Nat → Int32} {f_reached : Int32} {f_length : Int32} {f_begins : Int32} {f_sort : Int32} {f_value : Int32} {f_word : Int64} {f_wrongAt : Int32} {f_laterFault : Int32} {f_laterPlace : Int32} {a_told : Nat → Int32} {a_read : Nat → Int32} {f_farHut : Int32} {f_farSinger : Int32} {f_good : Int32} {f_land : Int32} {f_huts : Int32} {f_singers : Int32} {f_evening : Int32} {a_at : Nat → Int32} {a_knows : Nat → Int32} {a_climbed : Nat → Int32} {a_snow : Nat → Int32} {a_level : Nat → Int32} {f_begun : Int32} {f_minute : Int32} {f_avalanches : Int32} {a_run : Nat → Int32} {a_covers : Nat → Int32} {a_routes : Nat → Int32} {a_longest : Nat → Int32} {a_steep : Nat → Int32} {a_laid : Nat → Int32} {a_far : Nat → Int32} {f_sight : Int32} {a_runs : Nat → Int32} {f_choir : Int32} {f_voices : Int32} {a_rest : Nat → Int64} {a_wins : Nat → Int32} {f_seed : Int32} {a_other : Nat → Int32} {a_kept : Nat → Int32} {post : Int32 → (Int32) → (Int32) → (Int32) → (Int32) → (Int32) → (Nat → Int32) → (Nat → Int32) → (Nat → Int32) → (Nat → Int32) → (Nat → Int32) → (Int32) → (Int32) → (Int32) → Prop} {x1 : Int32} {x2 : Int32} {ls : Array Slot} {H : Heap} {locs : List Loc}
    (zc : zC p s m args meth c cX11_stop 3 RX11 (some .int))
    (hK : zK E s)
    (hM : mW E q f_code a_tape a_size a_fault a_faultPlace a_many a_lands a_evenings a_sights a_choirs f_reached f_length f_begins f_sort f_value f_word f_wrongAt f_laterFault f_laterPlace a_told a_read f_farHut f_farSinger f_good f_land f_huts f_singers f_evening a_at a_knows a_climbed a_snow a_level f_begun f_minute f_avalanches a_run a_covers a_routes a_longest a_steep a_laid a_far f_sight a_runs f_choir f_voices a_rest a_wins f_seed a_other a_kept H)
    (hS : va_S (mA q) s.heap H locs)
    (hl : lv_has ls 3 [(0, .ref q), (1, .int x1), (2, .int x2)])
    (hw : q_m_stop_0 f_code a_many a_lands a_evenings f_land f_huts f_singers f_evening a_at a_knows a_climbed a_snow a_level f_begun f_minute f_avalanches x1 x2 post) :
    W p l e rm_m_stop s m args below meth c H locs 0 0 (MQ below (zQi (S := (Int32) × (Int32) × (Int32) × (Int32) × (Int32) × (Nat → Int32) × (Nat → Int32) × (Nat → Int32) × (Nat → Int32) × (Nat → Int32) × (Int32) × (Int32) × (Int32)) (fun r u => post r u.1 u.2.1 u.2.2.1 u.2.2.2.1 u.2.2.2.2.1 u.2.2.2.2.2.1 u.2.2.2.2.2.2.1 u.2.2.2.2.2.2.2.1 u.2.2.2.2.2.2.2.2.1 u.2.2.2.2.2.2.2.2.2.1 u.2.2.2.2.2.2.2.2.2.2.1 u.2.2.2.2.2.2.2.2.2.2.2.1 u.2.2.2.2.2.2.2.2.2.2.2.2) (fun u H => mW E q u.1 a_tape a_size a_fault a_faultPlace a_many a_lands a_evenings a_sights a_choirs f_reached f_length f_begins f_sort f_value f_word f_wrongAt f_laterFault f_laterPlace a_told a_read f_farHut f_farSinger f_good u.2.1 u.2.2.1 u.2.2.2.1 u.2.2.2.2.1 u.2.2.2.2.2.1 u.2.2.2.2.2.2.1 u.2.2.2.2.2.2.2.1 u.2.2.2.2.2.2.2.2.1 u.2.2.2.2.2.2.2.2.2.1 u.2.2.2.2.2.2.2.2.2.2.1 u.2.2.2.2.2.2.2.2.2.2.2.1 u.2.2.2.2.2.2.2.2.2.2.2.2 a_run a_covers a_routes a_longest a_steep a_laid a_far f_sight a_runs f_choir f_voices a_rest a_wins f_seed a_other a_kept H) (mA q)) args s 0 0 (mA q)) (F0 m 0 ls []) := by
  have hx := zc.1
  have hb := zc.2.1
  refine lv_aload_n hx hb dX11_stop_0 rfl (lv_at hl 0 rfl) ?_
  refine lv_iconst (v := (0 : Int32)) hx hb dX11_stop_1 (by decide) ?_
  refine mp_11_97_0 zc hK hM hS dX11_stop_2 (fun H locs hM hS => ?_)
  refine lv_aload_n hx hb dX11_stop_5 rfl (lv_at hl 0 rfl) ?_
  refine lv_iload_n hx hb dX11_stop_6 rfl (lv_at hl 1 rfl) ?_
  refine lv_iload_n hx hb dX11_stop_7 rfl (lv_at hl 2 rfl) ?_
  refine zVw_i [.int x1, .int x2] [] zc ky_X11_layAll kz_X11_layAll km_11_383 (c_m_layAll l hw) (mPreV0 hK hM) hS rfl rfl hl.1 (Nat.le_of_ble_eq_true rfl) ⟨rfl, rfl⟩ ⟨Nat.le_of_ble_eq_true rfl, Nat.le_of_ble_eq_true rfl⟩ ⟨(Nat.zero_le _), (Nat.zero_le _)⟩ dX11_stop_8 (fun r_1 u H locs hw hM hS => ?_)
  obtain ⟨f_land_1, f_huts_1, f_singers_1, f_evening_1⟩ := u
  refine lv_if_eq (tgt := 25) hx hb dX11_stop_11 (by decide) (fun hc => ?_) (fun hc => ?_)
  · have hw := hw.1 hc
    refine lv_iconst (v := (-1 : Int32)) hx hb dX11_stop_25 (by decide) ?_
    exact zret_iw ⟨(0 : Int32), f_land_1, f_huts_1, f_singers_1, f_evening_1, a_at, a_knows, a_climbed, a_snow, a_level, f_begun, f_minute, f_avalanches⟩ zc hS hw hM dX11_stop_26
  · have hw := hw.2 hc
    refine lv_aload_n hx hb dX11_stop_14 rfl (lv_at hl 0 rfl) ?_
    refine lv_aload_n hx hb dX11_stop_15 rfl (lv_at hl 0 rfl) ?_
    refine zV_i [] [.ref q] zc ky_X11_deeds kz_X11_deeds km_11_334 (c_m_deeds l hw) (mPreV0 hK hM) rfl rfl hl.1 (Nat.le_of_ble_eq_true rfl) ⟨rfl, rfl⟩ ⟨Nat.le_of_ble_eq_true rfl, Nat.le_of_ble_eq_true rfl⟩ ⟨(Nat.zero_le _), (Nat.zero_le _)⟩ dX11_stop_16 (fun r_2 hw => ?_)
    refine zVw_i [.int r_2] [] zc ky_X11_play kz_X11_play km_11_386 (c_m_play l hw) (mPreV0 hK hM) hS rfl rfl hl.1 (Nat.le_of_ble_eq_true rfl) ⟨rfl, rfl⟩ ⟨Nat.le_of_ble_eq_true rfl, Nat.le_of_ble_eq_true rfl⟩ ⟨(Nat.zero_le _), (Nat.zero_le _)⟩ dX11_stop_19 (fun r_3 u H locs hw hM hS => ?_)
    obtain ⟨a_at_1, a_knows_1, a_climbed_1, a_snow_1, a_level_1, f_begun_1, f_minute_1, f_avalanches_1⟩ := u
    refine lv_goto (tgt := 26) hx hb dX11_stop_22 (by decide) ?_
    exact zret_iw ⟨(0 : Int32), f_land_1, f_huts_1, f_singers_1, f_evening_1, a_at_1, a_knows_1, a_climbed_1, a_snow_1, a_level_1, f_begun_1, f_minute_1, f_avalanches_1⟩ zc hS hw hM dX11_stop_26
set_option maxRecDepth 20000 in
theorem c_m_stop (l : Launch) {E : zE} {q : Nat} {f_code : Int32} {a_tape : Nat → Int32} {a_size : Nat → Int32} {a_fault : Nat → Int32} {a_faultPlace : Nat → Int32} {a_many : Nat → Int32} {a_lands : Nat → Int32} {a_evenings : Nat → Int32} {a_sights : Nat → Int32} {a_choirs : Nat → Int32} {f_reached : Int32} {f_length : Int32} {f_begins : Int32} {f_sort : Int32} {f_value : Int32} {f_word : Int64} {f_wrongAt : Int32} {f_laterFault : Int32} {f_laterPlace : Int32} {a_told : Nat → Int32} {a_read : Nat → Int32} {f_farHut : Int32} {f_farSinger : Int32} {f_good : Int32} {f_land : Int32} {f_huts : Int32} {f_singers : Int32} {f_evening : Int32} {a_at : Nat → Int32} {a_knows : Nat → Int32} {a_climbed : Nat → Int32} {a_snow : Nat → Int32} {a_level : Nat → Int32} {f_begun : Int32} {f_minute : Int32} {f_avalanches : Int32} {a_run : Nat → Int32} {a_covers : Nat → Int32} {a_routes : Nat → Int32} {a_longest : Nat → Int32} {a_steep : Nat → Int32} {a_laid : Nat → Int32} {a_far : Nat → Int32} {f_sight : Int32} {a_runs : Nat → Int32} {f_choir : Int32} {f_voices : Int32} {a_rest : Nat → Int64} {a_wins : Nat → Int32} {f_seed : Int32} {a_other : Nat → Int32} {a_kept : Nat → Int32} {x1 : Int32} {x2 : Int32} {post : Int32 → (Int32) → (Int32) → (Int32) → (Int32) → (Int32) → (Nat → Int32) → (Nat → Int32) → (Nat → Int32) → (Nat → Int32) → (Nat → Int32) → (Int32) → (Int32) → (Int32) → Prop} (hw : q_m_stop_0 f_code a_many a_lands a_evenings f_land f_huts f_singers f_evening a_at a_knows a_climbed a_snow a_level f_begun f_minute f_avalanches x1 x2 post) : Met l yX11_stop (Cond.code yX11_stop cX11_stop 3 (some .int) :: zb) rm_m_stop (va_Pc [.ref q, .int x1, .int x2] (fun U => mW E q f_code a_tape a_size a_fault a_faultPlace a_many a_lands a_evenings a_sights a_choirs f_reached f_length f_begins f_sort f_value f_word f_wrongAt f_laterFault f_laterPlace a_told a_read f_farHut f_farSinger f_good f_land f_huts f_singers f_evening a_at a_knows a_climbed a_snow a_level f_begun f_minute f_avalanches a_run a_covers a_routes a_longest a_steep a_laid a_far f_sight a_runs f_choir f_voices a_rest a_wins f_seed a_other a_kept U.heap ∧ zK E U)) (zQi (S := (Int32) × (Int32) × (Int32) × (Int32) × (Int32) × (Nat → Int32) × (Nat → Int32) × (Nat → Int32) × (Nat → Int32) × (Nat → Int32) × (Int32) × (Int32) × (Int32)) (fun r u => post r u.1 u.2.1 u.2.2.1 u.2.2.2.1 u.2.2.2.2.1 u.2.2.2.2.2.1 u.2.2.2.2.2.2.1 u.2.2.2.2.2.2.2.1 u.2.2.2.2.2.2.2.2.1 u.2.2.2.2.2.2.2.2.2.1 u.2.2.2.2.2.2.2.2.2.2.1 u.2.2.2.2.2.2.2.2.2.2.2.1 u.2.2.2.2.2.2.2.2.2.2.2.2) (fun u H => mW E q u.1 a_tape a_size a_fault a_faultPlace a_many a_lands a_evenings a_sights a_choirs f_reached f_length f_begins f_sort f_value f_word f_wrongAt f_laterFault f_laterPlace a_told a_read f_farHut f_farSinger f_good u.2.1 u.2.2.1 u.2.2.2.1 u.2.2.2.2.1 u.2.2.2.2.2.1 u.2.2.2.2.2.2.1 u.2.2.2.2.2.2.2.1 u.2.2.2.2.2.2.2.2.1 u.2.2.2.2.2.2.2.2.2.1 u.2.2.2.2.2.2.2.2.2.2.1 u.2.2.2.2.2.2.2.2.2.2.2.1 u.2.2.2.2.2.2.2.2.2.2.2.2 a_run a_covers a_routes a_longest a_steep a_laid a_far f_sight a_runs f_choir f_voices a_rest a_wins f_seed a_other a_kept H) (mA q)) 0 0 (mA q) := by
  refine Met.ofW (cc := cX11_stop) (maxL := 3) (ret := (some .int)) (by decide) rfl ?_
  intro p e s m args below meth c s₁ B hml hv
  obtain ⟨rfl, hM, hK⟩ := hv
  have zc := zc_of B hml
  have hl := lv_entry ([.ref q, .int x1, .int x2]) (n := 3) (Nat.le_of_ble_eq_true rfl)
  rw [lg_entry_eq]
  generalize (lg_sl ([.ref q, .int x1, .int x2]) ++ List.replicate (3 - (lg_sl ([.ref q, .int x1, .int x2])).length) Slot.unset).toArray = ls at hl ⊢
  have hl : lv_has ls 3 [(0, .ref q), (1, .int x1), (2, .int x2)] := hl
  exact t_m_stop_0 zc hK hM va_S.rf (lv_sub hl [0, 1, 2] rfl) hw
-- m_reach
abbrev rm_m_reach : Room := { frames := 2, cells := 0, slots := 0, locals := 43 }
def q_m_reach_92 (P11 : Int32 → Int32 → Prop) (P33 : Int32 → Int32 → Prop) (P45 : Int32 → Int32 → Prop) (a_lands : Nat → Int32) (f_land : Int32) (f_huts : Int32) (a_at : Nat → Int32) (a_snow : Nat → Int32) (x1 : Int32) (x3 : Int32) (x4 : Int32) (x5 : Int32) (y0 : Int32) (y1 : Int32) (post : Int32 → Prop) : Prop :=
  ∀ v_1 : Int32, v_1 = (y0 ||| y1) → (∀ v_2 : Int32, v_2 = x5 + (1 : Int32) → (P45 v_1 v_2))
def q_m_reach_91 (P11 : Int32 → Int32 → Prop) (P33 : Int32 → Int32 → Prop) (P45 : Int32 → Int32 → Prop) (a_lands : Nat → Int32) (f_land : Int32) (f_huts : Int32) (a_at : Nat → Int32) (a_snow : Nat → Int32) (x1 : Int32) (x3 : Int32) (x4 : Int32) (x5 : Int32) (y0 : Int32) (post : Int32 → Prop) : Prop :=
  q_m_reach_92 P11 P33 P45 a_lands f_land f_huts a_at a_snow x1 x3 x4 x5 y0 (0 : Int32) post
def q_m_reach_45 (P11 : Int32 → Int32 → Prop) (P33 : Int32 → Int32 → Prop) (a_lands : Nat → Int32) (f_land : Int32) (f_huts : Int32) (a_at : Nat → Int32) (a_snow : Nat → Int32) (x1 : Int32) (x2 : Int32) (x3 : Int32) (x4 : Int32) (x5 : Int32) (post : Int32 → Prop) : Prop :=
  ∀ P45 : Int32 → Int32 → Prop, (∀ (x2 : Int32) (x5 : Int32), ((f_huts ≤ x5 → (∀ v_1 : Int32, v_1 = x4 + (1 : Int32) → (P33 x2 v_1))) ∧ (¬ f_huts ≤ x5 → (q_m_has_0 x2 x4 (fun r_1 => (r_1 = 0 → (q_m_reach_91 P11 P33 P45 a_lands f_land f_huts a_at a_snow x1 x3 x4 x5 x2 post)) ∧ (¬ r_1 = 0 → (q_m_way_0 a_lands f_land x4 x5 (fun r_2 => (r_2 ≤ 0 → (q_m_reach_91 P11 P33 P45 a_lands f_land f_huts a_at a_snow x1 x3 x4 x5 x2 post)) ∧ (¬ r_2 ≤ 0 → (q_m_isCut_0 a_lands f_land a_snow x5 (fun r_3 => (¬ r_3 = 0 → (q_m_reach_91 P11 P33 P45 a_lands f_land f_huts a_at a_snow x1 x3 x4 x5 x2 post)) ∧ (r_3 = 0 → (q_m_reach_92 P11 P33 P45 a_lands f_land f_huts a_at a_snow x1 x3 x4 x5 x2 ((1 : Int32) <<< (x5 &&& 31)) post)))))))))))) → P45 x2 x5) → P45 x2 x5
def q_m_reach_33 (P11 : Int32 → Int32 → Prop) (a_lands : Nat → Int32) (f_land : Int32) (f_huts : Int32) (a_at : Nat → Int32) (a_snow : Nat → Int32) (x1 : Int32) (x2 : Int32) (x3 : Int32) (x4 : Int32) (post : Int32 → Prop) : Prop :=
  ∀ P33 : Int32 → Int32 → Prop, (∀ (x2 : Int32) (x4 : Int32), ((f_huts ≤ x4 → (∀ v_1 : Int32, v_1 = x3 + (1 : Int32) → (P11 x2 v_1))) ∧ (¬ f_huts ≤ x4 → (q_m_reach_45 P11 P33 a_lands f_land f_huts a_at a_snow x1 x2 x3 x4 (0 : Int32) post))) → P33 x2 x4) → P33 x2 x4
def q_m_reach_11 (a_lands : Nat → Int32) (f_land : Int32) (f_huts : Int32) (a_at : Nat → Int32) (a_snow : Nat → Int32) (x1 : Int32) (x2 : Int32) (x3 : Int32) (post : Int32 → Prop) : Prop :=
  ∀ P11 : Int32 → Int32 → Prop, (∀ (x2 : Int32) (x3 : Int32), (((9 : Int32) ≤ x3 → (post x2)) ∧ (¬ (9 : Int32) ≤ x3 → (vp_in x1 6 ∧ (q_m_isCut_0 a_lands f_land a_snow (a_at (Int32.toNatClampNeg x1)) (fun r_1 => (¬ r_1 = 0 → (post x2)) ∧ (r_1 = 0 → (q_m_reach_33 P11 a_lands f_land f_huts a_at a_snow x1 x2 x3 (0 : Int32) post))))))) → P11 x2 x3) → P11 x2 x3
def q_m_reach_0 (a_lands : Nat → Int32) (f_land : Int32) (f_huts : Int32) (a_at : Nat → Int32) (a_snow : Nat → Int32) (x1 : Int32) (post : Int32 → Prop) : Prop :=
  vp_in x1 6 ∧ (∀ v_1 : Int32, v_1 = ((1 : Int32) <<< ((a_at (Int32.toNatClampNeg x1)) &&& 31)) → (q_m_reach_11 a_lands f_land f_huts a_at a_snow x1 v_1 (0 : Int32) post))
set_option maxRecDepth 20000 in
theorem t_m_reach_92 {p : Program} {l : Launch} {e : Env} {s : State} {m : MethodId} {args : Array Value} {below : List Frame} {meth : Method} {c : Code} {E : zE} {q : Nat} {f_code : Int32} {a_tape : Nat → Int32} {a_size : Nat → Int32} {a_fault : Nat → Int32} {a_faultPlace : Nat → Int32} {a_many : Nat → Int32} {a_lands : Nat → Int32} {a_evenings : Nat → Int32} {a_sights : Nat → Int32} {a_choirs : Nat → Int32} {f_reached : Int32} {f_length : Int32} {f_begins : Int32} {f_sort : Int32} {f_value : Int32} {f_word : Int64} {f_wrongAt : Int32} {f_laterFault : Int32} {f_laterPlace : Int32} {a_told : Nat → Int32} {a_read : Nat → Int32} {f_farHut : Int32} {f_farSinger : Int32} {f_good : Int32} {f_land : Int32} {f_huts : Int32} {f_singers : Int32} {f_evening : Int32} {a_at : Nat → Int32} {a_knows : Nat → Int32} {a_climbed : Nat → Int32} {a_snow : Nat → Int32} {a_level : Nat → Int32} {f_begun : Int32} {f_minute : Int32} {f_avalanches : Int32} {a_run : Nat → Int32} {a_covers : Nat → Int32} {a_routes : Nat → Int32} {a_longest : Nat → Int32} {a_steep : Nat → Int32} {a_laid : Nat → Int32} {a_far : Nat → Int32} {f_sight : Int32} {a_runs : Nat → Int32} {f_choir : Int32} {f_voices : Int32} {a_rest : Nat → Int64} {a_wins : Nat → Int32} {f_seed : Int32} {a_other : Nat → Int32} {a_kept : Nat → Int32} {P11 : Int32 → Int32 → Prop} {P33 : Int32 → Int32 → Prop} {P45 : Int32 → Int32 → Prop} {post : Int32 → Prop} {x1 : Int32} {x3 : Int32} {x4 : Int32} {x5 : Int32} {y0 : Int32} {y1 : Int32} {ls : Array Slot}
    (zc : zC p s m args meth c cX11_reach 6 RX11 (some .int))
    (hK : zK E s)
    (hM : mW E q f_code a_tape a_size a_fault a_faultPlace a_many a_lands a_evenings a_sights a_choirs f_reached f_length f_begins f_sort f_value f_word f_wrongAt f_laterFault f_laterPlace a_told a_read f_farHut f_farSinger f_good f_land f_huts f_singers f_evening a_at a_knows a_climbed a_snow a_level f_begun f_minute f_avalanches a_run a_covers a_routes a_longest a_steep a_laid a_far f_sight a_runs f_choir f_voices a_rest a_wins f_seed a_other a_kept s.heap)
    (hP11 : ∀ (x2 : Int32) (x3 : Int32) (ls : Array Slot), P11 x2 x3 → lv_has ls 6 [(0, .ref q), (1, .int x1), (2, .int x2), (3, .int x3)] → W p l e rm_m_reach s m args below meth c s.heap [] 0 0 (MQ below (vp_Si post) args s 0 0 (fun _ => False)) (F0 m 11 ls []))
    (hP33 : ∀ (x2 : Int32) (x4 : Int32) (ls : Array Slot), P33 x2 x4 → lv_has ls 6 [(0, .ref q), (1, .int x1), (2, .int x2), (3, .int x3), (4, .int x4)] → W p l e rm_m_reach s m args below meth c s.heap [] 0 0 (MQ below (vp_Si post) args s 0 0 (fun _ => False)) (F0 m 33 ls []))
    (hP45 : ∀ (x2 : Int32) (x5 : Int32) (ls : Array Slot), P45 x2 x5 → lv_has ls 6 [(0, .ref q), (1, .int x1), (2, .int x2), (3, .int x3), (4, .int x4), (5, .int x5)] → W p l e rm_m_reach s m args below meth c s.heap [] 0 0 (MQ below (vp_Si post) args s 0 0 (fun _ => False)) (F0 m 45 ls []))
    (hl : lv_has ls 6 [(0, .ref q), (1, .int x1), (3, .int x3), (4, .int x4), (5, .int x5)])
    (hw : q_m_reach_92 P11 P33 P45 a_lands f_land f_huts a_at a_snow x1 x3 x4 x5 y0 y1 post) :
    W p l e rm_m_reach s m args below meth c s.heap [] 0 0 (MQ below (vp_Si post) args s 0 0 (fun _ => False)) (F0 m 92 ls [.int y1, .int y0]) := by
  have hx := zc.1
  have hb := zc.2.1
  refine lv_ior hx hb dX11_reach_92 ?_
  refine lv_topi (fun v_1 ev_1 => ?_)
  have hw := hw v_1 ev_1
  refine lv_istore_n (lv' := [(2, .int v_1), (0, .ref q), (1, .int x1), (3, .int x3), (4, .int x4), (5, .int x5)]) hx hb dX11_reach_93 rfl hl (by decide) rfl (fun ls hl => ?_)
  obtain ⟨v_2, ev_2⟩ : ∃ y : Int32, y = x5 + (1 : Int32) := ⟨_, rfl⟩
  have hw := hw v_2 ev_2
  refine lv_iinc (v := v_2) (k := 5) (lv' := [(5, .int v_2), (2, .int v_1), (0, .ref q), (1, .int x1), (3, .int x3), (4, .int x4)]) hx hb dX11_reach_94 hl rfl (by rw [ev_2]; rfl) (by decide) rfl (fun ls hl => ?_)
  refine lv_goto (tgt := 45) hx hb dX11_reach_97 (by decide) ?_
  exact hP45 _ _ _ hw (lv_sub hl [2, 3, 1, 4, 5, 0] rfl)
set_option maxRecDepth 20000 in
theorem t_m_reach_91 {p : Program} {l : Launch} {e : Env} {s : State} {m : MethodId} {args : Array Value} {below : List Frame} {meth : Method} {c : Code} {E : zE} {q : Nat} {f_code : Int32} {a_tape : Nat → Int32} {a_size : Nat → Int32} {a_fault : Nat → Int32} {a_faultPlace : Nat → Int32} {a_many : Nat → Int32} {a_lands : Nat → Int32} {a_evenings : Nat → Int32} {a_sights : Nat → Int32} {a_choirs : Nat → Int32} {f_reached : Int32} {f_length : Int32} {f_begins : Int32} {f_sort : Int32} {f_value : Int32} {f_word : Int64} {f_wrongAt : Int32} {f_laterFault : Int32} {f_laterPlace : Int32} {a_told : Nat → Int32} {a_read : Nat → Int32} {f_farHut : Int32} {f_farSinger : Int32} {f_good : Int32} {f_land : Int32} {f_huts : Int32} {f_singers : Int32} {f_evening : Int32} {a_at : Nat → Int32} {a_knows : Nat → Int32} {a_climbed : Nat → Int32} {a_snow : Nat → Int32} {a_level : Nat → Int32} {f_begun : Int32} {f_minute : Int32} {f_avalanches : Int32} {a_run : Nat → Int32} {a_covers : Nat → Int32} {a_routes : Nat → Int32} {a_longest : Nat → Int32} {a_steep : Nat → Int32} {a_laid : Nat → Int32} {a_far : Nat → Int32} {f_sight : Int32} {a_runs : Nat → Int32} {f_choir : Int32} {f_voices : Int32} {a_rest : Nat → Int64} {a_wins : Nat → Int32} {f_seed : Int32} {a_other : Nat → Int32} {a_kept : Nat → Int32} {P11 : Int32 → Int32 → Prop} {P33 : Int32 → Int32 → Prop} {P45 : Int32 → Int32 → Prop} {post : Int32 → Prop} {x1 : Int32} {x3 : Int32} {x4 : Int32} {x5 : Int32} {y0 : Int32} {ls : Array Slot}
    (zc : zC p s m args meth c cX11_reach 6 RX11 (some .int))
    (hK : zK E s)
    (hM : mW E q f_code a_tape a_size a_fault a_faultPlace a_many a_lands a_evenings a_sights a_choirs f_reached f_length f_begins f_sort f_value f_word f_wrongAt f_laterFault f_laterPlace a_told a_read f_farHut f_farSinger f_good f_land f_huts f_singers f_evening a_at a_knows a_climbed a_snow a_level f_begun f_minute f_avalanches a_run a_covers a_routes a_longest a_steep a_laid a_far f_sight a_runs f_choir f_voices a_rest a_wins f_seed a_other a_kept s.heap)
    (hP11 : ∀ (x2 : Int32) (x3 : Int32) (ls : Array Slot), P11 x2 x3 → lv_has ls 6 [(0, .ref q), (1, .int x1), (2, .int x2), (3, .int x3)] → W p l e rm_m_reach s m args below meth c s.heap [] 0 0 (MQ below (vp_Si post) args s 0 0 (fun _ => False)) (F0 m 11 ls []))
    (hP33 : ∀ (x2 : Int32) (x4 : Int32) (ls : Array Slot), P33 x2 x4 → lv_has ls 6 [(0, .ref q), (1, .int x1), (2, .int x2), (3, .int x3), (4, .int x4)] → W p l e rm_m_reach s m args below meth c s.heap [] 0 0 (MQ below (vp_Si post) args s 0 0 (fun _ => False)) (F0 m 33 ls []))
    (hP45 : ∀ (x2 : Int32) (x5 : Int32) (ls : Array Slot), P45 x2 x5 → lv_has ls 6 [(0, .ref q), (1, .int x1), (2, .int x2), (3, .int x3), (4, .int x4), (5, .int x5)] → W p l e rm_m_reach s m args below meth c s.heap [] 0 0 (MQ below (vp_Si post) args s 0 0 (fun _ => False)) (F0 m 45 ls []))
    (hl : lv_has ls 6 [(0, .ref q), (1, .int x1), (3, .int x3), (4, .int x4), (5, .int x5)])
    (hw : q_m_reach_91 P11 P33 P45 a_lands f_land f_huts a_at a_snow x1 x3 x4 x5 y0 post) :
    W p l e rm_m_reach s m args below meth c s.heap [] 0 0 (MQ below (vp_Si post) args s 0 0 (fun _ => False)) (F0 m 91 ls [.int y0]) := by
  have hx := zc.1
  have hb := zc.2.1
  refine lv_iconst (v := (0 : Int32)) hx hb dX11_reach_91 (by decide) ?_
  exact t_m_reach_92 zc hK hM hP11 hP33 hP45 (lv_sub hl [0, 1, 2, 3, 4] rfl) hw
set_option maxRecDepth 20000 in
theorem t_m_reach_45 {p : Program} {l : Launch} {e : Env} {s : State} {m : MethodId} {args : Array Value} {below : List Frame} {meth : Method} {c : Code} {E : zE} {q : Nat} {f_code : Int32} {a_tape : Nat → Int32} {a_size : Nat → Int32} {a_fault : Nat → Int32} {a_faultPlace : Nat → Int32} {a_many : Nat → Int32} {a_lands : Nat → Int32} {a_evenings : Nat → Int32} {a_sights : Nat → Int32} {a_choirs : Nat → Int32} {f_reached : Int32} {f_length : Int32} {f_begins : Int32} {f_sort : Int32} {f_value : Int32} {f_word : Int64} {f_wrongAt : Int32} {f_laterFault : Int32} {f_laterPlace : Int32} {a_told : Nat → Int32} {a_read : Nat → Int32} {f_farHut : Int32} {f_farSinger : Int32} {f_good : Int32} {f_land : Int32} {f_huts : Int32} {f_singers : Int32} {f_evening : Int32} {a_at : Nat → Int32} {a_knows : Nat → Int32} {a_climbed : Nat → Int32} {a_snow : Nat → Int32} {a_level : Nat → Int32} {f_begun : Int32} {f_minute : Int32} {f_avalanches : Int32} {a_run : Nat → Int32} {a_covers : Nat → Int32} {a_routes : Nat → Int32} {a_longest : Nat → Int32} {a_steep : Nat → Int32} {a_laid : Nat → Int32} {a_far : Nat → Int32} {f_sight : Int32} {a_runs : Nat → Int32} {f_choir : Int32} {f_voices : Int32} {a_rest : Nat → Int64} {a_wins : Nat → Int32} {f_seed : Int32} {a_other : Nat → Int32} {a_kept : Nat → Int32} {P11 : Int32 → Int32 → Prop} {P33 : Int32 → Int32 → Prop} {post : Int32 → Prop} {x1 : Int32} {x2 : Int32} {x3 : Int32} {x4 : Int32} {x5 : Int32} {ls : Array Slot}
    (zc : zC p s m args meth c cX11_reach 6 RX11 (some .int))
    (hK : zK E s)
    (hM : mW E q f_code a_tape a_size a_fault a_faultPlace a_many a_lands a_evenings a_sights a_choirs f_reached f_length f_begins f_sort f_value f_word f_wrongAt f_laterFault f_laterPlace a_told a_read f_farHut f_farSinger f_good f_land f_huts f_singers f_evening a_at a_knows a_climbed a_snow a_level f_begun f_minute f_avalanches a_run a_covers a_routes a_longest a_steep a_laid a_far f_sight a_runs f_choir f_voices a_rest a_wins f_seed a_other a_kept s.heap)
    (hP11 : ∀ (x2 : Int32) (x3 : Int32) (ls : Array Slot), P11 x2 x3 → lv_has ls 6 [(0, .ref q), (1, .int x1), (2, .int x2), (3, .int x3)] → W p l e rm_m_reach s m args below meth c s.heap [] 0 0 (MQ below (vp_Si post) args s 0 0 (fun _ => False)) (F0 m 11 ls []))
    (hP33 : ∀ (x2 : Int32) (x4 : Int32) (ls : Array Slot), P33 x2 x4 → lv_has ls 6 [(0, .ref q), (1, .int x1), (2, .int x2), (3, .int x3), (4, .int x4)] → W p l e rm_m_reach s m args below meth c s.heap [] 0 0 (MQ below (vp_Si post) args s 0 0 (fun _ => False)) (F0 m 33 ls []))
    (hl : lv_has ls 6 [(0, .ref q), (1, .int x1), (2, .int x2), (3, .int x3), (4, .int x4), (5, .int x5)])
    (hw : q_m_reach_45 P11 P33 a_lands f_land f_huts a_at a_snow x1 x2 x3 x4 x5 post) :
    W p l e rm_m_reach s m args below meth c s.heap [] 0 0 (MQ below (vp_Si post) args s 0 0 (fun _ => False)) (F0 m 45 ls []) := by
  have hx := zc.1
  have hb := zc.2.1
  refine hw (fun x2 x5 => ∀ (ls : Array Slot), lv_has ls 6 [(0, .ref q), (1, .int x1), (2, .int x2), (3, .int x3), (4, .int x4), (5, .int x5)] → W p l e rm_m_reach s m args below meth c s.heap [] 0 0 (MQ below (vp_Si post) args s 0 0 (fun _ => False)) (F0 m 45 ls [])) ?_ _ hl
  intro x2 x5 hw ls hl
  refine lv_iload hx hb dX11_reach_45 (lv_at hl 5 rfl) ?_
  refine lv_aload_n hx hb dX11_reach_47 rfl (lv_at hl 0 rfl) ?_
  refine mg_11_307_0 zc hK hM dX11_reach_48 ?_
  refine lv_icmp_ge (tgt := 100) hx hb dX11_reach_51 (by decide) (fun hc => ?_) (fun hc => ?_)
  · have hw := hw.1 hc
    obtain ⟨v_1, ev_1⟩ : ∃ y : Int32, y = x4 + (1 : Int32) := ⟨_, rfl⟩
    have hw := hw v_1 ev_1
    refine lv_iinc (v := v_1) (k := 4) (lv' := [(4, .int v_1), (0, .ref q), (1, .int x1), (2, .int x2), (3, .int x3), (5, .int x5)]) hx hb dX11_reach_100 hl rfl (by rw [ev_1]; rfl) (by decide) rfl (fun ls hl => ?_)
    refine lv_goto (tgt := 33) hx hb dX11_reach_103 (by decide) ?_
    exact hP33 _ _ _ hw (lv_sub hl [1, 2, 3, 4, 0] rfl)
  · have hw := hw.2 hc
    refine lv_iload_n hx hb dX11_reach_54 rfl (lv_at hl 2 rfl) ?_
    refine lv_iload_n hx hb dX11_reach_55 rfl (lv_at hl 2 rfl) ?_
    refine lv_iload hx hb dX11_reach_56 (lv_at hl 4 rfl) ?_
    refine zS_i [.int x2, .int x4] [.int x2] zc ky_X11_has kz_X11_has km_11_101 (c_m_has l hw) (zPre0 _) rfl rfl hl.1 (Nat.le_of_ble_eq_true rfl) ⟨rfl, rfl⟩ ⟨Nat.le_of_ble_eq_true rfl, Nat.le_of_ble_eq_true rfl⟩ ⟨(Nat.zero_le _), (Nat.zero_le _)⟩ dX11_reach_58 (fun r_1 hw => ?_)
    refine lv_if_eq (tgt := 91) hx hb dX11_reach_61 (by decide) (fun hc => ?_) (fun hc => ?_)
    · have hw := hw.1 hc
      exact t_m_reach_91 zc hK hM hP11 hP33 (fun _ _ ls h hl => h ls hl) (lv_sub hl [0, 1, 3, 4, 5] rfl) hw
    · have hw := hw.2 hc
      refine lv_aload_n hx hb dX11_reach_64 rfl (lv_at hl 0 rfl) ?_
      refine lv_iload hx hb dX11_reach_65 (lv_at hl 4 rfl) ?_
      refine lv_iload hx hb dX11_reach_67 (lv_at hl 5 rfl) ?_
      refine zV_i [.int x4, .int x5] [.int x2] zc ky_X11_way kz_X11_way km_11_319 (c_m_way l hw) (mPreV0 hK hM) rfl rfl hl.1 (Nat.le_of_ble_eq_true rfl) ⟨rfl, rfl⟩ ⟨Nat.le_of_ble_eq_true rfl, Nat.le_of_ble_eq_true rfl⟩ ⟨(Nat.zero_le _), (Nat.zero_le _)⟩ dX11_reach_69 (fun r_2 hw => ?_)
      refine lv_if_le (tgt := 91) hx hb dX11_reach_72 (by decide) (fun hc => ?_) (fun hc => ?_)
      · have hw := hw.1 hc
        exact t_m_reach_91 zc hK hM hP11 hP33 (fun _ _ ls h hl => h ls hl) (lv_sub hl [0, 1, 3, 4, 5] rfl) hw
      · have hw := hw.2 hc
        refine lv_aload_n hx hb dX11_reach_75 rfl (lv_at hl 0 rfl) ?_
        refine lv_iload hx hb dX11_reach_76 (lv_at hl 5 rfl) ?_
        refine zV_i [.int x5] [.int x2] zc ky_X11_isCut kz_X11_isCut km_11_361 (c_m_isCut l hw) (mPreV0 hK hM) rfl rfl hl.1 (Nat.le_of_ble_eq_true rfl) ⟨rfl, rfl⟩ ⟨Nat.le_of_ble_eq_true rfl, Nat.le_of_ble_eq_true rfl⟩ ⟨(Nat.zero_le _), (Nat.zero_le _)⟩ dX11_reach_78 (fun r_3 hw => ?_)
        refine lv_if_ne (tgt := 91) hx hb dX11_reach_81 (by decide) (fun hc => ?_) (fun hc => ?_)
        · have hw := hw.1 hc
          exact t_m_reach_91 zc hK hM hP11 hP33 (fun _ _ ls h hl => h ls hl) (lv_sub hl [0, 1, 3, 4, 5] rfl) hw
        · have hw := hw.2 hc
          refine lv_iconst (v := (1 : Int32)) hx hb dX11_reach_84 (by decide) ?_
          refine lv_iload hx hb dX11_reach_85 (lv_at hl 5 rfl) ?_
          refine lv_ishl hx hb dX11_reach_87 ?_
          refine lv_goto (tgt := 92) hx hb dX11_reach_88 (by decide) ?_
          exact t_m_reach_92 zc hK hM hP11 hP33 (fun _ _ ls h hl => h ls hl) (lv_sub hl [0, 1, 3, 4, 5] rfl) hw
set_option maxRecDepth 20000 in
theorem t_m_reach_33 {p : Program} {l : Launch} {e : Env} {s : State} {m : MethodId} {args : Array Value} {below : List Frame} {meth : Method} {c : Code} {E : zE} {q : Nat} {f_code : Int32} {a_tape : Nat → Int32} {a_size : Nat → Int32} {a_fault : Nat → Int32} {a_faultPlace : Nat → Int32} {a_many : Nat → Int32} {a_lands : Nat → Int32} {a_evenings : Nat → Int32} {a_sights : Nat → Int32} {a_choirs : Nat → Int32} {f_reached : Int32} {f_length : Int32} {f_begins : Int32} {f_sort : Int32} {f_value : Int32} {f_word : Int64} {f_wrongAt : Int32} {f_laterFault : Int32} {f_laterPlace : Int32} {a_told : Nat → Int32} {a_read : Nat → Int32} {f_farHut : Int32} {f_farSinger : Int32} {f_good : Int32} {f_land : Int32} {f_huts : Int32} {f_singers : Int32} {f_evening : Int32} {a_at : Nat → Int32} {a_knows : Nat → Int32} {a_climbed : Nat → Int32} {a_snow : Nat → Int32} {a_level : Nat → Int32} {f_begun : Int32} {f_minute : Int32} {f_avalanches : Int32} {a_run : Nat → Int32} {a_covers : Nat → Int32} {a_routes : Nat → Int32} {a_longest : Nat → Int32} {a_steep : Nat → Int32} {a_laid : Nat → Int32} {a_far : Nat → Int32} {f_sight : Int32} {a_runs : Nat → Int32} {f_choir : Int32} {f_voices : Int32} {a_rest : Nat → Int64} {a_wins : Nat → Int32} {f_seed : Int32} {a_other : Nat → Int32} {a_kept : Nat → Int32} {P11 : Int32 → Int32 → Prop} {post : Int32 → Prop} {x1 : Int32} {x2 : Int32} {x3 : Int32} {x4 : Int32} {ls : Array Slot}
    (zc : zC p s m args meth c cX11_reach 6 RX11 (some .int))
    (hK : zK E s)
    (hM : mW E q f_code a_tape a_size a_fault a_faultPlace a_many a_lands a_evenings a_sights a_choirs f_reached f_length f_begins f_sort f_value f_word f_wrongAt f_laterFault f_laterPlace a_told a_read f_farHut f_farSinger f_good f_land f_huts f_singers f_evening a_at a_knows a_climbed a_snow a_level f_begun f_minute f_avalanches a_run a_covers a_routes a_longest a_steep a_laid a_far f_sight a_runs f_choir f_voices a_rest a_wins f_seed a_other a_kept s.heap)
    (hP11 : ∀ (x2 : Int32) (x3 : Int32) (ls : Array Slot), P11 x2 x3 → lv_has ls 6 [(0, .ref q), (1, .int x1), (2, .int x2), (3, .int x3)] → W p l e rm_m_reach s m args below meth c s.heap [] 0 0 (MQ below (vp_Si post) args s 0 0 (fun _ => False)) (F0 m 11 ls []))
    (hl : lv_has ls 6 [(0, .ref q), (1, .int x1), (2, .int x2), (3, .int x3), (4, .int x4)])
    (hw : q_m_reach_33 P11 a_lands f_land f_huts a_at a_snow x1 x2 x3 x4 post) :
    W p l e rm_m_reach s m args below meth c s.heap [] 0 0 (MQ below (vp_Si post) args s 0 0 (fun _ => False)) (F0 m 33 ls []) := by
  have hx := zc.1
  have hb := zc.2.1
  refine hw (fun x2 x4 => ∀ (ls : Array Slot), lv_has ls 6 [(0, .ref q), (1, .int x1), (2, .int x2), (3, .int x3), (4, .int x4)] → W p l e rm_m_reach s m args below meth c s.heap [] 0 0 (MQ below (vp_Si post) args s 0 0 (fun _ => False)) (F0 m 33 ls [])) ?_ _ hl
  intro x2 x4 hw ls hl
  refine lv_iload hx hb dX11_reach_33 (lv_at hl 4 rfl) ?_
  refine lv_aload_n hx hb dX11_reach_35 rfl (lv_at hl 0 rfl) ?_
  refine mg_11_307_0 zc hK hM dX11_reach_36 ?_
  refine lv_icmp_ge (tgt := 106) hx hb dX11_reach_39 (by decide) (fun hc => ?_) (fun hc => ?_)
  · have hw := hw.1 hc
    obtain ⟨v_1, ev_1⟩ : ∃ y : Int32, y = x3 + (1 : Int32) := ⟨_, rfl⟩
    have hw := hw v_1 ev_1
    refine lv_iinc (v := v_1) (k := 3) (lv' := [(3, .int v_1), (0, .ref q), (1, .int x1), (2, .int x2), (4, .int x4)]) hx hb dX11_reach_106 hl rfl (by rw [ev_1]; rfl) (by decide) rfl (fun ls hl => ?_)
    refine lv_goto (tgt := 11) hx hb dX11_reach_109 (by decide) ?_
    exact hP11 _ _ _ hw (lv_sub hl [1, 2, 3, 0] rfl)
  · have hw := hw.2 hc
    refine lv_iconst (v := (0 : Int32)) hx hb dX11_reach_42 (by decide) ?_
    refine lv_istore (lv' := [(5, .int (0 : Int32)), (0, .ref q), (1, .int x1), (2, .int x2), (3, .int x3), (4, .int x4)]) hx hb dX11_reach_43 hl (by decide) rfl (fun ls hl => ?_)
    exact t_m_reach_45 zc hK hM hP11 (fun _ _ ls h hl => h ls hl) (lv_sub hl [1, 2, 3, 4, 5, 0] rfl) hw
set_option maxRecDepth 20000 in
theorem t_m_reach_11 {p : Program} {l : Launch} {e : Env} {s : State} {m : MethodId} {args : Array Value} {below : List Frame} {meth : Method} {c : Code} {E : zE} {q : Nat} {f_code : Int32} {a_tape : Nat → Int32} {a_size : Nat → Int32} {a_fault : Nat → Int32} {a_faultPlace : Nat → Int32} {a_many : Nat → Int32} {a_lands : Nat → Int32} {a_evenings : Nat → Int32} {a_sights : Nat → Int32} {a_choirs : Nat → Int32} {f_reached : Int32} {f_length : Int32} {f_begins : Int32} {f_sort : Int32} {f_value : Int32} {f_word : Int64} {f_wrongAt : Int32} {f_laterFault : Int32} {f_laterPlace : Int32} {a_told : Nat → Int32} {a_read : Nat → Int32} {f_farHut : Int32} {f_farSinger : Int32} {f_good : Int32} {f_land : Int32} {f_huts : Int32} {f_singers : Int32} {f_evening : Int32} {a_at : Nat → Int32} {a_knows : Nat → Int32} {a_climbed : Nat → Int32} {a_snow : Nat → Int32} {a_level : Nat → Int32} {f_begun : Int32} {f_minute : Int32} {f_avalanches : Int32} {a_run : Nat → Int32} {a_covers : Nat → Int32} {a_routes : Nat → Int32} {a_longest : Nat → Int32} {a_steep : Nat → Int32} {a_laid : Nat → Int32} {a_far : Nat → Int32} {f_sight : Int32} {a_runs : Nat → Int32} {f_choir : Int32} {f_voices : Int32} {a_rest : Nat → Int64} {a_wins : Nat → Int32} {f_seed : Int32} {a_other : Nat → Int32} {a_kept : Nat → Int32} {post : Int32 → Prop} {x1 : Int32} {x2 : Int32} {x3 : Int32} {ls : Array Slot}
    (zc : zC p s m args meth c cX11_reach 6 RX11 (some .int))
    (hK : zK E s)
    (hM : mW E q f_code a_tape a_size a_fault a_faultPlace a_many a_lands a_evenings a_sights a_choirs f_reached f_length f_begins f_sort f_value f_word f_wrongAt f_laterFault f_laterPlace a_told a_read f_farHut f_farSinger f_good f_land f_huts f_singers f_evening a_at a_knows a_climbed a_snow a_level f_begun f_minute f_avalanches a_run a_covers a_routes a_longest a_steep a_laid a_far f_sight a_runs f_choir f_voices a_rest a_wins f_seed a_other a_kept s.heap)
    (hl : lv_has ls 6 [(0, .ref q), (1, .int x1), (2, .int x2), (3, .int x3)])
    (hw : q_m_reach_11 a_lands f_land f_huts a_at a_snow x1 x2 x3 post) :
    W p l e rm_m_reach s m args below meth c s.heap [] 0 0 (MQ below (vp_Si post) args s 0 0 (fun _ => False)) (F0 m 11 ls []) := by
  have hx := zc.1
  have hb := zc.2.1
  refine hw (fun x2 x3 => ∀ (ls : Array Slot), lv_has ls 6 [(0, .ref q), (1, .int x1), (2, .int x2), (3, .int x3)] → W p l e rm_m_reach s m args below meth c s.heap [] 0 0 (MQ below (vp_Si post) args s 0 0 (fun _ => False)) (F0 m 11 ls [])) ?_ _ hl
  intro x2 x3 hw ls hl
  refine lv_iload_n hx hb dX11_reach_11 rfl (lv_at hl 3 rfl) ?_
  refine lv_bipush (v := (9 : Int32)) hx hb dX11_reach_12 (by decide) ?_
  refine lv_icmp_ge (tgt := 112) hx hb dX11_reach_14 (by decide) (fun hc => ?_) (fun hc => ?_)
  · have hw := hw.1 hc
    refine lv_iload_n hx hb dX11_reach_112 rfl (lv_at hl 2 rfl) ?_
    exact zret_i zc hw dX11_reach_113
  · have hw := hw.2 hc
    refine lv_aload_n hx hb dX11_reach_17 rfl (lv_at hl 0 rfl) ?_
    refine lv_aload_n hx hb dX11_reach_18 rfl (lv_at hl 0 rfl) ?_
    refine mg_11_44_0 zc hK hM dX11_reach_19 ?_
    refine lv_iload_n hx hb dX11_reach_22 rfl (lv_at hl 1 rfl) ?_
    refine mld_12 zc hK hM hw.1 dX11_reach_23 ?_
    have hw := hw.2
    refine zV_i [.int (a_at (Int32.toNatClampNeg x1))] [] zc ky_X11_isCut kz_X11_isCut km_11_361 (c_m_isCut l hw) (mPreV0 hK hM) rfl rfl hl.1 (Nat.le_of_ble_eq_true rfl) ⟨rfl, rfl⟩ ⟨Nat.le_of_ble_eq_true rfl, Nat.le_of_ble_eq_true rfl⟩ ⟨(Nat.zero_le _), (Nat.zero_le _)⟩ dX11_reach_24 (fun r_1 hw => ?_)
    refine lv_if_ne (tgt := 112) hx hb dX11_reach_27 (by decide) (fun hc => ?_) (fun hc => ?_)
    · have hw := hw.1 hc
      refine lv_iload_n hx hb dX11_reach_112 rfl (lv_at hl 2 rfl) ?_
      exact zret_i zc hw dX11_reach_113
    · have hw := hw.2 hc
      refine lv_iconst (v := (0 : Int32)) hx hb dX11_reach_30 (by decide) ?_
      refine lv_istore (lv' := [(4, .int (0 : Int32)), (0, .ref q), (1, .int x1), (2, .int x2), (3, .int x3)]) hx hb dX11_reach_31 hl (by decide) rfl (fun ls hl => ?_)
      exact t_m_reach_33 zc hK hM (fun _ _ ls h hl => h ls hl) (lv_sub hl [1, 2, 3, 4, 0] rfl) hw
set_option maxRecDepth 20000 in
theorem t_m_reach_0 {p : Program} {l : Launch} {e : Env} {s : State} {m : MethodId} {args : Array Value} {below : List Frame} {meth : Method} {c : Code} {E : zE} {q : Nat} {f_code : Int32} {a_tape : Nat → Int32} {a_size : Nat → Int32} {a_fault : Nat → Int32} {a_faultPlace : Nat → Int32} {a_many : Nat → Int32} {a_lands : Nat → Int32} {a_evenings : Nat → Int32} {a_sights : Nat → Int32} {a_choirs : Nat → Int32} {f_reached : Int32} {f_length : Int32} {f_begins : Int32} {f_sort : Int32} {f_value : Int32} {f_word : Int64} {f_wrongAt : Int32} {f_laterFault : Int32} {f_laterPlace : Int32} {a_told : Nat → Int32} {a_read : Nat → Int32} {f_farHut : Int32} {f_farSinger : Int32} {f_good : Int32} {f_land : Int32} {f_huts : Int32} {f_singers : Int32} {f_evening : Int32} {a_at : Nat → Int32} {a_knows : Nat → Int32} {a_climbed : Nat → Int32} {a_snow : Nat → Int32} {a_level : Nat → Int32} {f_begun : Int32} {f_minute : Int32} {f_avalanches : Int32} {a_run : Nat → Int32} {a_covers : Nat → Int32} {a_routes : Nat → Int32} {a_longest : Nat → Int32} {a_steep : Nat → Int32} {a_laid : Nat → Int32} {a_far : Nat → Int32} {f_sight : Int32} {a_runs : Nat → Int32} {f_choir : Int32} {f_voices : Int32} {a_rest : Nat → Int64} {a_wins : Nat → Int32} {f_seed : Int32} {a_other : Nat → Int32} {a_kept : Nat → Int32} {post : Int32 → Prop} {x1 : Int32} {ls : Array Slot}
    (zc : zC p s m args meth c cX11_reach 6 RX11 (some .int))
    (hK : zK E s)
    (hM : mW E q f_code a_tape a_size a_fault a_faultPlace a_many a_lands a_evenings a_sights a_choirs f_reached f_length f_begins f_sort f_value f_word f_wrongAt f_laterFault f_laterPlace a_told a_read f_farHut f_farSinger f_good f_land f_huts f_singers f_evening a_at a_knows a_climbed a_snow a_level f_begun f_minute f_avalanches a_run a_covers a_routes a_longest a_steep a_laid a_far f_sight a_runs f_choir f_voices a_rest a_wins f_seed a_other a_kept s.heap)
    (hl : lv_has ls 6 [(0, .ref q), (1, .int x1)])
    (hw : q_m_reach_0 a_lands f_land f_huts a_at a_snow x1 post) :
    W p l e rm_m_reach s m args below meth c s.heap [] 0 0 (MQ below (vp_Si post) args s 0 0 (fun _ => False)) (F0 m 0 ls []) := by
  have hx := zc.1
  have hb := zc.2.1
  refine lv_iconst (v := (1 : Int32)) hx hb dX11_reach_0 (by decide) ?_
  refine lv_aload_n hx hb dX11_reach_1 rfl (lv_at hl 0 rfl) ?_
  refine mg_11_44_0 zc hK hM dX11_reach_2 ?_
  refine lv_iload_n hx hb dX11_reach_5 rfl (lv_at hl 1 rfl) ?_
  refine mld_12 zc hK hM hw.1 dX11_reach_6 ?_
  have hw := hw.2
  refine lv_ishl hx hb dX11_reach_7 ?_
  refine lv_topi (fun v_1 ev_1 => ?_)
  have hw := hw v_1 ev_1
  refine lv_istore_n (lv' := [(2, .int v_1), (0, .ref q), (1, .int x1)]) hx hb dX11_reach_8 rfl hl (by decide) rfl (fun ls hl => ?_)
  refine lv_iconst (v := (0 : Int32)) hx hb dX11_reach_9 (by decide) ?_
  refine lv_istore_n (lv' := [(3, .int (0 : Int32)), (2, .int v_1), (0, .ref q), (1, .int x1)]) hx hb dX11_reach_10 rfl hl (by decide) rfl (fun ls hl => ?_)
  exact t_m_reach_11 zc hK hM  (lv_sub hl [2, 3, 1, 0] rfl) hw
set_option maxRecDepth 20000 in
theorem c_m_reach (l : Launch) {E : zE} {q : Nat} {f_code : Int32} {a_tape : Nat → Int32} {a_size : Nat → Int32} {a_fault : Nat → Int32} {a_faultPlace : Nat → Int32} {a_many : Nat → Int32} {a_lands : Nat → Int32} {a_evenings : Nat → Int32} {a_sights : Nat → Int32} {a_choirs : Nat → Int32} {f_reached : Int32} {f_length : Int32} {f_begins : Int32} {f_sort : Int32} {f_value : Int32} {f_word : Int64} {f_wrongAt : Int32} {f_laterFault : Int32} {f_laterPlace : Int32} {a_told : Nat → Int32} {a_read : Nat → Int32} {f_farHut : Int32} {f_farSinger : Int32} {f_good : Int32} {f_land : Int32} {f_huts : Int32} {f_singers : Int32} {f_evening : Int32} {a_at : Nat → Int32} {a_knows : Nat → Int32} {a_climbed : Nat → Int32} {a_snow : Nat → Int32} {a_level : Nat → Int32} {f_begun : Int32} {f_minute : Int32} {f_avalanches : Int32} {a_run : Nat → Int32} {a_covers : Nat → Int32} {a_routes : Nat → Int32} {a_longest : Nat → Int32} {a_steep : Nat → Int32} {a_laid : Nat → Int32} {a_far : Nat → Int32} {f_sight : Int32} {a_runs : Nat → Int32} {f_choir : Int32} {f_voices : Int32} {a_rest : Nat → Int64} {a_wins : Nat → Int32} {f_seed : Int32} {a_other : Nat → Int32} {a_kept : Nat → Int32} {x1 : Int32} {post : Int32 → Prop} (hw : q_m_reach_0 a_lands f_land f_huts a_at a_snow x1 post) : Met l yX11_reach (Cond.code yX11_reach cX11_reach 6 (some .int) :: zb) rm_m_reach (va_Pc [.ref q, .int x1] (fun U => mW E q f_code a_tape a_size a_fault a_faultPlace a_many a_lands a_evenings a_sights a_choirs f_reached f_length f_begins f_sort f_value f_word f_wrongAt f_laterFault f_laterPlace a_told a_read f_farHut f_farSinger f_good f_land f_huts f_singers f_evening a_at a_knows a_climbed a_snow a_level f_begun f_minute f_avalanches a_run a_covers a_routes a_longest a_steep a_laid a_far f_sight a_runs f_choir f_voices a_rest a_wins f_seed a_other a_kept U.heap ∧ zK E U)) (vp_Si post) 0 0 (fun _ => False) := by
  refine Met.ofW (cc := cX11_reach) (maxL := 6) (ret := (some .int)) (by decide) rfl ?_
  intro p e s m args below meth c s₁ B hml hv
  obtain ⟨rfl, hM, hK⟩ := hv
  have zc := zc_of B hml
  have hl := lv_entry ([.ref q, .int x1]) (n := 6) (Nat.le_of_ble_eq_true rfl)
  rw [lg_entry_eq]
  generalize (lg_sl ([.ref q, .int x1]) ++ List.replicate (6 - (lg_sl ([.ref q, .int x1])).length) Slot.unset).toArray = ls at hl ⊢
  have hl : lv_has ls 6 [(0, .ref q), (1, .int x1)] := hl
  exact t_m_reach_0 zc hK hM (lv_sub hl [0, 1] rfl) hw
-- m_isDone
abbrev rm_m_isDone : Room := { frames := 3, cells := 0, slots := 0, locals := 68 }
def q_m_isDone_88 (P2 : Int32 → Prop) (P44 : Int32 → Prop) (a_lands : Nat → Int32) (f_land : Int32) (f_huts : Int32) (f_singers : Int32) (a_at : Nat → Int32) (a_knows : Nat → Int32) (a_snow : Nat → Int32) (a_level : Nat → Int32) (x1 : Int32) (x2 : Int32) (x3 : Int32) (x4 : Int32) (post : Int32 → Prop) : Prop :=
  ∀ v_1 : Int32, v_1 = x4 + (1 : Int32) → (P44 v_1)
def q_m_isDone_44 (P2 : Int32 → Prop) (a_lands : Nat → Int32) (f_land : Int32) (f_huts : Int32) (f_singers : Int32) (a_at : Nat → Int32) (a_knows : Nat → Int32) (a_snow : Nat → Int32) (a_level : Nat → Int32) (x1 : Int32) (x2 : Int32) (x3 : Int32) (x4 : Int32) (post : Int32 → Prop) : Prop :=
  ∀ P44 : Int32 → Prop, (∀ (x4 : Int32), ((f_huts ≤ x4 → (∀ v_1 : Int32, v_1 = x2 + (1 : Int32) → (P2 v_1))) ∧ (¬ f_huts ≤ x4 → (q_m_has_0 x3 x4 (fun r_1 => (r_1 = 0 → (q_m_isDone_88 P2 P44 a_lands f_land f_huts f_singers a_at a_knows a_snow a_level x1 x2 x3 x4 post)) ∧ (¬ r_1 = 0 → (q_m_height_0 a_lands f_land x4 (fun r_2 => q_m_of_0 a_lands f_land ((31 : Int32) + x2) (fun r_3 => vp_in x1 5 ∧ (((a_level (Int32.toNatClampNeg x1)) ≤ (r_2 - r_3) → (q_m_isDone_88 P2 P44 a_lands f_land f_huts f_singers a_at a_knows a_snow a_level x1 x2 x3 x4 post)) ∧ (¬ (a_level (Int32.toNatClampNeg x1)) ≤ (r_2 - r_3) → (post (0 : Int32)))))))))))) → P44 x4) → P44 x4
def q_m_isDone_40 (P2 : Int32 → Prop) (a_lands : Nat → Int32) (f_land : Int32) (f_huts : Int32) (f_singers : Int32) (a_at : Nat → Int32) (a_knows : Nat → Int32) (a_snow : Nat → Int32) (a_level : Nat → Int32) (x1 : Int32) (x2 : Int32) (y0 : Int32) (post : Int32 → Prop) : Prop :=
  q_m_isDone_44 P2 a_lands f_land f_huts f_singers a_at a_knows a_snow a_level x1 x2 y0 (0 : Int32) post
def q_m_isDone_2 (a_lands : Nat → Int32) (f_land : Int32) (f_huts : Int32) (f_singers : Int32) (a_at : Nat → Int32) (a_knows : Nat → Int32) (a_snow : Nat → Int32) (a_level : Nat → Int32) (x1 : Int32) (x2 : Int32) (post : Int32 → Prop) : Prop :=
  ∀ P2 : Int32 → Prop, (∀ (x2 : Int32), ((f_singers ≤ x2 → (post (1 : Int32))) ∧ (¬ f_singers ≤ x2 → (vp_in x2 6 ∧ (q_m_has_0 (a_knows (Int32.toNatClampNeg x2)) x1 (fun r_1 => (r_1 = 0 → (q_m_isDone_40 P2 a_lands f_land f_huts f_singers a_at a_knows a_snow a_level x1 x2 (0 : Int32) post)) ∧ (¬ r_1 = 0 → (q_m_reach_0 a_lands f_land f_huts a_at a_snow x2 (fun r_2 => q_m_of_0 a_lands f_land (3 : Int32) (fun r_3 => q_m_isDone_40 P2 a_lands f_land f_huts f_singers a_at a_knows a_snow a_level x1 x2 (r_2 &&& (r_3 ^^^ (-1 : Int32))) post))))))))) → P2 x2) → P2 x2
def q_m_isDone_0 (a_lands : Nat → Int32) (f_land : Int32) (f_huts : Int32) (f_singers : Int32) (a_at : Nat → Int32) (a_knows : Nat → Int32) (a_snow : Nat → Int32) (a_level : Nat → Int32) (x1 : Int32) (post : Int32 → Prop) : Prop :=
  q_m_isDone_2 a_lands f_land f_huts f_singers a_at a_knows a_snow a_level x1 (0 : Int32) post
set_option maxRecDepth 20000 in
theorem t_m_isDone_88 {p : Program} {l : Launch} {e : Env} {s : State} {m : MethodId} {args : Array Value} {below : List Frame} {meth : Method} {c : Code} {E : zE} {q : Nat} {f_code : Int32} {a_tape : Nat → Int32} {a_size : Nat → Int32} {a_fault : Nat → Int32} {a_faultPlace : Nat → Int32} {a_many : Nat → Int32} {a_lands : Nat → Int32} {a_evenings : Nat → Int32} {a_sights : Nat → Int32} {a_choirs : Nat → Int32} {f_reached : Int32} {f_length : Int32} {f_begins : Int32} {f_sort : Int32} {f_value : Int32} {f_word : Int64} {f_wrongAt : Int32} {f_laterFault : Int32} {f_laterPlace : Int32} {a_told : Nat → Int32} {a_read : Nat → Int32} {f_farHut : Int32} {f_farSinger : Int32} {f_good : Int32} {f_land : Int32} {f_huts : Int32} {f_singers : Int32} {f_evening : Int32} {a_at : Nat → Int32} {a_knows : Nat → Int32} {a_climbed : Nat → Int32} {a_snow : Nat → Int32} {a_level : Nat → Int32} {f_begun : Int32} {f_minute : Int32} {f_avalanches : Int32} {a_run : Nat → Int32} {a_covers : Nat → Int32} {a_routes : Nat → Int32} {a_longest : Nat → Int32} {a_steep : Nat → Int32} {a_laid : Nat → Int32} {a_far : Nat → Int32} {f_sight : Int32} {a_runs : Nat → Int32} {f_choir : Int32} {f_voices : Int32} {a_rest : Nat → Int64} {a_wins : Nat → Int32} {f_seed : Int32} {a_other : Nat → Int32} {a_kept : Nat → Int32} {P2 : Int32 → Prop} {P44 : Int32 → Prop} {post : Int32 → Prop} {x1 : Int32} {x2 : Int32} {x3 : Int32} {x4 : Int32} {ls : Array Slot}
    (zc : zC p s m args meth c cX11_isDone 5 RX11 (some .boolean))
    (hK : zK E s)
    (hM : mW E q f_code a_tape a_size a_fault a_faultPlace a_many a_lands a_evenings a_sights a_choirs f_reached f_length f_begins f_sort f_value f_word f_wrongAt f_laterFault f_laterPlace a_told a_read f_farHut f_farSinger f_good f_land f_huts f_singers f_evening a_at a_knows a_climbed a_snow a_level f_begun f_minute f_avalanches a_run a_covers a_routes a_longest a_steep a_laid a_far f_sight a_runs f_choir f_voices a_rest a_wins f_seed a_other a_kept s.heap)
    (hP2 : ∀ (x2 : Int32) (ls : Array Slot), P2 x2 → lv_has ls 5 [(0, .ref q), (1, .int x1), (2, .int x2)] → W p l e rm_m_isDone s m args below meth c s.heap [] 0 0 (MQ below (vp_Si post) args s 0 0 (fun _ => False)) (F0 m 2 ls []))
    (hP44 : ∀ (x4 : Int32) (ls : Array Slot), P44 x4 → lv_has ls 5 [(0, .ref q), (1, .int x1), (2, .int x2), (3, .int x3), (4, .int x4)] → W p l e rm_m_isDone s m args below meth c s.heap [] 0 0 (MQ below (vp_Si post) args s 0 0 (fun _ => False)) (F0 m 44 ls []))
    (hl : lv_has ls 5 [(0, .ref q), (1, .int x1), (2, .int x2), (3, .int x3), (4, .int x4)])
    (hw : q_m_isDone_88 P2 P44 a_lands f_land f_huts f_singers a_at a_knows a_snow a_level x1 x2 x3 x4 post) :
    W p l e rm_m_isDone s m args below meth c s.heap [] 0 0 (MQ below (vp_Si post) args s 0 0 (fun _ => False)) (F0 m 88 ls []) := by
  have hx := zc.1
  have hb := zc.2.1
  obtain ⟨v_1, ev_1⟩ : ∃ y : Int32, y = x4 + (1 : Int32) := ⟨_, rfl⟩
  have hw := hw v_1 ev_1
  refine lv_iinc (v := v_1) (k := 4) (lv' := [(4, .int v_1), (0, .ref q), (1, .int x1), (2, .int x2), (3, .int x3)]) hx hb dX11_isDone_88 hl rfl (by rw [ev_1]; rfl) (by decide) rfl (fun ls hl => ?_)
  refine lv_goto (tgt := 44) hx hb dX11_isDone_91 (by decide) ?_
  exact hP44 _ _ hw (lv_sub hl [1, 2, 3, 4, 0] rfl)
set_option maxRecDepth 20000 in
theorem t_m_isDone_44 {p : Program} {l : Launch} {e : Env} {s : State} {m : MethodId} {args : Array Value} {below : List Frame} {meth : Method} {c : Code} {E : zE} {q : Nat} {f_code : Int32} {a_tape : Nat → Int32} {a_size : Nat → Int32} {a_fault : Nat → Int32} {a_faultPlace : Nat → Int32} {a_many : Nat → Int32} {a_lands : Nat → Int32} {a_evenings : Nat → Int32} {a_sights : Nat → Int32} {a_choirs : Nat → Int32} {f_reached : Int32} {f_length : Int32} {f_begins : Int32} {f_sort : Int32} {f_value : Int32} {f_word : Int64} {f_wrongAt : Int32} {f_laterFault : Int32} {f_laterPlace : Int32} {a_told : Nat → Int32} {a_read : Nat → Int32} {f_farHut : Int32} {f_farSinger : Int32} {f_good : Int32} {f_land : Int32} {f_huts : Int32} {f_singers : Int32} {f_evening : Int32} {a_at : Nat → Int32} {a_knows : Nat → Int32} {a_climbed : Nat → Int32} {a_snow : Nat → Int32} {a_level : Nat → Int32} {f_begun : Int32} {f_minute : Int32} {f_avalanches : Int32} {a_run : Nat → Int32} {a_covers : Nat → Int32} {a_routes : Nat → Int32} {a_longest : Nat → Int32} {a_steep : Nat → Int32} {a_laid : Nat → Int32} {a_far : Nat → Int32} {f_sight : Int32} {a_runs : Nat → Int32} {f_choir : Int32} {f_voices : Int32} {a_rest : Nat → Int64} {a_wins : Nat → Int32} {f_seed : Int32} {a_other : Nat → Int32} {a_kept : Nat → Int32} {P2 : Int32 → Prop} {post : Int32 → Prop} {x1 : Int32} {x2 : Int32} {x3 : Int32} {x4 : Int32} {ls : Array Slot}
    (zc : zC p s m args meth c cX11_isDone 5 RX11 (some .boolean))
    (hK : zK E s)
    (hM : mW E q f_code a_tape a_size a_fault a_faultPlace a_many a_lands a_evenings a_sights a_choirs f_reached f_length f_begins f_sort f_value f_word f_wrongAt f_laterFault f_laterPlace a_told a_read f_farHut f_farSinger f_good f_land f_huts f_singers f_evening a_at a_knows a_climbed a_snow a_level f_begun f_minute f_avalanches a_run a_covers a_routes a_longest a_steep a_laid a_far f_sight a_runs f_choir f_voices a_rest a_wins f_seed a_other a_kept s.heap)
    (hP2 : ∀ (x2 : Int32) (ls : Array Slot), P2 x2 → lv_has ls 5 [(0, .ref q), (1, .int x1), (2, .int x2)] → W p l e rm_m_isDone s m args below meth c s.heap [] 0 0 (MQ below (vp_Si post) args s 0 0 (fun _ => False)) (F0 m 2 ls []))
    (hl : lv_has ls 5 [(0, .ref q), (1, .int x1), (2, .int x2), (3, .int x3), (4, .int x4)])
    (hw : q_m_isDone_44 P2 a_lands f_land f_huts f_singers a_at a_knows a_snow a_level x1 x2 x3 x4 post) :
    W p l e rm_m_isDone s m args below meth c s.heap [] 0 0 (MQ below (vp_Si post) args s 0 0 (fun _ => False)) (F0 m 44 ls []) := by
  have hx := zc.1
  have hb := zc.2.1
  refine hw (fun x4 => ∀ (ls : Array Slot), lv_has ls 5 [(0, .ref q), (1, .int x1), (2, .int x2), (3, .int x3), (4, .int x4)] → W p l e rm_m_isDone s m args below meth c s.heap [] 0 0 (MQ below (vp_Si post) args s 0 0 (fun _ => False)) (F0 m 44 ls [])) ?_ _ hl
  intro x4 hw ls hl
  refine lv_iload hx hb dX11_isDone_44 (lv_at hl 4 rfl) ?_
  refine lv_aload_n hx hb dX11_isDone_46 rfl (lv_at hl 0 rfl) ?_
  refine mg_11_307_0 zc hK hM dX11_isDone_47 ?_
  refine lv_icmp_ge (tgt := 94) hx hb dX11_isDone_50 (by decide) (fun hc => ?_) (fun hc => ?_)
  · have hw := hw.1 hc
    obtain ⟨v_1, ev_1⟩ : ∃ y : Int32, y = x2 + (1 : Int32) := ⟨_, rfl⟩
    have hw := hw v_1 ev_1
    refine lv_iinc (v := v_1) (k := 2) (lv' := [(2, .int v_1), (0, .ref q), (1, .int x1), (3, .int x3), (4, .int x4)]) hx hb dX11_isDone_94 hl rfl (by rw [ev_1]; rfl) (by decide) rfl (fun ls hl => ?_)
    refine lv_goto (tgt := 2) hx hb dX11_isDone_97 (by decide) ?_
    exact hP2 _ _ hw (lv_sub hl [1, 2, 0] rfl)
  · have hw := hw.2 hc
    refine lv_iload_n hx hb dX11_isDone_53 rfl (lv_at hl 3 rfl) ?_
    refine lv_iload hx hb dX11_isDone_54 (lv_at hl 4 rfl) ?_
    refine zS_i [.int x3, .int x4] [] zc ky_X11_has kz_X11_has km_11_101 (c_m_has l hw) (zPre0 _) rfl rfl hl.1 (Nat.le_of_ble_eq_true rfl) ⟨rfl, rfl⟩ ⟨Nat.le_of_ble_eq_true rfl, Nat.le_of_ble_eq_true rfl⟩ ⟨(Nat.zero_le _), (Nat.zero_le _)⟩ dX11_isDone_56 (fun r_1 hw => ?_)
    refine lv_if_eq (tgt := 88) hx hb dX11_isDone_59 (by decide) (fun hc => ?_) (fun hc => ?_)
    · have hw := hw.1 hc
      exact t_m_isDone_88 zc hK hM hP2 (fun _ ls h hl => h ls hl) (lv_sub hl [0, 1, 2, 3, 4] rfl) hw
    · have hw := hw.2 hc
      refine lv_aload_n hx hb dX11_isDone_62 rfl (lv_at hl 0 rfl) ?_
      refine lv_iload hx hb dX11_isDone_63 (lv_at hl 4 rfl) ?_
      refine zV_i [.int x4] [] zc ky_X11_height kz_X11_height km_11_322 (c_m_height l hw) (mPreV0 hK hM) rfl rfl hl.1 (Nat.le_of_ble_eq_true rfl) ⟨rfl, rfl⟩ ⟨Nat.le_of_ble_eq_true rfl, Nat.le_of_ble_eq_true rfl⟩ ⟨(Nat.zero_le _), (Nat.zero_le _)⟩ dX11_isDone_65 (fun r_2 hw => ?_)
      refine lv_aload_n hx hb dX11_isDone_68 rfl (lv_at hl 0 rfl) ?_
      refine lv_bipush (v := (31 : Int32)) hx hb dX11_isDone_69 (by decide) ?_
      refine lv_iload_n hx hb dX11_isDone_71 rfl (lv_at hl 2 rfl) ?_
      refine lv_iadd hx hb dX11_isDone_72 ?_
      refine zV_i [.int ((31 : Int32) + x2)] [.int r_2] zc ky_X11_of kz_X11_of km_11_303 (c_m_of l hw) (mPreV0 hK hM) rfl rfl hl.1 (Nat.le_of_ble_eq_true rfl) ⟨rfl, rfl⟩ ⟨Nat.le_of_ble_eq_true rfl, Nat.le_of_ble_eq_true rfl⟩ ⟨(Nat.zero_le _), (Nat.zero_le _)⟩ dX11_isDone_73 (fun r_3 hw => ?_)
      refine lv_isub hx hb dX11_isDone_76 ?_
      refine lv_aload_n hx hb dX11_isDone_77 rfl (lv_at hl 0 rfl) ?_
      refine mg_11_56_0 zc hK hM dX11_isDone_78 ?_
      refine lv_iload_n hx hb dX11_isDone_81 rfl (lv_at hl 1 rfl) ?_
      refine mld_16 zc hK hM hw.1 dX11_isDone_82 ?_
      have hw := hw.2
      refine lv_icmp_ge (tgt := 88) hx hb dX11_isDone_83 (by decide) (fun hc => ?_) (fun hc => ?_)
      · have hw := hw.1 hc
        exact t_m_isDone_88 zc hK hM hP2 (fun _ ls h hl => h ls hl) (lv_sub hl [0, 1, 2, 3, 4] rfl) hw
      · have hw := hw.2 hc
        refine lv_iconst (v := (0 : Int32)) hx hb dX11_isDone_86 (by decide) ?_
        exact zret_z zc rfl hw dX11_isDone_87
set_option maxRecDepth 20000 in
theorem t_m_isDone_40 {p : Program} {l : Launch} {e : Env} {s : State} {m : MethodId} {args : Array Value} {below : List Frame} {meth : Method} {c : Code} {E : zE} {q : Nat} {f_code : Int32} {a_tape : Nat → Int32} {a_size : Nat → Int32} {a_fault : Nat → Int32} {a_faultPlace : Nat → Int32} {a_many : Nat → Int32} {a_lands : Nat → Int32} {a_evenings : Nat → Int32} {a_sights : Nat → Int32} {a_choirs : Nat → Int32} {f_reached : Int32} {f_length : Int32} {f_begins : Int32} {f_sort : Int32} {f_value : Int32} {f_word : Int64} {f_wrongAt : Int32} {f_laterFault : Int32} {f_laterPlace : Int32} {a_told : Nat → Int32} {a_read : Nat → Int32} {f_farHut : Int32} {f_farSinger : Int32} {f_good : Int32} {f_land : Int32} {f_huts : Int32} {f_singers : Int32} {f_evening : Int32} {a_at : Nat → Int32} {a_knows : Nat → Int32} {a_climbed : Nat → Int32} {a_snow : Nat → Int32} {a_level : Nat → Int32} {f_begun : Int32} {f_minute : Int32} {f_avalanches : Int32} {a_run : Nat → Int32} {a_covers : Nat → Int32} {a_routes : Nat → Int32} {a_longest : Nat → Int32} {a_steep : Nat → Int32} {a_laid : Nat → Int32} {a_far : Nat → Int32} {f_sight : Int32} {a_runs : Nat → Int32} {f_choir : Int32} {f_voices : Int32} {a_rest : Nat → Int64} {a_wins : Nat → Int32} {f_seed : Int32} {a_other : Nat → Int32} {a_kept : Nat → Int32} {P2 : Int32 → Prop} {post : Int32 → Prop} {x1 : Int32} {x2 : Int32} {y0 : Int32} {ls : Array Slot}
    (zc : zC p s m args meth c cX11_isDone 5 RX11 (some .boolean))
    (hK : zK E s)
    (hM : mW E q f_code a_tape a_size a_fault a_faultPlace a_many a_lands a_evenings a_sights a_choirs f_reached f_length f_begins f_sort f_value f_word f_wrongAt f_laterFault f_laterPlace a_told a_read f_farHut f_farSinger f_good f_land f_huts f_singers f_evening a_at a_knows a_climbed a_snow a_level f_begun f_minute f_avalanches a_run a_covers a_routes a_longest a_steep a_laid a_far f_sight a_runs f_choir f_voices a_rest a_wins f_seed a_other a_kept s.heap)
    (hP2 : ∀ (x2 : Int32) (ls : Array Slot), P2 x2 → lv_has ls 5 [(0, .ref q), (1, .int x1), (2, .int x2)] → W p l e rm_m_isDone s m args below meth c s.heap [] 0 0 (MQ below (vp_Si post) args s 0 0 (fun _ => False)) (F0 m 2 ls []))
    (hl : lv_has ls 5 [(0, .ref q), (1, .int x1), (2, .int x2)])
    (hw : q_m_isDone_40 P2 a_lands f_land f_huts f_singers a_at a_knows a_snow a_level x1 x2 y0 post) :
    W p l e rm_m_isDone s m args below meth c s.heap [] 0 0 (MQ below (vp_Si post) args s 0 0 (fun _ => False)) (F0 m 40 ls [.int y0]) := by
  have hx := zc.1
  have hb := zc.2.1
  refine lv_istore_n (lv' := [(3, .int y0), (0, .ref q), (1, .int x1), (2, .int x2)]) hx hb dX11_isDone_40 rfl hl (by decide) rfl (fun ls hl => ?_)
  refine lv_iconst (v := (0 : Int32)) hx hb dX11_isDone_41 (by decide) ?_
  refine lv_istore (lv' := [(4, .int (0 : Int32)), (3, .int y0), (0, .ref q), (1, .int x1), (2, .int x2)]) hx hb dX11_isDone_42 hl (by decide) rfl (fun ls hl => ?_)
  exact t_m_isDone_44 zc hK hM hP2 (lv_sub hl [2, 3, 4, 1, 0] rfl) hw
set_option maxRecDepth 20000 in
theorem t_m_isDone_2 {p : Program} {l : Launch} {e : Env} {s : State} {m : MethodId} {args : Array Value} {below : List Frame} {meth : Method} {c : Code} {E : zE} {q : Nat} {f_code : Int32} {a_tape : Nat → Int32} {a_size : Nat → Int32} {a_fault : Nat → Int32} {a_faultPlace : Nat → Int32} {a_many : Nat → Int32} {a_lands : Nat → Int32} {a_evenings : Nat → Int32} {a_sights : Nat → Int32} {a_choirs : Nat → Int32} {f_reached : Int32} {f_length : Int32} {f_begins : Int32} {f_sort : Int32} {f_value : Int32} {f_word : Int64} {f_wrongAt : Int32} {f_laterFault : Int32} {f_laterPlace : Int32} {a_told : Nat → Int32} {a_read : Nat → Int32} {f_farHut : Int32} {f_farSinger : Int32} {f_good : Int32} {f_land : Int32} {f_huts : Int32} {f_singers : Int32} {f_evening : Int32} {a_at : Nat → Int32} {a_knows : Nat → Int32} {a_climbed : Nat → Int32} {a_snow : Nat → Int32} {a_level : Nat → Int32} {f_begun : Int32} {f_minute : Int32} {f_avalanches : Int32} {a_run : Nat → Int32} {a_covers : Nat → Int32} {a_routes : Nat → Int32} {a_longest : Nat → Int32} {a_steep : Nat → Int32} {a_laid : Nat → Int32} {a_far : Nat → Int32} {f_sight : Int32} {a_runs : Nat → Int32} {f_choir : Int32} {f_voices : Int32} {a_rest : Nat → Int64} {a_wins : Nat → Int32} {f_seed : Int32} {a_other : Nat → Int32} {a_kept : Nat → Int32} {post : Int32 → Prop} {x1 : Int32} {x2 : Int32} {ls : Array Slot}
    (zc : zC p s m args meth c cX11_isDone 5 RX11 (some .boolean))
    (hK : zK E s)
    (hM : mW E q f_code a_tape a_size a_fault a_faultPlace a_many a_lands a_evenings a_sights a_choirs f_reached f_length f_begins f_sort f_value f_word f_wrongAt f_laterFault f_laterPlace a_told a_read f_farHut f_farSinger f_good f_land f_huts f_singers f_evening a_at a_knows a_climbed a_snow a_level f_begun f_minute f_avalanches a_run a_covers a_routes a_longest a_steep a_laid a_far f_sight a_runs f_choir f_voices a_rest a_wins f_seed a_other a_kept s.heap)
    (hl : lv_has ls 5 [(0, .ref q), (1, .int x1), (2, .int x2)])
    (hw : q_m_isDone_2 a_lands f_land f_huts f_singers a_at a_knows a_snow a_level x1 x2 post) :
    W p l e rm_m_isDone s m args below meth c s.heap [] 0 0 (MQ below (vp_Si post) args s 0 0 (fun _ => False)) (F0 m 2 ls []) := by
  have hx := zc.1
  have hb := zc.2.1
  refine hw (fun x2 => ∀ (ls : Array Slot), lv_has ls 5 [(0, .ref q), (1, .int x1), (2, .int x2)] → W p l e rm_m_isDone s m args below meth c s.heap [] 0 0 (MQ below (vp_Si post) args s 0 0 (fun _ => False)) (F0 m 2 ls [])) ?_ _ hl
  intro x2 hw ls hl
  refine lv_iload_n hx hb dX11_isDone_2 rfl (lv_at hl 2 rfl) ?_
  refine lv_aload_n hx hb dX11_isDone_3 rfl (lv_at hl 0 rfl) ?_
  refine mg_11_310_0 zc hK hM dX11_isDone_4 ?_
  refine lv_icmp_ge (tgt := 100) hx hb dX11_isDone_7 (by decide) (fun hc => ?_) (fun hc => ?_)
  · have hw := hw.1 hc
    refine lv_iconst (v := (1 : Int32)) hx hb dX11_isDone_100 (by decide) ?_
    exact zret_z zc rfl hw dX11_isDone_101
  · have hw := hw.2 hc
    refine lv_aload_n hx hb dX11_isDone_10 rfl (lv_at hl 0 rfl) ?_
    refine mg_11_47_0 zc hK hM dX11_isDone_11 ?_
    refine lv_iload_n hx hb dX11_isDone_14 rfl (lv_at hl 2 rfl) ?_
    refine mld_13 zc hK hM hw.1 dX11_isDone_15 ?_
    have hw := hw.2
    refine lv_iload_n hx hb dX11_isDone_16 rfl (lv_at hl 1 rfl) ?_
    refine zS_i [.int (a_knows (Int32.toNatClampNeg x2)), .int x1] [] zc ky_X11_has kz_X11_has km_11_101 (c_m_has l hw) (zPre0 _) rfl rfl hl.1 (Nat.le_of_ble_eq_true rfl) ⟨rfl, rfl⟩ ⟨Nat.le_of_ble_eq_true rfl, Nat.le_of_ble_eq_true rfl⟩ ⟨(Nat.zero_le _), (Nat.zero_le _)⟩ dX11_isDone_17 (fun r_1 hw => ?_)
    refine lv_if_eq (tgt := 39) hx hb dX11_isDone_20 (by decide) (fun hc => ?_) (fun hc => ?_)
    · have hw := hw.1 hc
      refine lv_iconst (v := (0 : Int32)) hx hb dX11_isDone_39 (by decide) ?_
      exact t_m_isDone_40 zc hK hM (fun _ ls h hl => h ls hl) (lv_sub hl [0, 1, 2] rfl) hw
    · have hw := hw.2 hc
      refine lv_aload_n hx hb dX11_isDone_23 rfl (lv_at hl 0 rfl) ?_
      refine lv_iload_n hx hb dX11_isDone_24 rfl (lv_at hl 2 rfl) ?_
      refine zV_i [.int x2] [] zc ky_X11_reach kz_X11_reach km_11_389 (c_m_reach l hw) (mPreV0 hK hM) rfl rfl hl.1 (Nat.le_of_ble_eq_true rfl) ⟨rfl, rfl⟩ ⟨Nat.le_of_ble_eq_true rfl, Nat.le_of_ble_eq_true rfl⟩ ⟨(Nat.zero_le _), (Nat.zero_le _)⟩ dX11_isDone_25 (fun r_2 hw => ?_)
      refine lv_aload_n hx hb dX11_isDone_28 rfl (lv_at hl 0 rfl) ?_
      refine lv_iconst (v := (3 : Int32)) hx hb dX11_isDone_29 (by decide) ?_
      refine zV_i [.int (3 : Int32)] [.int r_2] zc ky_X11_of kz_X11_of km_11_303 (c_m_of l hw) (mPreV0 hK hM) rfl rfl hl.1 (Nat.le_of_ble_eq_true rfl) ⟨rfl, rfl⟩ ⟨Nat.le_of_ble_eq_true rfl, Nat.le_of_ble_eq_true rfl⟩ ⟨(Nat.zero_le _), (Nat.zero_le _)⟩ dX11_isDone_30 (fun r_3 hw => ?_)
      refine lv_iconst (v := (-1 : Int32)) hx hb dX11_isDone_33 (by decide) ?_
      refine lv_ixor hx hb dX11_isDone_34 ?_
      refine lv_iand hx hb dX11_isDone_35 ?_
      refine lv_goto (tgt := 40) hx hb dX11_isDone_36 (by decide) ?_
      exact t_m_isDone_40 zc hK hM (fun _ ls h hl => h ls hl) (lv_sub hl [0, 1, 2] rfl) hw
set_option maxRecDepth 20000 in
theorem t_m_isDone_0 {p : Program} {l : Launch} {e : Env} {s : State} {m : MethodId} {args : Array Value} {below : List Frame} {meth : Method} {c : Code} {E : zE} {q : Nat} {f_code : Int32} {a_tape : Nat → Int32} {a_size : Nat → Int32} {a_fault : Nat → Int32} {a_faultPlace : Nat → Int32} {a_many : Nat → Int32} {a_lands : Nat → Int32} {a_evenings : Nat → Int32} {a_sights : Nat → Int32} {a_choirs : Nat → Int32} {f_reached : Int32} {f_length : Int32} {f_begins : Int32} {f_sort : Int32} {f_value : Int32} {f_word : Int64} {f_wrongAt : Int32} {f_laterFault : Int32} {f_laterPlace : Int32} {a_told : Nat → Int32} {a_read : Nat → Int32} {f_farHut : Int32} {f_farSinger : Int32} {f_good : Int32} {f_land : Int32} {f_huts : Int32} {f_singers : Int32} {f_evening : Int32} {a_at : Nat → Int32} {a_knows : Nat → Int32} {a_climbed : Nat → Int32} {a_snow : Nat → Int32} {a_level : Nat → Int32} {f_begun : Int32} {f_minute : Int32} {f_avalanches : Int32} {a_run : Nat → Int32} {a_covers : Nat → Int32} {a_routes : Nat → Int32} {a_longest : Nat → Int32} {a_steep : Nat → Int32} {a_laid : Nat → Int32} {a_far : Nat → Int32} {f_sight : Int32} {a_runs : Nat → Int32} {f_choir : Int32} {f_voices : Int32} {a_rest : Nat → Int64} {a_wins : Nat → Int32} {f_seed : Int32} {a_other : Nat → Int32} {a_kept : Nat → Int32} {post : Int32 → Prop} {x1 : Int32} {ls : Array Slot}
    (zc : zC p s m args meth c cX11_isDone 5 RX11 (some .boolean))
    (hK : zK E s)
    (hM : mW E q f_code a_tape a_size a_fault a_faultPlace a_many a_lands a_evenings a_sights a_choirs f_reached f_length f_begins f_sort f_value f_word f_wrongAt f_laterFault f_laterPlace a_told a_read f_farHut f_farSinger f_good f_land f_huts f_singers f_evening a_at a_knows a_climbed a_snow a_level f_begun f_minute f_avalanches a_run a_covers a_routes a_longest a_steep a_laid a_far f_sight a_runs f_choir f_voices a_rest a_wins f_seed a_other a_kept s.heap)
    (hl : lv_has ls 5 [(0, .ref q), (1, .int x1)])
    (hw : q_m_isDone_0 a_lands f_land f_huts f_singers a_at a_knows a_snow a_level x1 post) :
    W p l e rm_m_isDone s m args below meth c s.heap [] 0 0 (MQ below (vp_Si post) args s 0 0 (fun _ => False)) (F0 m 0 ls []) := by
  have hx := zc.1
  have hb := zc.2.1
  refine lv_iconst (v := (0 : Int32)) hx hb dX11_isDone_0 (by decide) ?_
  refine lv_istore_n (lv' := [(2, .int (0 : Int32)), (0, .ref q), (1, .int x1)]) hx hb dX11_isDone_1 rfl hl (by decide) rfl (fun ls hl => ?_)
  exact t_m_isDone_2 zc hK hM  (lv_sub hl [1, 2, 0] rfl) hw
set_option maxRecDepth 20000 in
theorem c_m_isDone (l : Launch) {E : zE} {q : Nat} {f_code : Int32} {a_tape : Nat → Int32} {a_size : Nat → Int32} {a_fault : Nat → Int32} {a_faultPlace : Nat → Int32} {a_many : Nat → Int32} {a_lands : Nat → Int32} {a_evenings : Nat → Int32} {a_sights : Nat → Int32} {a_choirs : Nat → Int32} {f_reached : Int32} {f_length : Int32} {f_begins : Int32} {f_sort : Int32} {f_value : Int32} {f_word : Int64} {f_wrongAt : Int32} {f_laterFault : Int32} {f_laterPlace : Int32} {a_told : Nat → Int32} {a_read : Nat → Int32} {f_farHut : Int32} {f_farSinger : Int32} {f_good : Int32} {f_land : Int32} {f_huts : Int32} {f_singers : Int32} {f_evening : Int32} {a_at : Nat → Int32} {a_knows : Nat → Int32} {a_climbed : Nat → Int32} {a_snow : Nat → Int32} {a_level : Nat → Int32} {f_begun : Int32} {f_minute : Int32} {f_avalanches : Int32} {a_run : Nat → Int32} {a_covers : Nat → Int32} {a_routes : Nat → Int32} {a_longest : Nat → Int32} {a_steep : Nat → Int32} {a_laid : Nat → Int32} {a_far : Nat → Int32} {f_sight : Int32} {a_runs : Nat → Int32} {f_choir : Int32} {f_voices : Int32} {a_rest : Nat → Int64} {a_wins : Nat → Int32} {f_seed : Int32} {a_other : Nat → Int32} {a_kept : Nat → Int32} {x1 : Int32} {post : Int32 → Prop} (hw : q_m_isDone_0 a_lands f_land f_huts f_singers a_at a_knows a_snow a_level x1 post) : Met l yX11_isDone (Cond.code yX11_isDone cX11_isDone 5 (some .boolean) :: zb) rm_m_isDone (va_Pc [.ref q, .int x1] (fun U => mW E q f_code a_tape a_size a_fault a_faultPlace a_many a_lands a_evenings a_sights a_choirs f_reached f_length f_begins f_sort f_value f_word f_wrongAt f_laterFault f_laterPlace a_told a_read f_farHut f_farSinger f_good f_land f_huts f_singers f_evening a_at a_knows a_climbed a_snow a_level f_begun f_minute f_avalanches a_run a_covers a_routes a_longest a_steep a_laid a_far f_sight a_runs f_choir f_voices a_rest a_wins f_seed a_other a_kept U.heap ∧ zK E U)) (vp_Si post) 0 0 (fun _ => False) := by
  refine Met.ofW (cc := cX11_isDone) (maxL := 5) (ret := (some .boolean)) (by decide) rfl ?_
  intro p e s m args below meth c s₁ B hml hv
  obtain ⟨rfl, hM, hK⟩ := hv
  have zc := zc_of B hml
  have hl := lv_entry ([.ref q, .int x1]) (n := 5) (Nat.le_of_ble_eq_true rfl)
  rw [lg_entry_eq]
  generalize (lg_sl ([.ref q, .int x1]) ++ List.replicate (5 - (lg_sl ([.ref q, .int x1])).length) Slot.unset).toArray = ls at hl ⊢
  have hl : lv_has ls 5 [(0, .ref q), (1, .int x1)] := hl
  exact t_m_isDone_0 zc hK hM (lv_sub hl [0, 1] rfl) hw
-- m_doneFor
abbrev rm_m_doneFor : Room := { frames := 4, cells := 0, slots := 0, locals := 92 }
def q_m_doneFor_36 (P4 : Int32 → Int32 → Prop) (a_lands : Nat → Int32) (f_land : Int32) (f_huts : Int32) (f_singers : Int32) (a_at : Nat → Int32) (a_knows : Nat → Int32) (a_snow : Nat → Int32) (a_level : Nat → Int32) (f_begun : Int32) (x2 : Int32) (y0 : Int32) (y1 : Int32) (post : Int32 → Prop) : Prop :=
  ∀ v_1 : Int32, v_1 = (y0 ||| y1) → (∀ v_2 : Int32, v_2 = x2 + (1 : Int32) → (P4 v_1 v_2))
def q_m_doneFor_35 (P4 : Int32 → Int32 → Prop) (a_lands : Nat → Int32) (f_land : Int32) (f_huts : Int32) (f_singers : Int32) (a_at : Nat → Int32) (a_knows : Nat → Int32) (a_snow : Nat → Int32) (a_level : Nat → Int32) (f_begun : Int32) (x2 : Int32) (y0 : Int32) (post : Int32 → Prop) : Prop :=
  q_m_doneFor_36 P4 a_lands f_land f_huts f_singers a_at a_knows a_snow a_level f_begun x2 y0 (0 : Int32) post
def q_m_doneFor_4 (a_lands : Nat → Int32) (f_land : Int32) (f_huts : Int32) (f_singers : Int32) (a_at : Nat → Int32) (a_knows : Nat → Int32) (a_snow : Nat → Int32) (a_level : Nat → Int32) (f_begun : Int32) (x1 : Int32) (x2 : Int32) (post : Int32 → Prop) : Prop :=
  ∀ P4 : Int32 → Int32 → Prop, (∀ (x1 : Int32) (x2 : Int32), (((5 : Int32) ≤ x2 → (post x1)) ∧ (¬ (5 : Int32) ≤ x2 → (q_m_has_0 f_begun x2 (fun r_1 => (r_1 = 0 → (q_m_doneFor_35 P4 a_lands f_land f_huts f_singers a_at a_knows a_snow a_level f_begun x2 x1 post)) ∧ (¬ r_1 = 0 → (q_m_isDone_0 a_lands f_land f_huts f_singers a_at a_knows a_snow a_level x2 (fun r_2 => (r_2 = 0 → (q_m_doneFor_35 P4 a_lands f_land f_huts f_singers a_at a_knows a_snow a_level f_begun x2 x1 post)) ∧ (¬ r_2 = 0 → (q_m_doneFor_36 P4 a_lands f_land f_huts f_singers a_at a_knows a_snow a_level f_begun x2 x1 ((1 : Int32) <<< (x2 &&& 31)) post))))))))) → P4 x1 x2) → P4 x1 x2
def q_m_doneFor_0 (a_lands : Nat → Int32) (f_land : Int32) (f_huts : Int32) (f_singers : Int32) (a_at : Nat → Int32) (a_knows : Nat → Int32) (a_snow : Nat → Int32) (a_level : Nat → Int32) (f_begun : Int32) (post : Int32 → Prop) : Prop :=
  q_m_doneFor_4 a_lands f_land f_huts f_singers a_at a_knows a_snow a_level f_begun (0 : Int32) (0 : Int32) post
set_option maxRecDepth 20000 in
theorem t_m_doneFor_36 {p : Program} {l : Launch} {e : Env} {s : State} {m : MethodId} {args : Array Value} {below : List Frame} {meth : Method} {c : Code} {E : zE} {q : Nat} {f_code : Int32} {a_tape : Nat → Int32} {a_size : Nat → Int32} {a_fault : Nat → Int32} {a_faultPlace : Nat → Int32} {a_many : Nat → Int32} {a_lands : Nat → Int32} {a_evenings : Nat → Int32} {a_sights : Nat → Int32} {a_choirs : Nat → Int32} {f_reached : Int32} {f_length : Int32} {f_begins : Int32} {f_sort : Int32} {f_value : Int32} {f_word : Int64} {f_wrongAt : Int32} {f_laterFault : Int32} {f_laterPlace : Int32} {a_told : Nat → Int32} {a_read : Nat → Int32} {f_farHut : Int32} {f_farSinger : Int32} {f_good : Int32} {f_land : Int32} {f_huts : Int32} {f_singers : Int32} {f_evening : Int32} {a_at : Nat → Int32} {a_knows : Nat → Int32} {a_climbed : Nat → Int32} {a_snow : Nat → Int32} {a_level : Nat → Int32} {f_begun : Int32} {f_minute : Int32} {f_avalanches : Int32} {a_run : Nat → Int32} {a_covers : Nat → Int32} {a_routes : Nat → Int32} {a_longest : Nat → Int32} {a_steep : Nat → Int32} {a_laid : Nat → Int32} {a_far : Nat → Int32} {f_sight : Int32} {a_runs : Nat → Int32} {f_choir : Int32} {f_voices : Int32} {a_rest : Nat → Int64} {a_wins : Nat → Int32} {f_seed : Int32} {a_other : Nat → Int32} {a_kept : Nat → Int32} {P4 : Int32 → Int32 → Prop} {post : Int32 → Prop} {x2 : Int32} {y0 : Int32} {y1 : Int32} {ls : Array Slot}
    (zc : zC p s m args meth c cX11_doneFor 3 RX11 (some .int))
    (hK : zK E s)
    (hM : mW E q f_code a_tape a_size a_fault a_faultPlace a_many a_lands a_evenings a_sights a_choirs f_reached f_length f_begins f_sort f_value f_word f_wrongAt f_laterFault f_laterPlace a_told a_read f_farHut f_farSinger f_good f_land f_huts f_singers f_evening a_at a_knows a_climbed a_snow a_level f_begun f_minute f_avalanches a_run a_covers a_routes a_longest a_steep a_laid a_far f_sight a_runs f_choir f_voices a_rest a_wins f_seed a_other a_kept s.heap)
    (hP4 : ∀ (x1 : Int32) (x2 : Int32) (ls : Array Slot), P4 x1 x2 → lv_has ls 3 [(0, .ref q), (1, .int x1), (2, .int x2)] → W p l e rm_m_doneFor s m args below meth c s.heap [] 0 0 (MQ below (vp_Si post) args s 0 0 (fun _ => False)) (F0 m 4 ls []))
    (hl : lv_has ls 3 [(0, .ref q), (2, .int x2)])
    (hw : q_m_doneFor_36 P4 a_lands f_land f_huts f_singers a_at a_knows a_snow a_level f_begun x2 y0 y1 post) :
    W p l e rm_m_doneFor s m args below meth c s.heap [] 0 0 (MQ below (vp_Si post) args s 0 0 (fun _ => False)) (F0 m 36 ls [.int y1, .int y0]) := by
  have hx := zc.1
  have hb := zc.2.1
  refine lv_ior hx hb dX11_doneFor_36 ?_
  refine lv_topi (fun v_1 ev_1 => ?_)
  have hw := hw v_1 ev_1
  refine lv_istore_n (lv' := [(1, .int v_1), (0, .ref q), (2, .int x2)]) hx hb dX11_doneFor_37 rfl hl (by decide) rfl (fun ls hl => ?_)
  obtain ⟨v_2, ev_2⟩ : ∃ y : Int32, y = x2 + (1 : Int32) := ⟨_, rfl⟩
  have hw := hw v_2 ev_2
  refine lv_iinc (v := v_2) (k := 2) (lv' := [(2, .int v_2), (1, .int v_1), (0, .ref q)]) hx hb dX11_doneFor_38 hl rfl (by rw [ev_2]; rfl) (by decide) rfl (fun ls hl => ?_)
  refine lv_goto (tgt := 4) hx hb dX11_doneFor_41 (by decide) ?_
  exact hP4 _ _ _ hw (lv_sub hl [2, 1, 0] rfl)
set_option maxRecDepth 20000 in
theorem t_m_doneFor_35 {p : Program} {l : Launch} {e : Env} {s : State} {m : MethodId} {args : Array Value} {below : List Frame} {meth : Method} {c : Code} {E : zE} {q : Nat} {f_code : Int32} {a_tape : Nat → Int32} {a_size : Nat → Int32} {a_fault : Nat → Int32} {a_faultPlace : Nat → Int32} {a_many : Nat → Int32} {a_lands : Nat → Int32} {a_evenings : Nat → Int32} {a_sights : Nat → Int32} {a_choirs : Nat → Int32} {f_reached : Int32} {f_length : Int32} {f_begins : Int32} {f_sort : Int32} {f_value : Int32} {f_word : Int64} {f_wrongAt : Int32} {f_laterFault : Int32} {f_laterPlace : Int32} {a_told : Nat → Int32} {a_read : Nat → Int32} {f_farHut : Int32} {f_farSinger : Int32} {f_good : Int32} {f_land : Int32} {f_huts : Int32} {f_singers : Int32} {f_evening : Int32} {a_at : Nat → Int32} {a_knows : Nat → Int32} {a_climbed : Nat → Int32} {a_snow : Nat → Int32} {a_level : Nat → Int32} {f_begun : Int32} {f_minute : Int32} {f_avalanches : Int32} {a_run : Nat → Int32} {a_covers : Nat → Int32} {a_routes : Nat → Int32} {a_longest : Nat → Int32} {a_steep : Nat → Int32} {a_laid : Nat → Int32} {a_far : Nat → Int32} {f_sight : Int32} {a_runs : Nat → Int32} {f_choir : Int32} {f_voices : Int32} {a_rest : Nat → Int64} {a_wins : Nat → Int32} {f_seed : Int32} {a_other : Nat → Int32} {a_kept : Nat → Int32} {P4 : Int32 → Int32 → Prop} {post : Int32 → Prop} {x2 : Int32} {y0 : Int32} {ls : Array Slot}
    (zc : zC p s m args meth c cX11_doneFor 3 RX11 (some .int))
    (hK : zK E s)
    (hM : mW E q f_code a_tape a_size a_fault a_faultPlace a_many a_lands a_evenings a_sights a_choirs f_reached f_length f_begins f_sort f_value f_word f_wrongAt f_laterFault f_laterPlace a_told a_read f_farHut f_farSinger f_good f_land f_huts f_singers f_evening a_at a_knows a_climbed a_snow a_level f_begun f_minute f_avalanches a_run a_covers a_routes a_longest a_steep a_laid a_far f_sight a_runs f_choir f_voices a_rest a_wins f_seed a_other a_kept s.heap)
    (hP4 : ∀ (x1 : Int32) (x2 : Int32) (ls : Array Slot), P4 x1 x2 → lv_has ls 3 [(0, .ref q), (1, .int x1), (2, .int x2)] → W p l e rm_m_doneFor s m args below meth c s.heap [] 0 0 (MQ below (vp_Si post) args s 0 0 (fun _ => False)) (F0 m 4 ls []))
    (hl : lv_has ls 3 [(0, .ref q), (2, .int x2)])
    (hw : q_m_doneFor_35 P4 a_lands f_land f_huts f_singers a_at a_knows a_snow a_level f_begun x2 y0 post) :
    W p l e rm_m_doneFor s m args below meth c s.heap [] 0 0 (MQ below (vp_Si post) args s 0 0 (fun _ => False)) (F0 m 35 ls [.int y0]) := by
  have hx := zc.1
  have hb := zc.2.1
  refine lv_iconst (v := (0 : Int32)) hx hb dX11_doneFor_35 (by decide) ?_
  exact t_m_doneFor_36 zc hK hM hP4 (lv_sub hl [0, 1] rfl) hw
set_option maxRecDepth 20000 in
theorem t_m_doneFor_4 {p : Program} {l : Launch} {e : Env} {s : State} {m : MethodId} {args : Array Value} {below : List Frame} {meth : Method} {c : Code} {E : zE} {q : Nat} {f_code : Int32} {a_tape : Nat → Int32} {a_size : Nat → Int32} {a_fault : Nat → Int32} {a_faultPlace : Nat → Int32} {a_many : Nat → Int32} {a_lands : Nat → Int32} {a_evenings : Nat → Int32} {a_sights : Nat → Int32} {a_choirs : Nat → Int32} {f_reached : Int32} {f_length : Int32} {f_begins : Int32} {f_sort : Int32} {f_value : Int32} {f_word : Int64} {f_wrongAt : Int32} {f_laterFault : Int32} {f_laterPlace : Int32} {a_told : Nat → Int32} {a_read : Nat → Int32} {f_farHut : Int32} {f_farSinger : Int32} {f_good : Int32} {f_land : Int32} {f_huts : Int32} {f_singers : Int32} {f_evening : Int32} {a_at : Nat → Int32} {a_knows : Nat → Int32} {a_climbed : Nat → Int32} {a_snow : Nat → Int32} {a_level : Nat → Int32} {f_begun : Int32} {f_minute : Int32} {f_avalanches : Int32} {a_run : Nat → Int32} {a_covers : Nat → Int32} {a_routes : Nat → Int32} {a_longest : Nat → Int32} {a_steep : Nat → Int32} {a_laid : Nat → Int32} {a_far : Nat → Int32} {f_sight : Int32} {a_runs : Nat → Int32} {f_choir : Int32} {f_voices : Int32} {a_rest : Nat → Int64} {a_wins : Nat → Int32} {f_seed : Int32} {a_other : Nat → Int32} {a_kept : Nat → Int32} {post : Int32 → Prop} {x1 : Int32} {x2 : Int32} {ls : Array Slot}
    (zc : zC p s m args meth c cX11_doneFor 3 RX11 (some .int))
    (hK : zK E s)
    (hM : mW E q f_code a_tape a_size a_fault a_faultPlace a_many a_lands a_evenings a_sights a_choirs f_reached f_length f_begins f_sort f_value f_word f_wrongAt f_laterFault f_laterPlace a_told a_read f_farHut f_farSinger f_good f_land f_huts f_singers f_evening a_at a_knows a_climbed a_snow a_level f_begun f_minute f_avalanches a_run a_covers a_routes a_longest a_steep a_laid a_far f_sight a_runs f_choir f_voices a_rest a_wins f_seed a_other a_kept s.heap)
    (hl : lv_has ls 3 [(0, .ref q), (1, .int x1), (2, .int x2)])
    (hw : q_m_doneFor_4 a_lands f_land f_huts f_singers a_at a_knows a_snow a_level f_begun x1 x2 post) :
    W p l e rm_m_doneFor s m args below meth c s.heap [] 0 0 (MQ below (vp_Si post) args s 0 0 (fun _ => False)) (F0 m 4 ls []) := by
  have hx := zc.1
  have hb := zc.2.1
  refine hw (fun x1 x2 => ∀ (ls : Array Slot), lv_has ls 3 [(0, .ref q), (1, .int x1), (2, .int x2)] → W p l e rm_m_doneFor s m args below meth c s.heap [] 0 0 (MQ below (vp_Si post) args s 0 0 (fun _ => False)) (F0 m 4 ls [])) ?_ _ hl
  intro x1 x2 hw ls hl
  refine lv_iload_n hx hb dX11_doneFor_4 rfl (lv_at hl 2 rfl) ?_
  refine lv_iconst (v := (5 : Int32)) hx hb dX11_doneFor_5 (by decide) ?_
  refine lv_icmp_ge (tgt := 44) hx hb dX11_doneFor_6 (by decide) (fun hc => ?_) (fun hc => ?_)
  · have hw := hw.1 hc
    refine lv_iload_n hx hb dX11_doneFor_44 rfl (lv_at hl 1 rfl) ?_
    exact zret_i zc hw dX11_doneFor_45
  · have hw := hw.2 hc
    refine lv_iload_n hx hb dX11_doneFor_9 rfl (lv_at hl 1 rfl) ?_
    refine lv_aload_n hx hb dX11_doneFor_10 rfl (lv_at hl 0 rfl) ?_
    refine mg_11_340_0 zc hK hM dX11_doneFor_11 ?_
    refine lv_iload_n hx hb dX11_doneFor_14 rfl (lv_at hl 2 rfl) ?_
    refine zS_i [.int f_begun, .int x2] [.int x1] zc ky_X11_has kz_X11_has km_11_101 (c_m_has l hw) (zPre0 _) rfl rfl hl.1 (Nat.le_of_ble_eq_true rfl) ⟨rfl, rfl⟩ ⟨Nat.le_of_ble_eq_true rfl, Nat.le_of_ble_eq_true rfl⟩ ⟨(Nat.zero_le _), (Nat.zero_le _)⟩ dX11_doneFor_15 (fun r_1 hw => ?_)
    refine lv_if_eq (tgt := 35) hx hb dX11_doneFor_18 (by decide) (fun hc => ?_) (fun hc => ?_)
    · have hw := hw.1 hc
      exact t_m_doneFor_35 zc hK hM (fun _ _ ls h hl => h ls hl) (lv_sub hl [0, 2] rfl) hw
    · have hw := hw.2 hc
      refine lv_aload_n hx hb dX11_doneFor_21 rfl (lv_at hl 0 rfl) ?_
      refine lv_iload_n hx hb dX11_doneFor_22 rfl (lv_at hl 2 rfl) ?_
      refine zV_i [.int x2] [.int x1] zc ky_X11_isDone kz_X11_isDone km_11_392 (c_m_isDone l hw) (mPreV0 hK hM) rfl rfl hl.1 (Nat.le_of_ble_eq_true rfl) ⟨rfl, rfl⟩ ⟨Nat.le_of_ble_eq_true rfl, Nat.le_of_ble_eq_true rfl⟩ ⟨(Nat.zero_le _), (Nat.zero_le _)⟩ dX11_doneFor_23 (fun r_2 hw => ?_)
      refine lv_if_eq (tgt := 35) hx hb dX11_doneFor_26 (by decide) (fun hc => ?_) (fun hc => ?_)
      · have hw := hw.1 hc
        exact t_m_doneFor_35 zc hK hM (fun _ _ ls h hl => h ls hl) (lv_sub hl [0, 2] rfl) hw
      · have hw := hw.2 hc
        refine lv_iconst (v := (1 : Int32)) hx hb dX11_doneFor_29 (by decide) ?_
        refine lv_iload_n hx hb dX11_doneFor_30 rfl (lv_at hl 2 rfl) ?_
        refine lv_ishl hx hb dX11_doneFor_31 ?_
        refine lv_goto (tgt := 36) hx hb dX11_doneFor_32 (by decide) ?_
        exact t_m_doneFor_36 zc hK hM (fun _ _ ls h hl => h ls hl) (lv_sub hl [0, 2] rfl) hw
set_option maxRecDepth 20000 in
theorem t_m_doneFor_0 {p : Program} {l : Launch} {e : Env} {s : State} {m : MethodId} {args : Array Value} {below : List Frame} {meth : Method} {c : Code} {E : zE} {q : Nat} {f_code : Int32} {a_tape : Nat → Int32} {a_size : Nat → Int32} {a_fault : Nat → Int32} {a_faultPlace : Nat → Int32} {a_many : Nat → Int32} {a_lands : Nat → Int32} {a_evenings : Nat → Int32} {a_sights : Nat → Int32} {a_choirs : Nat → Int32} {f_reached : Int32} {f_length : Int32} {f_begins : Int32} {f_sort : Int32} {f_value : Int32} {f_word : Int64} {f_wrongAt : Int32} {f_laterFault : Int32} {f_laterPlace : Int32} {a_told : Nat → Int32} {a_read : Nat → Int32} {f_farHut : Int32} {f_farSinger : Int32} {f_good : Int32} {f_land : Int32} {f_huts : Int32} {f_singers : Int32} {f_evening : Int32} {a_at : Nat → Int32} {a_knows : Nat → Int32} {a_climbed : Nat → Int32} {a_snow : Nat → Int32} {a_level : Nat → Int32} {f_begun : Int32} {f_minute : Int32} {f_avalanches : Int32} {a_run : Nat → Int32} {a_covers : Nat → Int32} {a_routes : Nat → Int32} {a_longest : Nat → Int32} {a_steep : Nat → Int32} {a_laid : Nat → Int32} {a_far : Nat → Int32} {f_sight : Int32} {a_runs : Nat → Int32} {f_choir : Int32} {f_voices : Int32} {a_rest : Nat → Int64} {a_wins : Nat → Int32} {f_seed : Int32} {a_other : Nat → Int32} {a_kept : Nat → Int32} {post : Int32 → Prop} {ls : Array Slot}
    (zc : zC p s m args meth c cX11_doneFor 3 RX11 (some .int))
    (hK : zK E s)
    (hM : mW E q f_code a_tape a_size a_fault a_faultPlace a_many a_lands a_evenings a_sights a_choirs f_reached f_length f_begins f_sort f_value f_word f_wrongAt f_laterFault f_laterPlace a_told a_read f_farHut f_farSinger f_good f_land f_huts f_singers f_evening a_at a_knows a_climbed a_snow a_level f_begun f_minute f_avalanches a_run a_covers a_routes a_longest a_steep a_laid a_far f_sight a_runs f_choir f_voices a_rest a_wins f_seed a_other a_kept s.heap)
    (hl : lv_has ls 3 [(0, .ref q)])
    (hw : q_m_doneFor_0 a_lands f_land f_huts f_singers a_at a_knows a_snow a_level f_begun post) :
    W p l e rm_m_doneFor s m args below meth c s.heap [] 0 0 (MQ below (vp_Si post) args s 0 0 (fun _ => False)) (F0 m 0 ls []) := by
  have hx := zc.1
  have hb := zc.2.1
  refine lv_iconst (v := (0 : Int32)) hx hb dX11_doneFor_0 (by decide) ?_
  refine lv_istore_n (lv' := [(1, .int (0 : Int32)), (0, .ref q)]) hx hb dX11_doneFor_1 rfl hl (by decide) rfl (fun ls hl => ?_)
  refine lv_iconst (v := (0 : Int32)) hx hb dX11_doneFor_2 (by decide) ?_
  refine lv_istore_n (lv' := [(2, .int (0 : Int32)), (1, .int (0 : Int32)), (0, .ref q)]) hx hb dX11_doneFor_3 rfl hl (by decide) rfl (fun ls hl => ?_)
  exact t_m_doneFor_4 zc hK hM  (lv_sub hl [2, 1, 0] rfl) hw
set_option maxRecDepth 20000 in
theorem c_m_doneFor (l : Launch) {E : zE} {q : Nat} {f_code : Int32} {a_tape : Nat → Int32} {a_size : Nat → Int32} {a_fault : Nat → Int32} {a_faultPlace : Nat → Int32} {a_many : Nat → Int32} {a_lands : Nat → Int32} {a_evenings : Nat → Int32} {a_sights : Nat → Int32} {a_choirs : Nat → Int32} {f_reached : Int32} {f_length : Int32} {f_begins : Int32} {f_sort : Int32} {f_value : Int32} {f_word : Int64} {f_wrongAt : Int32} {f_laterFault : Int32} {f_laterPlace : Int32} {a_told : Nat → Int32} {a_read : Nat → Int32} {f_farHut : Int32} {f_farSinger : Int32} {f_good : Int32} {f_land : Int32} {f_huts : Int32} {f_singers : Int32} {f_evening : Int32} {a_at : Nat → Int32} {a_knows : Nat → Int32} {a_climbed : Nat → Int32} {a_snow : Nat → Int32} {a_level : Nat → Int32} {f_begun : Int32} {f_minute : Int32} {f_avalanches : Int32} {a_run : Nat → Int32} {a_covers : Nat → Int32} {a_routes : Nat → Int32} {a_longest : Nat → Int32} {a_steep : Nat → Int32} {a_laid : Nat → Int32} {a_far : Nat → Int32} {f_sight : Int32} {a_runs : Nat → Int32} {f_choir : Int32} {f_voices : Int32} {a_rest : Nat → Int64} {a_wins : Nat → Int32} {f_seed : Int32} {a_other : Nat → Int32} {a_kept : Nat → Int32} {post : Int32 → Prop} (hw : q_m_doneFor_0 a_lands f_land f_huts f_singers a_at a_knows a_snow a_level f_begun post) : Met l yX11_doneFor (Cond.code yX11_doneFor cX11_doneFor 3 (some .int) :: zb) rm_m_doneFor (va_Pc [.ref q] (fun U => mW E q f_code a_tape a_size a_fault a_faultPlace a_many a_lands a_evenings a_sights a_choirs f_reached f_length f_begins f_sort f_value f_word f_wrongAt f_laterFault f_laterPlace a_told a_read f_farHut f_farSinger f_good f_land f_huts f_singers f_evening a_at a_knows a_climbed a_snow a_level f_begun f_minute f_avalanches a_run a_covers a_routes a_longest a_steep a_laid a_far f_sight a_runs f_choir f_voices a_rest a_wins f_seed a_other a_kept U.heap ∧ zK E U)) (vp_Si post) 0 0 (fun _ => False) := by
  refine Met.ofW (cc := cX11_doneFor) (maxL := 3) (ret := (some .int)) (by decide) rfl ?_
  intro p e s m args below meth c s₁ B hml hv
  obtain ⟨rfl, hM, hK⟩ := hv
  have zc := zc_of B hml
  have hl := lv_entry ([.ref q]) (n := 3) (Nat.le_of_ble_eq_true rfl)
  rw [lg_entry_eq]
  generalize (lg_sl ([.ref q]) ++ List.replicate (3 - (lg_sl ([.ref q])).length) Slot.unset).toArray = ls at hl ⊢
  have hl : lv_has ls 3 [(0, .ref q)] := hl
  exact t_m_doneFor_0 zc hK hM (lv_sub hl [0] rfl) hw
-- m_fame
abbrev rm_m_fame : Room := { frames := 1, cells := 0, slots := 0, locals := 21 }
def q_m_fame_31 (P4 : Int32 → Int32 → Prop) (f_singers : Int32) (a_knows : Nat → Int32) (x1 : Int32) (x3 : Int32) (y0 : Int32) (y1 : Int32) (post : Int32 → Prop) : Prop :=
  ∀ v_1 : Int32, v_1 = (y0 + y1) → (∀ v_2 : Int32, v_2 = x3 + (1 : Int32) → (P4 v_1 v_2))
def q_m_fame_4 (f_singers : Int32) (a_knows : Nat → Int32) (x1 : Int32) (x2 : Int32) (x3 : Int32) (post : Int32 → Prop) : Prop :=
  ∀ P4 : Int32 → Int32 → Prop, (∀ (x2 : Int32) (x3 : Int32), ((f_singers ≤ x3 → (post x2)) ∧ (¬ f_singers ≤ x3 → (vp_in x3 6 ∧ (q_m_has_0 (a_knows (Int32.toNatClampNeg x3)) x1 (fun r_1 => (r_1 = 0 → (q_m_fame_31 P4 f_singers a_knows x1 x3 x2 (0 : Int32) post)) ∧ (¬ r_1 = 0 → (q_m_fame_31 P4 f_singers a_knows x1 x3 x2 (1 : Int32) post))))))) → P4 x2 x3) → P4 x2 x3
def q_m_fame_0 (f_singers : Int32) (a_knows : Nat → Int32) (x1 : Int32) (post : Int32 → Prop) : Prop :=
  q_m_fame_4 f_singers a_knows x1 (0 : Int32) (0 : Int32) post
set_option maxRecDepth 20000 in
theorem t_m_fame_31 {p : Program} {l : Launch} {e : Env} {s : State} {m : MethodId} {args : Array Value} {below : List Frame} {meth : Method} {c : Code} {E : zE} {q : Nat} {f_code : Int32} {a_tape : Nat → Int32} {a_size : Nat → Int32} {a_fault : Nat → Int32} {a_faultPlace : Nat → Int32} {a_many : Nat → Int32} {a_lands : Nat → Int32} {a_evenings : Nat → Int32} {a_sights : Nat → Int32} {a_choirs : Nat → Int32} {f_reached : Int32} {f_length : Int32} {f_begins : Int32} {f_sort : Int32} {f_value : Int32} {f_word : Int64} {f_wrongAt : Int32} {f_laterFault : Int32} {f_laterPlace : Int32} {a_told : Nat → Int32} {a_read : Nat → Int32} {f_farHut : Int32} {f_farSinger : Int32} {f_good : Int32} {f_land : Int32} {f_huts : Int32} {f_singers : Int32} {f_evening : Int32} {a_at : Nat → Int32} {a_knows : Nat → Int32} {a_climbed : Nat → Int32} {a_snow : Nat → Int32} {a_level : Nat → Int32} {f_begun : Int32} {f_minute : Int32} {f_avalanches : Int32} {a_run : Nat → Int32} {a_covers : Nat → Int32} {a_routes : Nat → Int32} {a_longest : Nat → Int32} {a_steep : Nat → Int32} {a_laid : Nat → Int32} {a_far : Nat → Int32} {f_sight : Int32} {a_runs : Nat → Int32} {f_choir : Int32} {f_voices : Int32} {a_rest : Nat → Int64} {a_wins : Nat → Int32} {f_seed : Int32} {a_other : Nat → Int32} {a_kept : Nat → Int32} {P4 : Int32 → Int32 → Prop} {post : Int32 → Prop} {x1 : Int32} {x3 : Int32} {y0 : Int32} {y1 : Int32} {ls : Array Slot}
    (zc : zC p s m args meth c cX11_fame 4 RX11 (some .int))
    (hK : zK E s)
    (hM : mW E q f_code a_tape a_size a_fault a_faultPlace a_many a_lands a_evenings a_sights a_choirs f_reached f_length f_begins f_sort f_value f_word f_wrongAt f_laterFault f_laterPlace a_told a_read f_farHut f_farSinger f_good f_land f_huts f_singers f_evening a_at a_knows a_climbed a_snow a_level f_begun f_minute f_avalanches a_run a_covers a_routes a_longest a_steep a_laid a_far f_sight a_runs f_choir f_voices a_rest a_wins f_seed a_other a_kept s.heap)
    (hP4 : ∀ (x2 : Int32) (x3 : Int32) (ls : Array Slot), P4 x2 x3 → lv_has ls 4 [(0, .ref q), (1, .int x1), (2, .int x2), (3, .int x3)] → W p l e rm_m_fame s m args below meth c s.heap [] 0 0 (MQ below (vp_Si post) args s 0 0 (fun _ => False)) (F0 m 4 ls []))
    (hl : lv_has ls 4 [(0, .ref q), (1, .int x1), (3, .int x3)])
    (hw : q_m_fame_31 P4 f_singers a_knows x1 x3 y0 y1 post) :
    W p l e rm_m_fame s m args below meth c s.heap [] 0 0 (MQ below (vp_Si post) args s 0 0 (fun _ => False)) (F0 m 31 ls [.int y1, .int y0]) := by
  have hx := zc.1
  have hb := zc.2.1
  refine lv_iadd hx hb dX11_fame_31 ?_
  refine lv_topi (fun v_1 ev_1 => ?_)
  have hw := hw v_1 ev_1
  refine lv_istore_n (lv' := [(2, .int v_1), (0, .ref q), (1, .int x1), (3, .int x3)]) hx hb dX11_fame_32 rfl hl (by decide) rfl (fun ls hl => ?_)
  obtain ⟨v_2, ev_2⟩ : ∃ y : Int32, y = x3 + (1 : Int32) := ⟨_, rfl⟩
  have hw := hw v_2 ev_2
  refine lv_iinc (v := v_2) (k := 3) (lv' := [(3, .int v_2), (2, .int v_1), (0, .ref q), (1, .int x1)]) hx hb dX11_fame_33 hl rfl (by rw [ev_2]; rfl) (by decide) rfl (fun ls hl => ?_)
  refine lv_goto (tgt := 4) hx hb dX11_fame_36 (by decide) ?_
  exact hP4 _ _ _ hw (lv_sub hl [2, 3, 1, 0] rfl)
set_option maxRecDepth 20000 in
theorem t_m_fame_4 {p : Program} {l : Launch} {e : Env} {s : State} {m : MethodId} {args : Array Value} {below : List Frame} {meth : Method} {c : Code} {E : zE} {q : Nat} {f_code : Int32} {a_tape : Nat → Int32} {a_size : Nat → Int32} {a_fault : Nat → Int32} {a_faultPlace : Nat → Int32} {a_many : Nat → Int32} {a_lands : Nat → Int32} {a_evenings : Nat → Int32} {a_sights : Nat → Int32} {a_choirs : Nat → Int32} {f_reached : Int32} {f_length : Int32} {f_begins : Int32} {f_sort : Int32} {f_value : Int32} {f_word : Int64} {f_wrongAt : Int32} {f_laterFault : Int32} {f_laterPlace : Int32} {a_told : Nat → Int32} {a_read : Nat → Int32} {f_farHut : Int32} {f_farSinger : Int32} {f_good : Int32} {f_land : Int32} {f_huts : Int32} {f_singers : Int32} {f_evening : Int32} {a_at : Nat → Int32} {a_knows : Nat → Int32} {a_climbed : Nat → Int32} {a_snow : Nat → Int32} {a_level : Nat → Int32} {f_begun : Int32} {f_minute : Int32} {f_avalanches : Int32} {a_run : Nat → Int32} {a_covers : Nat → Int32} {a_routes : Nat → Int32} {a_longest : Nat → Int32} {a_steep : Nat → Int32} {a_laid : Nat → Int32} {a_far : Nat → Int32} {f_sight : Int32} {a_runs : Nat → Int32} {f_choir : Int32} {f_voices : Int32} {a_rest : Nat → Int64} {a_wins : Nat → Int32} {f_seed : Int32} {a_other : Nat → Int32} {a_kept : Nat → Int32} {post : Int32 → Prop} {x1 : Int32} {x2 : Int32} {x3 : Int32} {ls : Array Slot}
    (zc : zC p s m args meth c cX11_fame 4 RX11 (some .int))
    (hK : zK E s)
    (hM : mW E q f_code a_tape a_size a_fault a_faultPlace a_many a_lands a_evenings a_sights a_choirs f_reached f_length f_begins f_sort f_value f_word f_wrongAt f_laterFault f_laterPlace a_told a_read f_farHut f_farSinger f_good f_land f_huts f_singers f_evening a_at a_knows a_climbed a_snow a_level f_begun f_minute f_avalanches a_run a_covers a_routes a_longest a_steep a_laid a_far f_sight a_runs f_choir f_voices a_rest a_wins f_seed a_other a_kept s.heap)
    (hl : lv_has ls 4 [(0, .ref q), (1, .int x1), (2, .int x2), (3, .int x3)])
    (hw : q_m_fame_4 f_singers a_knows x1 x2 x3 post) :
    W p l e rm_m_fame s m args below meth c s.heap [] 0 0 (MQ below (vp_Si post) args s 0 0 (fun _ => False)) (F0 m 4 ls []) := by
  have hx := zc.1
  have hb := zc.2.1
  refine hw (fun x2 x3 => ∀ (ls : Array Slot), lv_has ls 4 [(0, .ref q), (1, .int x1), (2, .int x2), (3, .int x3)] → W p l e rm_m_fame s m args below meth c s.heap [] 0 0 (MQ below (vp_Si post) args s 0 0 (fun _ => False)) (F0 m 4 ls [])) ?_ _ hl
  intro x2 x3 hw ls hl
  refine lv_iload_n hx hb dX11_fame_4 rfl (lv_at hl 3 rfl) ?_
  refine lv_aload_n hx hb dX11_fame_5 rfl (lv_at hl 0 rfl) ?_
  refine mg_11_310_0 zc hK hM dX11_fame_6 ?_
  refine lv_icmp_ge (tgt := 39) hx hb dX11_fame_9 (by decide) (fun hc => ?_) (fun hc => ?_)
  · have hw := hw.1 hc
    refine lv_iload_n hx hb dX11_fame_39 rfl (lv_at hl 2 rfl) ?_
    exact zret_i zc hw dX11_fame_40
  · have hw := hw.2 hc
    refine lv_iload_n hx hb dX11_fame_12 rfl (lv_at hl 2 rfl) ?_
    refine lv_aload_n hx hb dX11_fame_13 rfl (lv_at hl 0 rfl) ?_
    refine mg_11_47_0 zc hK hM dX11_fame_14 ?_
    refine lv_iload_n hx hb dX11_fame_17 rfl (lv_at hl 3 rfl) ?_
    refine mld_13 zc hK hM hw.1 dX11_fame_18 ?_
    have hw := hw.2
    refine lv_iload_n hx hb dX11_fame_19 rfl (lv_at hl 1 rfl) ?_
    refine zS_i [.int (a_knows (Int32.toNatClampNeg x3)), .int x1] [.int x2] zc ky_X11_has kz_X11_has km_11_101 (c_m_has l hw) (zPre0 _) rfl rfl hl.1 (Nat.le_of_ble_eq_true rfl) ⟨rfl, rfl⟩ ⟨Nat.le_of_ble_eq_true rfl, Nat.le_of_ble_eq_true rfl⟩ ⟨(Nat.zero_le _), (Nat.zero_le _)⟩ dX11_fame_20 (fun r_1 hw => ?_)
    refine lv_if_eq (tgt := 30) hx hb dX11_fame_23 (by decide) (fun hc => ?_) (fun hc => ?_)
    · have hw := hw.1 hc
      refine lv_iconst (v := (0 : Int32)) hx hb dX11_fame_30 (by decide) ?_
      exact t_m_fame_31 zc hK hM (fun _ _ ls h hl => h ls hl) (lv_sub hl [0, 1, 3] rfl) hw
    · have hw := hw.2 hc
      refine lv_iconst (v := (1 : Int32)) hx hb dX11_fame_26 (by decide) ?_
      refine lv_goto (tgt := 31) hx hb dX11_fame_27 (by decide) ?_
      exact t_m_fame_31 zc hK hM (fun _ _ ls h hl => h ls hl) (lv_sub hl [0, 1, 3] rfl) hw
set_option maxRecDepth 20000 in
theorem t_m_fame_0 {p : Program} {l : Launch} {e : Env} {s : State} {m : MethodId} {args : Array Value} {below : List Frame} {meth : Method} {c : Code} {E : zE} {q : Nat} {f_code : Int32} {a_tape : Nat → Int32} {a_size : Nat → Int32} {a_fault : Nat → Int32} {a_faultPlace : Nat → Int32} {a_many : Nat → Int32} {a_lands : Nat → Int32} {a_evenings : Nat → Int32} {a_sights : Nat → Int32} {a_choirs : Nat → Int32} {f_reached : Int32} {f_length : Int32} {f_begins : Int32} {f_sort : Int32} {f_value : Int32} {f_word : Int64} {f_wrongAt : Int32} {f_laterFault : Int32} {f_laterPlace : Int32} {a_told : Nat → Int32} {a_read : Nat → Int32} {f_farHut : Int32} {f_farSinger : Int32} {f_good : Int32} {f_land : Int32} {f_huts : Int32} {f_singers : Int32} {f_evening : Int32} {a_at : Nat → Int32} {a_knows : Nat → Int32} {a_climbed : Nat → Int32} {a_snow : Nat → Int32} {a_level : Nat → Int32} {f_begun : Int32} {f_minute : Int32} {f_avalanches : Int32} {a_run : Nat → Int32} {a_covers : Nat → Int32} {a_routes : Nat → Int32} {a_longest : Nat → Int32} {a_steep : Nat → Int32} {a_laid : Nat → Int32} {a_far : Nat → Int32} {f_sight : Int32} {a_runs : Nat → Int32} {f_choir : Int32} {f_voices : Int32} {a_rest : Nat → Int64} {a_wins : Nat → Int32} {f_seed : Int32} {a_other : Nat → Int32} {a_kept : Nat → Int32} {post : Int32 → Prop} {x1 : Int32} {ls : Array Slot}
    (zc : zC p s m args meth c cX11_fame 4 RX11 (some .int))
    (hK : zK E s)
    (hM : mW E q f_code a_tape a_size a_fault a_faultPlace a_many a_lands a_evenings a_sights a_choirs f_reached f_length f_begins f_sort f_value f_word f_wrongAt f_laterFault f_laterPlace a_told a_read f_farHut f_farSinger f_good f_land f_huts f_singers f_evening a_at a_knows a_climbed a_snow a_level f_begun f_minute f_avalanches a_run a_covers a_routes a_longest a_steep a_laid a_far f_sight a_runs f_choir f_voices a_rest a_wins f_seed a_other a_kept s.heap)
    (hl : lv_has ls 4 [(0, .ref q), (1, .int x1)])
    (hw : q_m_fame_0 f_singers a_knows x1 post) :
    W p l e rm_m_fame s m args below meth c s.heap [] 0 0 (MQ below (vp_Si post) args s 0 0 (fun _ => False)) (F0 m 0 ls []) := by
  have hx := zc.1
  have hb := zc.2.1
  refine lv_iconst (v := (0 : Int32)) hx hb dX11_fame_0 (by decide) ?_
  refine lv_istore_n (lv' := [(2, .int (0 : Int32)), (0, .ref q), (1, .int x1)]) hx hb dX11_fame_1 rfl hl (by decide) rfl (fun ls hl => ?_)
  refine lv_iconst (v := (0 : Int32)) hx hb dX11_fame_2 (by decide) ?_
  refine lv_istore_n (lv' := [(3, .int (0 : Int32)), (2, .int (0 : Int32)), (0, .ref q), (1, .int x1)]) hx hb dX11_fame_3 rfl hl (by decide) rfl (fun ls hl => ?_)
  exact t_m_fame_4 zc hK hM  (lv_sub hl [2, 3, 1, 0] rfl) hw
set_option maxRecDepth 20000 in
theorem c_m_fame (l : Launch) {E : zE} {q : Nat} {f_code : Int32} {a_tape : Nat → Int32} {a_size : Nat → Int32} {a_fault : Nat → Int32} {a_faultPlace : Nat → Int32} {a_many : Nat → Int32} {a_lands : Nat → Int32} {a_evenings : Nat → Int32} {a_sights : Nat → Int32} {a_choirs : Nat → Int32} {f_reached : Int32} {f_length : Int32} {f_begins : Int32} {f_sort : Int32} {f_value : Int32} {f_word : Int64} {f_wrongAt : Int32} {f_laterFault : Int32} {f_laterPlace : Int32} {a_told : Nat → Int32} {a_read : Nat → Int32} {f_farHut : Int32} {f_farSinger : Int32} {f_good : Int32} {f_land : Int32} {f_huts : Int32} {f_singers : Int32} {f_evening : Int32} {a_at : Nat → Int32} {a_knows : Nat → Int32} {a_climbed : Nat → Int32} {a_snow : Nat → Int32} {a_level : Nat → Int32} {f_begun : Int32} {f_minute : Int32} {f_avalanches : Int32} {a_run : Nat → Int32} {a_covers : Nat → Int32} {a_routes : Nat → Int32} {a_longest : Nat → Int32} {a_steep : Nat → Int32} {a_laid : Nat → Int32} {a_far : Nat → Int32} {f_sight : Int32} {a_runs : Nat → Int32} {f_choir : Int32} {f_voices : Int32} {a_rest : Nat → Int64} {a_wins : Nat → Int32} {f_seed : Int32} {a_other : Nat → Int32} {a_kept : Nat → Int32} {x1 : Int32} {post : Int32 → Prop} (hw : q_m_fame_0 f_singers a_knows x1 post) : Met l yX11_fame (Cond.code yX11_fame cX11_fame 4 (some .int) :: zb) rm_m_fame (va_Pc [.ref q, .int x1] (fun U => mW E q f_code a_tape a_size a_fault a_faultPlace a_many a_lands a_evenings a_sights a_choirs f_reached f_length f_begins f_sort f_value f_word f_wrongAt f_laterFault f_laterPlace a_told a_read f_farHut f_farSinger f_good f_land f_huts f_singers f_evening a_at a_knows a_climbed a_snow a_level f_begun f_minute f_avalanches a_run a_covers a_routes a_longest a_steep a_laid a_far f_sight a_runs f_choir f_voices a_rest a_wins f_seed a_other a_kept U.heap ∧ zK E U)) (vp_Si post) 0 0 (fun _ => False) := by
  refine Met.ofW (cc := cX11_fame) (maxL := 4) (ret := (some .int)) (by decide) rfl ?_
  intro p e s m args below meth c s₁ B hml hv
  obtain ⟨rfl, hM, hK⟩ := hv
  have zc := zc_of B hml
  have hl := lv_entry ([.ref q, .int x1]) (n := 4) (Nat.le_of_ble_eq_true rfl)
  rw [lg_entry_eq]
  generalize (lg_sl ([.ref q, .int x1]) ++ List.replicate (4 - (lg_sl ([.ref q, .int x1])).length) Slot.unset).toArray = ls at hl ⊢
  have hl : lv_has ls 4 [(0, .ref q), (1, .int x1)] := hl
  exact t_m_fame_0 zc hK hM (lv_sub hl [0, 1] rfl) hw
end
section
-- m_seers
abbrev rm_m_seers : Room := { frames := 0, cells := 0, slots := 0, locals := 0 }
def q_m_seers_36 (P4 : Int32 → Int32 → Prop) (f_singers : Int32) (a_knows : Nat → Int32) (f_begun : Int32) (x2 : Int32) (y0 : Int32) (y1 : Int32) (post : Int32 → Prop) : Prop :=
  ∀ v_1 : Int32, v_1 = (y0 ||| y1) → (∀ v_2 : Int32, v_2 = x2 + (1 : Int32) → (P4 v_1 v_2))
def q_m_seers_4 (f_singers : Int32) (a_knows : Nat → Int32) (f_begun : Int32) (x1 : Int32) (x2 : Int32) (post : Int32 → Prop) : Prop :=
  ∀ P4 : Int32 → Int32 → Prop, (∀ (x1 : Int32) (x2 : Int32), ((f_singers ≤ x2 → (post x1)) ∧ (¬ f_singers ≤ x2 → (vp_in x2 6 ∧ ((¬ (f_begun &&& ((a_knows (Int32.toNatClampNeg x2)) ^^^ (-1 : Int32))) = 0 → (q_m_seers_36 P4 f_singers a_knows f_begun x2 x1 (0 : Int32) post)) ∧ ((f_begun &&& ((a_knows (Int32.toNatClampNeg x2)) ^^^ (-1 : Int32))) = 0 → (q_m_seers_36 P4 f_singers a_knows f_begun x2 x1 ((1 : Int32) <<< (x2 &&& 31)) post)))))) → P4 x1 x2) → P4 x1 x2
def q_m_seers_0 (f_singers : Int32) (a_knows : Nat → Int32) (f_begun : Int32) (post : Int32 → Prop) : Prop :=
  q_m_seers_4 f_singers a_knows f_begun (0 : Int32) (0 : Int32) post
set_option maxRecDepth 20000 in
theorem t_m_seers_36 {p : Program} {l : Launch} {e : Env} {s : State} {m : MethodId} {args : Array Value} {below : List Frame} {meth : Method} {c : Code} {E : zE} {q : Nat} {f_code : Int32} {a_tape : Nat → Int32} {a_size : Nat → Int32} {a_fault : Nat → Int32} {a_faultPlace : Nat → Int32} {a_many : Nat → Int32} {a_lands : Nat → Int32} {a_evenings : Nat → Int32} {a_sights : Nat → Int32} {a_choirs : Nat → Int32} {f_reached : Int32} {f_length : Int32} {f_begins : Int32} {f_sort : Int32} {f_value : Int32} {f_word : Int64} {f_wrongAt : Int32} {f_laterFault : Int32} {f_laterPlace : Int32} {a_told : Nat → Int32} {a_read : Nat → Int32} {f_farHut : Int32} {f_farSinger : Int32} {f_good : Int32} {f_land : Int32} {f_huts : Int32} {f_singers : Int32} {f_evening : Int32} {a_at : Nat → Int32} {a_knows : Nat → Int32} {a_climbed : Nat → Int32} {a_snow : Nat → Int32} {a_level : Nat → Int32} {f_begun : Int32} {f_minute : Int32} {f_avalanches : Int32} {a_run : Nat → Int32} {a_covers : Nat → Int32} {a_routes : Nat → Int32} {a_longest : Nat → Int32} {a_steep : Nat → Int32} {a_laid : Nat → Int32} {a_far : Nat → Int32} {f_sight : Int32} {a_runs : Nat → Int32} {f_choir : Int32} {f_voices : Int32} {a_rest : Nat → Int64} {a_wins : Nat → Int32} {f_seed : Int32} {a_other : Nat → Int32} {a_kept : Nat → Int32} {P4 : Int32 → Int32 → Prop} {post : Int32 → Prop} {x2 : Int32} {y0 : Int32} {y1 : Int32} {ls : Array Slot}
    (zc : zC p s m args meth c cX11_seers 3 RX11 (some .int))
    (hK : zK E s)
    (hM : mW E q f_code a_tape a_size a_fault a_faultPlace a_many a_lands a_evenings a_sights a_choirs f_reached f_length f_begins f_sort f_value f_word f_wrongAt f_laterFault f_laterPlace a_told a_read f_farHut f_farSinger f_good f_land f_huts f_singers f_evening a_at a_knows a_climbed a_snow a_level f_begun f_minute f_avalanches a_run a_covers a_routes a_longest a_steep a_laid a_far f_sight a_runs f_choir f_voices a_rest a_wins f_seed a_other a_kept s.heap)
    (hP4 : ∀ (x1 : Int32) (x2 : Int32) (ls : Array Slot), P4 x1 x2 → lv_has ls 3 [(0, .ref q), (1, .int x1), (2, .int x2)] → W p l e rm_m_seers s m args below meth c s.heap [] 0 0 (MQ below (vp_Si post) args s 0 0 (fun _ => False)) (F0 m 4 ls []))
    (hl : lv_has ls 3 [(0, .ref q), (2, .int x2)])
    (hw : q_m_seers_36 P4 f_singers a_knows f_begun x2 y0 y1 post) :
    W p l e rm_m_seers s m args below meth c s.heap [] 0 0 (MQ below (vp_Si post) args s 0 0 (fun _ => False)) (F0 m 36 ls [.int y1, .int y0]) := by
  have hx := zc.1
  have hb := zc.2.1
  refine lv_ior hx hb dX11_seers_36 ?_
  refine lv_topi (fun v_1 ev_1 => ?_)
  have hw := hw v_1 ev_1
  refine lv_istore_n (lv' := [(1, .int v_1), (0, .ref q), (2, .int x2)]) hx hb dX11_seers_37 rfl hl (by decide) rfl (fun ls hl => ?_)
  obtain ⟨v_2, ev_2⟩ : ∃ y : Int32, y = x2 + (1 : Int32) := ⟨_, rfl⟩
  have hw := hw v_2 ev_2
  refine lv_iinc (v := v_2) (k := 2) (lv' := [(2, .int v_2), (1, .int v_1), (0, .ref q)]) hx hb dX11_seers_38 hl rfl (by rw [ev_2]; rfl) (by decide) rfl (fun ls hl => ?_)
  refine lv_goto (tgt := 4) hx hb dX11_seers_41 (by decide) ?_
  exact hP4 _ _ _ hw (lv_sub hl [2, 1, 0] rfl)
set_option maxRecDepth 20000 in
theorem t_m_seers_4 {p : Program} {l : Launch} {e : Env} {s : State} {m : MethodId} {args : Array Value} {below : List Frame} {meth : Method} {c : Code} {E : zE} {q : Nat} {f_code : Int32} {a_tape : Nat → Int32} {a_size : Nat → Int32} {a_fault : Nat → Int32} {a_faultPlace : Nat → Int32} {a_many : Nat → Int32} {a_lands : Nat → Int32} {a_evenings : Nat → Int32} {a_sights : Nat → Int32} {a_choirs : Nat → Int32} {f_reached : Int32} {f_length : Int32} {f_begins : Int32} {f_sort : Int32} {f_value : Int32} {f_word : Int64} {f_wrongAt : Int32} {f_laterFault : Int32} {f_laterPlace : Int32} {a_told : Nat → Int32} {a_read : Nat → Int32} {f_farHut : Int32} {f_farSinger : Int32} {f_good : Int32} {f_land : Int32} {f_huts : Int32} {f_singers : Int32} {f_evening : Int32} {a_at : Nat → Int32} {a_knows : Nat → Int32} {a_climbed : Nat → Int32} {a_snow : Nat → Int32} {a_level : Nat → Int32} {f_begun : Int32} {f_minute : Int32} {f_avalanches : Int32} {a_run : Nat → Int32} {a_covers : Nat → Int32} {a_routes : Nat → Int32} {a_longest : Nat → Int32} {a_steep : Nat → Int32} {a_laid : Nat → Int32} {a_far : Nat → Int32} {f_sight : Int32} {a_runs : Nat → Int32} {f_choir : Int32} {f_voices : Int32} {a_rest : Nat → Int64} {a_wins : Nat → Int32} {f_seed : Int32} {a_other : Nat → Int32} {a_kept : Nat → Int32} {post : Int32 → Prop} {x1 : Int32} {x2 : Int32} {ls : Array Slot}
    (zc : zC p s m args meth c cX11_seers 3 RX11 (some .int))
    (hK : zK E s)
    (hM : mW E q f_code a_tape a_size a_fault a_faultPlace a_many a_lands a_evenings a_sights a_choirs f_reached f_length f_begins f_sort f_value f_word f_wrongAt f_laterFault f_laterPlace a_told a_read f_farHut f_farSinger f_good f_land f_huts f_singers f_evening a_at a_knows a_climbed a_snow a_level f_begun f_minute f_avalanches a_run a_covers a_routes a_longest a_steep a_laid a_far f_sight a_runs f_choir f_voices a_rest a_wins f_seed a_other a_kept s.heap)
    (hl : lv_has ls 3 [(0, .ref q), (1, .int x1), (2, .int x2)])
    (hw : q_m_seers_4 f_singers a_knows f_begun x1 x2 post) :
    W p l e rm_m_seers s m args below meth c s.heap [] 0 0 (MQ below (vp_Si post) args s 0 0 (fun _ => False)) (F0 m 4 ls []) := by
  have hx := zc.1
  have hb := zc.2.1
  refine hw (fun x1 x2 => ∀ (ls : Array Slot), lv_has ls 3 [(0, .ref q), (1, .int x1), (2, .int x2)] → W p l e rm_m_seers s m args below meth c s.heap [] 0 0 (MQ below (vp_Si post) args s 0 0 (fun _ => False)) (F0 m 4 ls [])) ?_ _ hl
  intro x1 x2 hw ls hl
  refine lv_iload_n hx hb dX11_seers_4 rfl (lv_at hl 2 rfl) ?_
  refine lv_aload_n hx hb dX11_seers_5 rfl (lv_at hl 0 rfl) ?_
  refine mg_11_310_0 zc hK hM dX11_seers_6 ?_
  refine lv_icmp_ge (tgt := 44) hx hb dX11_seers_9 (by decide) (fun hc => ?_) (fun hc => ?_)
  · have hw := hw.1 hc
    refine lv_iload_n hx hb dX11_seers_44 rfl (lv_at hl 1 rfl) ?_
    exact zret_i zc hw dX11_seers_45
  · have hw := hw.2 hc
    refine lv_iload_n hx hb dX11_seers_12 rfl (lv_at hl 1 rfl) ?_
    refine lv_aload_n hx hb dX11_seers_13 rfl (lv_at hl 0 rfl) ?_
    refine mg_11_340_0 zc hK hM dX11_seers_14 ?_
    refine lv_aload_n hx hb dX11_seers_17 rfl (lv_at hl 0 rfl) ?_
    refine mg_11_47_0 zc hK hM dX11_seers_18 ?_
    refine lv_iload_n hx hb dX11_seers_21 rfl (lv_at hl 2 rfl) ?_
    refine mld_13 zc hK hM hw.1 dX11_seers_22 ?_
    have hw := hw.2
    refine lv_iconst (v := (-1 : Int32)) hx hb dX11_seers_23 (by decide) ?_
    refine lv_ixor hx hb dX11_seers_24 ?_
    refine lv_iand hx hb dX11_seers_25 ?_
    refine lv_if_ne (tgt := 35) hx hb dX11_seers_26 (by decide) (fun hc => ?_) (fun hc => ?_)
    · have hw := hw.1 hc
      refine lv_iconst (v := (0 : Int32)) hx hb dX11_seers_35 (by decide) ?_
      exact t_m_seers_36 zc hK hM (fun _ _ ls h hl => h ls hl) (lv_sub hl [0, 2] rfl) hw
    · have hw := hw.2 hc
      refine lv_iconst (v := (1 : Int32)) hx hb dX11_seers_29 (by decide) ?_
      refine lv_iload_n hx hb dX11_seers_30 rfl (lv_at hl 2 rfl) ?_
      refine lv_ishl hx hb dX11_seers_31 ?_
      refine lv_goto (tgt := 36) hx hb dX11_seers_32 (by decide) ?_
      exact t_m_seers_36 zc hK hM (fun _ _ ls h hl => h ls hl) (lv_sub hl [0, 2] rfl) hw
set_option maxRecDepth 20000 in
theorem t_m_seers_0 {p : Program} {l : Launch} {e : Env} {s : State} {m : MethodId} {args : Array Value} {below : List Frame} {meth : Method} {c : Code} {E : zE} {q : Nat} {f_code : Int32} {a_tape : Nat → Int32} {a_size : Nat → Int32} {a_fault : Nat → Int32} {a_faultPlace : Nat → Int32} {a_many : Nat → Int32} {a_lands : Nat → Int32} {a_evenings : Nat → Int32} {a_sights : Nat → Int32} {a_choirs : Nat → Int32} {f_reached : Int32} {f_length : Int32} {f_begins : Int32} {f_sort : Int32} {f_value : Int32} {f_word : Int64} {f_wrongAt : Int32} {f_laterFault : Int32} {f_laterPlace : Int32} {a_told : Nat → Int32} {a_read : Nat → Int32} {f_farHut : Int32} {f_farSinger : Int32} {f_good : Int32} {f_land : Int32} {f_huts : Int32} {f_singers : Int32} {f_evening : Int32} {a_at : Nat → Int32} {a_knows : Nat → Int32} {a_climbed : Nat → Int32} {a_snow : Nat → Int32} {a_level : Nat → Int32} {f_begun : Int32} {f_minute : Int32} {f_avalanches : Int32} {a_run : Nat → Int32} {a_covers : Nat → Int32} {a_routes : Nat → Int32} {a_longest : Nat → Int32} {a_steep : Nat → Int32} {a_laid : Nat → Int32} {a_far : Nat → Int32} {f_sight : Int32} {a_runs : Nat → Int32} {f_choir : Int32} {f_voices : Int32} {a_rest : Nat → Int64} {a_wins : Nat → Int32} {f_seed : Int32} {a_other : Nat → Int32} {a_kept : Nat → Int32} {post : Int32 → Prop} {ls : Array Slot}
    (zc : zC p s m args meth c cX11_seers 3 RX11 (some .int))
    (hK : zK E s)
    (hM : mW E q f_code a_tape a_size a_fault a_faultPlace a_many a_lands a_evenings a_sights a_choirs f_reached f_length f_begins f_sort f_value f_word f_wrongAt f_laterFault f_laterPlace a_told a_read f_farHut f_farSinger f_good f_land f_huts f_singers f_evening a_at a_knows a_climbed a_snow a_level f_begun f_minute f_avalanches a_run a_covers a_routes a_longest a_steep a_laid a_far f_sight a_runs f_choir f_voices a_rest a_wins f_seed a_other a_kept s.heap)
    (hl : lv_has ls 3 [(0, .ref q)])
    (hw : q_m_seers_0 f_singers a_knows f_begun post) :
    W p l e rm_m_seers s m args below meth c s.heap [] 0 0 (MQ below (vp_Si post) args s 0 0 (fun _ => False)) (F0 m 0 ls []) := by
  have hx := zc.1
  have hb := zc.2.1
  refine lv_iconst (v := (0 : Int32)) hx hb dX11_seers_0 (by decide) ?_
  refine lv_istore_n (lv' := [(1, .int (0 : Int32)), (0, .ref q)]) hx hb dX11_seers_1 rfl hl (by decide) rfl (fun ls hl => ?_)
  refine lv_iconst (v := (0 : Int32)) hx hb dX11_seers_2 (by decide) ?_
  refine lv_istore_n (lv' := [(2, .int (0 : Int32)), (1, .int (0 : Int32)), (0, .ref q)]) hx hb dX11_seers_3 rfl hl (by decide) rfl (fun ls hl => ?_)
  exact t_m_seers_4 zc hK hM  (lv_sub hl [2, 1, 0] rfl) hw
set_option maxRecDepth 20000 in
theorem c_m_seers (l : Launch) {E : zE} {q : Nat} {f_code : Int32} {a_tape : Nat → Int32} {a_size : Nat → Int32} {a_fault : Nat → Int32} {a_faultPlace : Nat → Int32} {a_many : Nat → Int32} {a_lands : Nat → Int32} {a_evenings : Nat → Int32} {a_sights : Nat → Int32} {a_choirs : Nat → Int32} {f_reached : Int32} {f_length : Int32} {f_begins : Int32} {f_sort : Int32} {f_value : Int32} {f_word : Int64} {f_wrongAt : Int32} {f_laterFault : Int32} {f_laterPlace : Int32} {a_told : Nat → Int32} {a_read : Nat → Int32} {f_farHut : Int32} {f_farSinger : Int32} {f_good : Int32} {f_land : Int32} {f_huts : Int32} {f_singers : Int32} {f_evening : Int32} {a_at : Nat → Int32} {a_knows : Nat → Int32} {a_climbed : Nat → Int32} {a_snow : Nat → Int32} {a_level : Nat → Int32} {f_begun : Int32} {f_minute : Int32} {f_avalanches : Int32} {a_run : Nat → Int32} {a_covers : Nat → Int32} {a_routes : Nat → Int32} {a_longest : Nat → Int32} {a_steep : Nat → Int32} {a_laid : Nat → Int32} {a_far : Nat → Int32} {f_sight : Int32} {a_runs : Nat → Int32} {f_choir : Int32} {f_voices : Int32} {a_rest : Nat → Int64} {a_wins : Nat → Int32} {f_seed : Int32} {a_other : Nat → Int32} {a_kept : Nat → Int32} {post : Int32 → Prop} (hw : q_m_seers_0 f_singers a_knows f_begun post) : Met l yX11_seers (Cond.code yX11_seers cX11_seers 3 (some .int) :: zb) rm_m_seers (va_Pc [.ref q] (fun U => mW E q f_code a_tape a_size a_fault a_faultPlace a_many a_lands a_evenings a_sights a_choirs f_reached f_length f_begins f_sort f_value f_word f_wrongAt f_laterFault f_laterPlace a_told a_read f_farHut f_farSinger f_good f_land f_huts f_singers f_evening a_at a_knows a_climbed a_snow a_level f_begun f_minute f_avalanches a_run a_covers a_routes a_longest a_steep a_laid a_far f_sight a_runs f_choir f_voices a_rest a_wins f_seed a_other a_kept U.heap ∧ zK E U)) (vp_Si post) 0 0 (fun _ => False) := by
  refine Met.ofW (cc := cX11_seers) (maxL := 3) (ret := (some .int)) (by decide) rfl ?_
  intro p e s m args below meth c s₁ B hml hv
  obtain ⟨rfl, hM, hK⟩ := hv
  have zc := zc_of B hml
  have hl := lv_entry ([.ref q]) (n := 3) (Nat.le_of_ble_eq_true rfl)
  rw [lg_entry_eq]
  generalize (lg_sl ([.ref q]) ++ List.replicate (3 - (lg_sl ([.ref q])).length) Slot.unset).toArray = ls at hl ⊢
  have hl : lv_has ls 3 [(0, .ref q)] := hl
  exact t_m_seers_0 zc hK hM (lv_sub hl [0] rfl) hw
-- m_ofSinger
abbrev rm_m_ofSinger : Room := { frames := 3, cells := 0, slots := 0, locals := 63 }
def q_m_ofSinger_0 (a_lands : Nat → Int32) (f_land : Int32) (f_singers : Int32) (a_at : Nat → Int32) (a_knows : Nat → Int32) (a_climbed : Nat → Int32) (x1 : Int32) (post : Int32 → Prop) : Prop :=
  ∀ v_1 : Int32, v_1 = (x1 - x1 / (10 : Int32) * (10 : Int32)) → (q_m_isSinger_0 f_singers v_1 (fun r_1 => (¬ r_1 = 0 → (((x1 / (10 : Int32)).toInt < 3 ∨ 5 < (x1 / (10 : Int32)).toInt → (q_m_high_0 a_lands f_land a_at a_climbed v_1 (fun r_2 => post r_2))) ∧ ((x1 / (10 : Int32)) = (3 : Int32) → (vp_in v_1 6 ∧ (post (a_at (Int32.toNatClampNeg v_1))))) ∧ ((x1 / (10 : Int32)) = (4 : Int32) → (vp_in v_1 6 ∧ (post (a_knows (Int32.toNatClampNeg v_1))))) ∧ ((x1 / (10 : Int32)) = (5 : Int32) → (vp_in v_1 6 ∧ (post (a_climbed (Int32.toNatClampNeg v_1))))))) ∧ (r_1 = 0 → (post (-1000 : Int32)))))
set_option maxRecDepth 20000 in
theorem t_m_ofSinger_0 {p : Program} {l : Launch} {e : Env} {s : State} {m : MethodId} {args : Array Value} {below : List Frame} {meth : Method} {c : Code} {E : zE} {q : Nat} {f_code : Int32} {a_tape : Nat → Int32} {a_size : Nat → Int32} {a_fault : Nat → Int32} {a_faultPlace : Nat → Int32} {a_many : Nat → Int32} {a_lands : Nat → Int32} {a_evenings : Nat → Int32} {a_sights : Nat → Int32} {a_choirs : Nat → Int32} {f_reached : Int32} {f_length : Int32} {f_begins : Int32} {f_sort : Int32} {f_value : Int32} {f_word : Int64} {f_wrongAt : Int32} {f_laterFault : Int32} {f_laterPlace : Int32} {a_told : Nat → Int32} {a_read : Nat → Int32} {f_farHut : Int32} {f_farSinger : Int32} {f_good : Int32} {f_land : Int32} {f_huts : Int32} {f_singers : Int32} {f_evening : Int32} {a_at : Nat → Int32} {a_knows : Nat → Int32} {a_climbed : Nat → Int32} {a_snow : Nat → Int32} {a_level : Nat → Int32} {f_begun : Int32} {f_minute : Int32} {f_avalanches : Int32} {a_run : Nat → Int32} {a_covers : Nat → Int32} {a_routes : Nat → Int32} {a_longest : Nat → Int32} {a_steep : Nat → Int32} {a_laid : Nat → Int32} {a_far : Nat → Int32} {f_sight : Int32} {a_runs : Nat → Int32} {f_choir : Int32} {f_voices : Int32} {a_rest : Nat → Int64} {a_wins : Nat → Int32} {f_seed : Int32} {a_other : Nat → Int32} {a_kept : Nat → Int32} {post : Int32 → Prop} {x1 : Int32} {ls : Array Slot}
    (zc : zC p s m args meth c cX11_ofSinger 3 RX11 (some .int))
    (hK : zK E s)
    (hM : mW E q f_code a_tape a_size a_fault a_faultPlace a_many a_lands a_evenings a_sights a_choirs f_reached f_length f_begins f_sort f_value f_word f_wrongAt f_laterFault f_laterPlace a_told a_read f_farHut f_farSinger f_good f_land f_huts f_singers f_evening a_at a_knows a_climbed a_snow a_level f_begun f_minute f_avalanches a_run a_covers a_routes a_longest a_steep a_laid a_far f_sight a_runs f_choir f_voices a_rest a_wins f_seed a_other a_kept s.heap)
    (hl : lv_has ls 3 [(0, .ref q), (1, .int x1)])
    (hw : q_m_ofSinger_0 a_lands f_land f_singers a_at a_knows a_climbed x1 post) :
    W p l e rm_m_ofSinger s m args below meth c s.heap [] 0 0 (MQ below (vp_Si post) args s 0 0 (fun _ => False)) (F0 m 0 ls []) := by
  have hx := zc.1
  have hb := zc.2.1
  refine lv_iload_n hx hb dX11_ofSinger_0 rfl (lv_at hl 1 rfl) ?_
  refine lv_bipush (v := (10 : Int32)) hx hb dX11_ofSinger_1 (by decide) ?_
  refine lv_irem hx hb dX11_ofSinger_3 (by decide) ?_
  refine lv_topi (fun v_1 ev_1 => ?_)
  have hw := hw v_1 ev_1
  refine lv_istore_n (lv' := [(2, .int v_1), (0, .ref q), (1, .int x1)]) hx hb dX11_ofSinger_4 rfl hl (by decide) rfl (fun ls hl => ?_)
  refine lv_aload_n hx hb dX11_ofSinger_5 rfl (lv_at hl 1 rfl) ?_
  refine lv_iload_n hx hb dX11_ofSinger_6 rfl (lv_at hl 0 rfl) ?_
  refine zV_i [.int v_1] [] zc ky_X11_isSinger kz_X11_isSinger km_11_325 (c_m_isSinger l hw) (mPreV0 hK hM) rfl rfl hl.1 (Nat.le_of_ble_eq_true rfl) ⟨rfl, rfl⟩ ⟨Nat.le_of_ble_eq_true rfl, Nat.le_of_ble_eq_true rfl⟩ ⟨(Nat.zero_le _), (Nat.zero_le _)⟩ dX11_ofSinger_7 (fun r_1 hw => ?_)
  refine lv_if_ne (tgt := 17) hx hb dX11_ofSinger_10 (by decide) (fun hc => ?_) (fun hc => ?_)
  · have hw := hw.1 hc
    refine lv_iload_n hx hb dX11_ofSinger_17 rfl (lv_at hl 2 rfl) ?_
    refine lv_bipush (v := (10 : Int32)) hx hb dX11_ofSinger_18 (by decide) ?_
    refine lv_idiv hx hb dX11_ofSinger_20 (by decide) ?_
    by_cases hc : (x1 / (10 : Int32)).toInt < 3 ∨ 5 < (x1 / (10 : Int32)).toInt
    · have hw := hw.1 hc
      refine lv_tableOut (tgt := 69) hx hb dX11_ofSinger_21 hc (by decide) ?_
      refine lv_aload_n hx hb dX11_ofSinger_69 rfl (lv_at hl 1 rfl) ?_
      refine lv_iload_n hx hb dX11_ofSinger_70 rfl (lv_at hl 0 rfl) ?_
      refine zV_i [.int v_1] [] zc ky_X11_high kz_X11_high km_11_352 (c_m_high l hw) (mPreV0 hK hM) rfl rfl hl.1 (Nat.le_of_ble_eq_true rfl) ⟨rfl, rfl⟩ ⟨Nat.le_of_ble_eq_true rfl, Nat.le_of_ble_eq_true rfl⟩ ⟨(Nat.zero_le _), (Nat.zero_le _)⟩ dX11_ofSinger_71 (fun r_2 hw => ?_)
      exact zret_i zc hw dX11_ofSinger_74
    have hin := zsw hc
    by_cases hc0 : (x1 / (10 : Int32)) = (3 : Int32)
    · have hw := hw.2.1 hc0
      refine lv_tableIn (tgt := 48) hx hb dX11_ofSinger_21 (by rw [hc0]; decide) (by rw [hc0]; decide) (by rw [hc0]; rfl) (by decide) ?_
      refine lv_aload_n hx hb dX11_ofSinger_48 rfl (lv_at hl 1 rfl) ?_
      refine mg_11_44_0 zc hK hM dX11_ofSinger_49 ?_
      refine lv_iload_n hx hb dX11_ofSinger_52 rfl (lv_at hl 0 rfl) ?_
      refine mld_12 zc hK hM hw.1 dX11_ofSinger_53 ?_
      have hw := hw.2
      exact zret_i zc hw dX11_ofSinger_54
    by_cases hc1 : (x1 / (10 : Int32)) = (4 : Int32)
    · have hw := hw.2.2.1 hc1
      refine lv_tableIn (tgt := 55) hx hb dX11_ofSinger_21 (by rw [hc1]; decide) (by rw [hc1]; decide) (by rw [hc1]; rfl) (by decide) ?_
      refine lv_aload_n hx hb dX11_ofSinger_55 rfl (lv_at hl 1 rfl) ?_
      refine mg_11_47_0 zc hK hM dX11_ofSinger_56 ?_
      refine lv_iload_n hx hb dX11_ofSinger_59 rfl (lv_at hl 0 rfl) ?_
      refine mld_13 zc hK hM hw.1 dX11_ofSinger_60 ?_
      have hw := hw.2
      exact zret_i zc hw dX11_ofSinger_61
    by_cases hc2 : (x1 / (10 : Int32)) = (5 : Int32)
    · have hw := hw.2.2.2 hc2
      refine lv_tableIn (tgt := 62) hx hb dX11_ofSinger_21 (by rw [hc2]; decide) (by rw [hc2]; decide) (by rw [hc2]; rfl) (by decide) ?_
      refine lv_aload_n hx hb dX11_ofSinger_62 rfl (lv_at hl 1 rfl) ?_
      refine mg_11_50_0 zc hK hM dX11_ofSinger_63 ?_
      refine lv_iload_n hx hb dX11_ofSinger_66 rfl (lv_at hl 0 rfl) ?_
      refine mld_14 zc hK hM hw.1 dX11_ofSinger_67 ?_
      have hw := hw.2
      exact zret_i zc hw dX11_ofSinger_68
    exact absurd hin (by have h0 := zne hc0; have h1 := zne hc1; have h2 := zne hc2; simp at *; omega)
  · have hw := hw.2 hc
    refine lv_sipush (v := (-1000 : Int32)) hx hb dX11_ofSinger_13 (by decide) ?_
    exact zret_i zc hw dX11_ofSinger_16
set_option maxRecDepth 20000 in
theorem c_m_ofSinger (l : Launch) {E : zE} {q : Nat} {f_code : Int32} {a_tape : Nat → Int32} {a_size : Nat → Int32} {a_fault : Nat → Int32} {a_faultPlace : Nat → Int32} {a_many : Nat → Int32} {a_lands : Nat → Int32} {a_evenings : Nat → Int32} {a_sights : Nat → Int32} {a_choirs : Nat → Int32} {f_reached : Int32} {f_length : Int32} {f_begins : Int32} {f_sort : Int32} {f_value : Int32} {f_word : Int64} {f_wrongAt : Int32} {f_laterFault : Int32} {f_laterPlace : Int32} {a_told : Nat → Int32} {a_read : Nat → Int32} {f_farHut : Int32} {f_farSinger : Int32} {f_good : Int32} {f_land : Int32} {f_huts : Int32} {f_singers : Int32} {f_evening : Int32} {a_at : Nat → Int32} {a_knows : Nat → Int32} {a_climbed : Nat → Int32} {a_snow : Nat → Int32} {a_level : Nat → Int32} {f_begun : Int32} {f_minute : Int32} {f_avalanches : Int32} {a_run : Nat → Int32} {a_covers : Nat → Int32} {a_routes : Nat → Int32} {a_longest : Nat → Int32} {a_steep : Nat → Int32} {a_laid : Nat → Int32} {a_far : Nat → Int32} {f_sight : Int32} {a_runs : Nat → Int32} {f_choir : Int32} {f_voices : Int32} {a_rest : Nat → Int64} {a_wins : Nat → Int32} {f_seed : Int32} {a_other : Nat → Int32} {a_kept : Nat → Int32} {x1 : Int32} {post : Int32 → Prop} (hw : q_m_ofSinger_0 a_lands f_land f_singers a_at a_knows a_climbed x1 post) : Met l yX11_ofSinger (Cond.code yX11_ofSinger cX11_ofSinger 3 (some .int) :: zb) rm_m_ofSinger (va_Pc [.ref q, .int x1] (fun U => mW E q f_code a_tape a_size a_fault a_faultPlace a_many a_lands a_evenings a_sights a_choirs f_reached f_length f_begins f_sort f_value f_word f_wrongAt f_laterFault f_laterPlace a_told a_read f_farHut f_farSinger f_good f_land f_huts f_singers f_evening a_at a_knows a_climbed a_snow a_level f_begun f_minute f_avalanches a_run a_covers a_routes a_longest a_steep a_laid a_far f_sight a_runs f_choir f_voices a_rest a_wins f_seed a_other a_kept U.heap ∧ zK E U)) (vp_Si post) 0 0 (fun _ => False) := by
  refine Met.ofW (cc := cX11_ofSinger) (maxL := 3) (ret := (some .int)) (by decide) rfl ?_
  intro p e s m args below meth c s₁ B hml hv
  obtain ⟨rfl, hM, hK⟩ := hv
  have zc := zc_of B hml
  have hl := lv_entry ([.ref q, .int x1]) (n := 3) (Nat.le_of_ble_eq_true rfl)
  rw [lg_entry_eq]
  generalize (lg_sl ([.ref q, .int x1]) ++ List.replicate (3 - (lg_sl ([.ref q, .int x1])).length) Slot.unset).toArray = ls at hl ⊢
  have hl : lv_has ls 3 [(0, .ref q), (1, .int x1)] := hl
  exact t_m_ofSinger_0 zc hK hM (lv_sub hl [0, 1] rfl) hw
-- m_ofState
abbrev rm_m_ofState : Room := { frames := 5, cells := 0, slots := 0, locals := 114 }
def q_m_ofState_0 (a_lands : Nat → Int32) (f_land : Int32) (f_huts : Int32) (f_singers : Int32) (a_at : Nat → Int32) (a_knows : Nat → Int32) (a_climbed : Nat → Int32) (a_snow : Nat → Int32) (a_level : Nat → Int32) (f_begun : Int32) (f_minute : Int32) (f_avalanches : Int32) (x1 : Int32) (post : Int32 → Prop) : Prop :=
  q_m_in_0 x1 (10 : Int32) (14 : Int32) (fun r_1 => (r_1 = 0 → (q_m_in_0 x1 (20 : Int32) (24 : Int32) (fun r_2 => (r_2 = 0 → (q_m_in_0 x1 (30 : Int32) (69 : Int32) (fun r_3 => (r_3 = 0 → (q_m_in_0 x1 (70 : Int32) (79 : Int32) (fun r_4 => (r_4 = 0 → ((x1.toInt < 0 ∨ 4 < x1.toInt → (post (-1000 : Int32))) ∧ (x1 = (0 : Int32) → (post f_minute)) ∧ (x1 = (1 : Int32) → (post f_avalanches)) ∧ (x1 = (2 : Int32) → (q_m_seers_0 f_singers a_knows f_begun (fun r_5 => post r_5))) ∧ (x1 = (3 : Int32) → (post f_begun)) ∧ (x1 = (4 : Int32) → (q_m_doneFor_0 a_lands f_land f_huts f_singers a_at a_knows a_snow a_level f_begun (fun r_6 => post r_6))))) ∧ (¬ r_4 = 0 → (q_m_isHut_0 f_huts (x1 - (70 : Int32)) (fun r_7 => (r_7 = 0 → (post (-1000 : Int32))) ∧ (¬ r_7 = 0 → (vp_in (x1 - (70 : Int32)) 9 ∧ (post (a_snow (Int32.toNatClampNeg (x1 - (70 : Int32))))))))))))) ∧ (¬ r_3 = 0 → (q_m_ofSinger_0 a_lands f_land f_singers a_at a_knows a_climbed x1 (fun r_8 => post r_8)))))) ∧ (¬ r_2 = 0 → (q_m_fame_0 f_singers a_knows (x1 - (20 : Int32)) (fun r_9 => post r_9)))))) ∧ (¬ r_1 = 0 → (q_m_has_0 f_begun (x1 - (10 : Int32)) (fun r_10 => (r_10 = 0 → (post (-1 : Int32))) ∧ (¬ r_10 = 0 → (vp_in (x1 - (10 : Int32)) 5 ∧ (post (a_level (Int32.toNatClampNeg (x1 - (10 : Int32)))))))))))
set_option maxRecDepth 20000 in
theorem t_m_ofState_0 {p : Program} {l : Launch} {e : Env} {s : State} {m : MethodId} {args : Array Value} {below : List Frame} {meth : Method} {c : Code} {E : zE} {q : Nat} {f_code : Int32} {a_tape : Nat → Int32} {a_size : Nat → Int32} {a_fault : Nat → Int32} {a_faultPlace : Nat → Int32} {a_many : Nat → Int32} {a_lands : Nat → Int32} {a_evenings : Nat → Int32} {a_sights : Nat → Int32} {a_choirs : Nat → Int32} {f_reached : Int32} {f_length : Int32} {f_begins : Int32} {f_sort : Int32} {f_value : Int32} {f_word : Int64} {f_wrongAt : Int32} {f_laterFault : Int32} {f_laterPlace : Int32} {a_told : Nat → Int32} {a_read : Nat → Int32} {f_farHut : Int32} {f_farSinger : Int32} {f_good : Int32} {f_land : Int32} {f_huts : Int32} {f_singers : Int32} {f_evening : Int32} {a_at : Nat → Int32} {a_knows : Nat → Int32} {a_climbed : Nat → Int32} {a_snow : Nat → Int32} {a_level : Nat → Int32} {f_begun : Int32} {f_minute : Int32} {f_avalanches : Int32} {a_run : Nat → Int32} {a_covers : Nat → Int32} {a_routes : Nat → Int32} {a_longest : Nat → Int32} {a_steep : Nat → Int32} {a_laid : Nat → Int32} {a_far : Nat → Int32} {f_sight : Int32} {a_runs : Nat → Int32} {f_choir : Int32} {f_voices : Int32} {a_rest : Nat → Int64} {a_wins : Nat → Int32} {f_seed : Int32} {a_other : Nat → Int32} {a_kept : Nat → Int32} {post : Int32 → Prop} {x1 : Int32} {ls : Array Slot}
    (zc : zC p s m args meth c cX11_ofState 2 RX11 (some .int))
    (hK : zK E s)
    (hM : mW E q f_code a_tape a_size a_fault a_faultPlace a_many a_lands a_evenings a_sights a_choirs f_reached f_length f_begins f_sort f_value f_word f_wrongAt f_laterFault f_laterPlace a_told a_read f_farHut f_farSinger f_good f_land f_huts f_singers f_evening a_at a_knows a_climbed a_snow a_level f_begun f_minute f_avalanches a_run a_covers a_routes a_longest a_steep a_laid a_far f_sight a_runs f_choir f_voices a_rest a_wins f_seed a_other a_kept s.heap)
    (hl : lv_has ls 2 [(0, .ref q), (1, .int x1)])
    (hw : q_m_ofState_0 a_lands f_land f_huts f_singers a_at a_knows a_climbed a_snow a_level f_begun f_minute f_avalanches x1 post) :
    W p l e rm_m_ofState s m args below meth c s.heap [] 0 0 (MQ below (vp_Si post) args s 0 0 (fun _ => False)) (F0 m 0 ls []) := by
  have hx := zc.1
  have hb := zc.2.1
  refine lv_iload_n hx hb dX11_ofState_0 rfl (lv_at hl 1 rfl) ?_
  refine lv_bipush (v := (10 : Int32)) hx hb dX11_ofState_1 (by decide) ?_
  refine lv_bipush (v := (14 : Int32)) hx hb dX11_ofState_3 (by decide) ?_
  refine zS_i [.int x1, .int (10 : Int32), .int (14 : Int32)] [] zc ky_X11_in kz_X11_in km_11_109 (c_m_in l hw) (zPre0 _) rfl rfl hl.1 (Nat.le_of_ble_eq_true rfl) ⟨rfl, rfl⟩ ⟨Nat.le_of_ble_eq_true rfl, Nat.le_of_ble_eq_true rfl⟩ ⟨(Nat.zero_le _), (Nat.zero_le _)⟩ dX11_ofState_5 (fun r_1 hw => ?_)
  refine lv_if_eq (tgt := 39) hx hb dX11_ofState_8 (by decide) (fun hc => ?_) (fun hc => ?_)
  · have hw := hw.1 hc
    refine lv_iload_n hx hb dX11_ofState_39 rfl (lv_at hl 1 rfl) ?_
    refine lv_bipush (v := (20 : Int32)) hx hb dX11_ofState_40 (by decide) ?_
    refine lv_bipush (v := (24 : Int32)) hx hb dX11_ofState_42 (by decide) ?_
    refine zS_i [.int x1, .int (20 : Int32), .int (24 : Int32)] [] zc ky_X11_in kz_X11_in km_11_109 (c_m_in l hw) (zPre0 _) rfl rfl hl.1 (Nat.le_of_ble_eq_true rfl) ⟨rfl, rfl⟩ ⟨Nat.le_of_ble_eq_true rfl, Nat.le_of_ble_eq_true rfl⟩ ⟨(Nat.zero_le _), (Nat.zero_le _)⟩ dX11_ofState_44 (fun r_2 hw => ?_)
    refine lv_if_eq (tgt := 59) hx hb dX11_ofState_47 (by decide) (fun hc => ?_) (fun hc => ?_)
    · have hw := hw.1 hc
      refine lv_iload_n hx hb dX11_ofState_59 rfl (lv_at hl 1 rfl) ?_
      refine lv_bipush (v := (30 : Int32)) hx hb dX11_ofState_60 (by decide) ?_
      refine lv_bipush (v := (69 : Int32)) hx hb dX11_ofState_62 (by decide) ?_
      refine zS_i [.int x1, .int (30 : Int32), .int (69 : Int32)] [] zc ky_X11_in kz_X11_in km_11_109 (c_m_in l hw) (zPre0 _) rfl rfl hl.1 (Nat.le_of_ble_eq_true rfl) ⟨rfl, rfl⟩ ⟨Nat.le_of_ble_eq_true rfl, Nat.le_of_ble_eq_true rfl⟩ ⟨(Nat.zero_le _), (Nat.zero_le _)⟩ dX11_ofState_64 (fun r_3 hw => ?_)
      refine lv_if_eq (tgt := 76) hx hb dX11_ofState_67 (by decide) (fun hc => ?_) (fun hc => ?_)
      · have hw := hw.1 hc
        refine lv_iload_n hx hb dX11_ofState_76 rfl (lv_at hl 1 rfl) ?_
        refine lv_bipush (v := (70 : Int32)) hx hb dX11_ofState_77 (by decide) ?_
        refine lv_bipush (v := (79 : Int32)) hx hb dX11_ofState_79 (by decide) ?_
        refine zS_i [.int x1, .int (70 : Int32), .int (79 : Int32)] [] zc ky_X11_in kz_X11_in km_11_109 (c_m_in l hw) (zPre0 _) rfl rfl hl.1 (Nat.le_of_ble_eq_true rfl) ⟨rfl, rfl⟩ ⟨Nat.le_of_ble_eq_true rfl, Nat.le_of_ble_eq_true rfl⟩ ⟨(Nat.zero_le _), (Nat.zero_le _)⟩ dX11_ofState_81 (fun r_4 hw => ?_)
        refine lv_if_eq (tgt := 114) hx hb dX11_ofState_84 (by decide) (fun hc => ?_) (fun hc => ?_)
        · have hw := hw.1 hc
          refine lv_iload_n hx hb dX11_ofState_114 rfl (lv_at hl 1 rfl) ?_
          by_cases hc : x1.toInt < 0 ∨ 4 < x1.toInt
          · have hw := hw.1 hc
            refine lv_tableOut (tgt := 173) hx hb dX11_ofState_115 hc (by decide) ?_
            refine lv_sipush (v := (-1000 : Int32)) hx hb dX11_ofState_173 (by decide) ?_
            exact zret_i zc hw dX11_ofState_176
          have hin := zsw hc
          by_cases hc0 : x1 = (0 : Int32)
          · have hw := hw.2.1 hc0
            refine lv_tableIn (tgt := 148) hx hb dX11_ofState_115 (by rw [hc0]; decide) (by rw [hc0]; decide) (by rw [hc0]; rfl) (by decide) ?_
            refine lv_aload_n hx hb dX11_ofState_148 rfl (lv_at hl 0 rfl) ?_
            refine mg_11_343_0 zc hK hM dX11_ofState_149 ?_
            exact zret_i zc hw dX11_ofState_152
          by_cases hc1 : x1 = (1 : Int32)
          · have hw := hw.2.2.1 hc1
            refine lv_tableIn (tgt := 153) hx hb dX11_ofState_115 (by rw [hc1]; decide) (by rw [hc1]; decide) (by rw [hc1]; rfl) (by decide) ?_
            refine lv_aload_n hx hb dX11_ofState_153 rfl (lv_at hl 0 rfl) ?_
            refine mg_11_346_0 zc hK hM dX11_ofState_154 ?_
            exact zret_i zc hw dX11_ofState_157
          by_cases hc2 : x1 = (2 : Int32)
          · have hw := hw.2.2.2.1 hc2
            refine lv_tableIn (tgt := 158) hx hb dX11_ofState_115 (by rw [hc2]; decide) (by rw [hc2]; decide) (by rw [hc2]; rfl) (by decide) ?_
            refine lv_aload_n hx hb dX11_ofState_158 rfl (lv_at hl 0 rfl) ?_
            refine zV_i [] [] zc ky_X11_seers kz_X11_seers km_11_401 (c_m_seers l hw) (mPreV0 hK hM) rfl rfl hl.1 (Nat.le_of_ble_eq_true rfl) ⟨rfl, rfl⟩ ⟨Nat.le_of_ble_eq_true rfl, Nat.le_of_ble_eq_true rfl⟩ ⟨(Nat.zero_le _), (Nat.zero_le _)⟩ dX11_ofState_159 (fun r_5 hw => ?_)
            exact zret_i zc hw dX11_ofState_162
          by_cases hc3 : x1 = (3 : Int32)
          · have hw := hw.2.2.2.2.1 hc3
            refine lv_tableIn (tgt := 163) hx hb dX11_ofState_115 (by rw [hc3]; decide) (by rw [hc3]; decide) (by rw [hc3]; rfl) (by decide) ?_
            refine lv_aload_n hx hb dX11_ofState_163 rfl (lv_at hl 0 rfl) ?_
            refine mg_11_340_0 zc hK hM dX11_ofState_164 ?_
            exact zret_i zc hw dX11_ofState_167
          by_cases hc4 : x1 = (4 : Int32)
          · have hw := hw.2.2.2.2.2 hc4
            refine lv_tableIn (tgt := 168) hx hb dX11_ofState_115 (by rw [hc4]; decide) (by rw [hc4]; decide) (by rw [hc4]; rfl) (by decide) ?_
            refine lv_aload_n hx hb dX11_ofState_168 rfl (lv_at hl 0 rfl) ?_
            refine zV_i [] [] zc ky_X11_doneFor kz_X11_doneFor km_11_404 (c_m_doneFor l hw) (mPreV0 hK hM) rfl rfl hl.1 (Nat.le_of_ble_eq_true rfl) ⟨rfl, rfl⟩ ⟨Nat.le_of_ble_eq_true rfl, Nat.le_of_ble_eq_true rfl⟩ ⟨(Nat.zero_le _), (Nat.zero_le _)⟩ dX11_ofState_169 (fun r_6 hw => ?_)
            exact zret_i zc hw dX11_ofState_172
          exact absurd hin (by have h0 := zne hc0; have h1 := zne hc1; have h2 := zne hc2; have h3 := zne hc3; have h4 := zne hc4; simp at *; omega)
        · have hw := hw.2 hc
          refine lv_aload_n hx hb dX11_ofState_87 rfl (lv_at hl 0 rfl) ?_
          refine lv_iload_n hx hb dX11_ofState_88 rfl (lv_at hl 1 rfl) ?_
          refine lv_bipush (v := (70 : Int32)) hx hb dX11_ofState_89 (by decide) ?_
          refine lv_isub hx hb dX11_ofState_91 ?_
          refine zV_i [.int (x1 - (70 : Int32))] [] zc ky_X11_isHut kz_X11_isHut km_11_316 (c_m_isHut l hw) (mPreV0 hK hM) rfl rfl hl.1 (Nat.le_of_ble_eq_true rfl) ⟨rfl, rfl⟩ ⟨Nat.le_of_ble_eq_true rfl, Nat.le_of_ble_eq_true rfl⟩ ⟨(Nat.zero_le _), (Nat.zero_le _)⟩ dX11_ofState_92 (fun r_7 hw => ?_)
          refine lv_if_eq (tgt := 110) hx hb dX11_ofState_95 (by decide) (fun hc => ?_) (fun hc => ?_)
          · have hw := hw.1 hc
            refine lv_sipush (v := (-1000 : Int32)) hx hb dX11_ofState_110 (by decide) ?_
            exact zret_i zc hw dX11_ofState_113
          · have hw := hw.2 hc
            refine lv_aload_n hx hb dX11_ofState_98 rfl (lv_at hl 0 rfl) ?_
            refine mg_11_53_0 zc hK hM dX11_ofState_99 ?_
            refine lv_iload_n hx hb dX11_ofState_102 rfl (lv_at hl 1 rfl) ?_
            refine lv_bipush (v := (70 : Int32)) hx hb dX11_ofState_103 (by decide) ?_
            refine lv_isub hx hb dX11_ofState_105 ?_
            refine mld_15 zc hK hM hw.1 dX11_ofState_106 ?_
            have hw := hw.2
            refine lv_goto (tgt := 113) hx hb dX11_ofState_107 (by decide) ?_
            exact zret_i zc hw dX11_ofState_113
      · have hw := hw.2 hc
        refine lv_aload_n hx hb dX11_ofState_70 rfl (lv_at hl 0 rfl) ?_
        refine lv_iload_n hx hb dX11_ofState_71 rfl (lv_at hl 1 rfl) ?_
        refine zV_i [.int x1] [] zc ky_X11_ofSinger kz_X11_ofSinger km_11_398 (c_m_ofSinger l hw) (mPreV0 hK hM) rfl rfl hl.1 (Nat.le_of_ble_eq_true rfl) ⟨rfl, rfl⟩ ⟨Nat.le_of_ble_eq_true rfl, Nat.le_of_ble_eq_true rfl⟩ ⟨(Nat.zero_le _), (Nat.zero_le _)⟩ dX11_ofState_72 (fun r_8 hw => ?_)
        exact zret_i zc hw dX11_ofState_75
    · have hw := hw.2 hc
      refine lv_aload_n hx hb dX11_ofState_50 rfl (lv_at hl 0 rfl) ?_
      refine lv_iload_n hx hb dX11_ofState_51 rfl (lv_at hl 1 rfl) ?_
      refine lv_bipush (v := (20 : Int32)) hx hb dX11_ofState_52 (by decide) ?_
      refine lv_isub hx hb dX11_ofState_54 ?_
      refine zV_i [.int (x1 - (20 : Int32))] [] zc ky_X11_fame kz_X11_fame km_11_395 (c_m_fame l hw) (mPreV0 hK hM) rfl rfl hl.1 (Nat.le_of_ble_eq_true rfl) ⟨rfl, rfl⟩ ⟨Nat.le_of_ble_eq_true rfl, Nat.le_of_ble_eq_true rfl⟩ ⟨(Nat.zero_le _), (Nat.zero_le _)⟩ dX11_ofState_55 (fun r_9 hw => ?_)
      exact zret_i zc hw dX11_ofState_58
  · have hw := hw.2 hc
    refine lv_aload_n hx hb dX11_ofState_11 rfl (lv_at hl 0 rfl) ?_
    refine mg_11_340_0 zc hK hM dX11_ofState_12 ?_
    refine lv_iload_n hx hb dX11_ofState_15 rfl (lv_at hl 1 rfl) ?_
    refine lv_bipush (v := (10 : Int32)) hx hb dX11_ofState_16 (by decide) ?_
    refine lv_isub hx hb dX11_ofState_18 ?_
    refine zS_i [.int f_begun, .int (x1 - (10 : Int32))] [] zc ky_X11_has kz_X11_has km_11_101 (c_m_has l hw) (zPre0 _) rfl rfl hl.1 (Nat.le_of_ble_eq_true rfl) ⟨rfl, rfl⟩ ⟨Nat.le_of_ble_eq_true rfl, Nat.le_of_ble_eq_true rfl⟩ ⟨(Nat.zero_le _), (Nat.zero_le _)⟩ dX11_ofState_19 (fun r_10 hw => ?_)
    refine lv_if_eq (tgt := 37) hx hb dX11_ofState_22 (by decide) (fun hc => ?_) (fun hc => ?_)
    · have hw := hw.1 hc
      refine lv_iconst (v := (-1 : Int32)) hx hb dX11_ofState_37 (by decide) ?_
      exact zret_i zc hw dX11_ofState_38
    · have hw := hw.2 hc
      refine lv_aload_n hx hb dX11_ofState_25 rfl (lv_at hl 0 rfl) ?_
      refine mg_11_56_0 zc hK hM dX11_ofState_26 ?_
      refine lv_iload_n hx hb dX11_ofState_29 rfl (lv_at hl 1 rfl) ?_
      refine lv_bipush (v := (10 : Int32)) hx hb dX11_ofState_30 (by decide) ?_
      refine lv_isub hx hb dX11_ofState_32 ?_
      refine mld_16 zc hK hM hw.1 dX11_ofState_33 ?_
      have hw := hw.2
      refine lv_goto (tgt := 38) hx hb dX11_ofState_34 (by decide) ?_
      exact zret_i zc hw dX11_ofState_38
set_option maxRecDepth 20000 in
theorem c_m_ofState (l : Launch) {E : zE} {q : Nat} {f_code : Int32} {a_tape : Nat → Int32} {a_size : Nat → Int32} {a_fault : Nat → Int32} {a_faultPlace : Nat → Int32} {a_many : Nat → Int32} {a_lands : Nat → Int32} {a_evenings : Nat → Int32} {a_sights : Nat → Int32} {a_choirs : Nat → Int32} {f_reached : Int32} {f_length : Int32} {f_begins : Int32} {f_sort : Int32} {f_value : Int32} {f_word : Int64} {f_wrongAt : Int32} {f_laterFault : Int32} {f_laterPlace : Int32} {a_told : Nat → Int32} {a_read : Nat → Int32} {f_farHut : Int32} {f_farSinger : Int32} {f_good : Int32} {f_land : Int32} {f_huts : Int32} {f_singers : Int32} {f_evening : Int32} {a_at : Nat → Int32} {a_knows : Nat → Int32} {a_climbed : Nat → Int32} {a_snow : Nat → Int32} {a_level : Nat → Int32} {f_begun : Int32} {f_minute : Int32} {f_avalanches : Int32} {a_run : Nat → Int32} {a_covers : Nat → Int32} {a_routes : Nat → Int32} {a_longest : Nat → Int32} {a_steep : Nat → Int32} {a_laid : Nat → Int32} {a_far : Nat → Int32} {f_sight : Int32} {a_runs : Nat → Int32} {f_choir : Int32} {f_voices : Int32} {a_rest : Nat → Int64} {a_wins : Nat → Int32} {f_seed : Int32} {a_other : Nat → Int32} {a_kept : Nat → Int32} {x1 : Int32} {post : Int32 → Prop} (hw : q_m_ofState_0 a_lands f_land f_huts f_singers a_at a_knows a_climbed a_snow a_level f_begun f_minute f_avalanches x1 post) : Met l yX11_ofState (Cond.code yX11_ofState cX11_ofState 2 (some .int) :: zb) rm_m_ofState (va_Pc [.ref q, .int x1] (fun U => mW E q f_code a_tape a_size a_fault a_faultPlace a_many a_lands a_evenings a_sights a_choirs f_reached f_length f_begins f_sort f_value f_word f_wrongAt f_laterFault f_laterPlace a_told a_read f_farHut f_farSinger f_good f_land f_huts f_singers f_evening a_at a_knows a_climbed a_snow a_level f_begun f_minute f_avalanches a_run a_covers a_routes a_longest a_steep a_laid a_far f_sight a_runs f_choir f_voices a_rest a_wins f_seed a_other a_kept U.heap ∧ zK E U)) (vp_Si post) 0 0 (fun _ => False) := by
  refine Met.ofW (cc := cX11_ofState) (maxL := 2) (ret := (some .int)) (by decide) rfl ?_
  intro p e s m args below meth c s₁ B hml hv
  obtain ⟨rfl, hM, hK⟩ := hv
  have zc := zc_of B hml
  have hl := lv_entry ([.ref q, .int x1]) (n := 2) (Nat.le_of_ble_eq_true rfl)
  rw [lg_entry_eq]
  generalize (lg_sl ([.ref q, .int x1]) ++ List.replicate (2 - (lg_sl ([.ref q, .int x1])).length) Slot.unset).toArray = ls at hl ⊢
  have hl : lv_has ls 2 [(0, .ref q), (1, .int x1)] := hl
  exact t_m_ofState_0 zc hK hM (lv_sub hl [0, 1] rfl) hw
-- m_state
abbrev rm_m_state : Room := { frames := 7, cells := 0, slots := 0, locals := 156 }
def q_m_state_0 (f_code : Int32) (a_many : Nat → Int32) (a_lands : Nat → Int32) (a_evenings : Nat → Int32) (f_land : Int32) (f_huts : Int32) (f_singers : Int32) (f_evening : Int32) (a_at : Nat → Int32) (a_knows : Nat → Int32) (a_climbed : Nat → Int32) (a_snow : Nat → Int32) (a_level : Nat → Int32) (f_begun : Int32) (f_minute : Int32) (f_avalanches : Int32) (x1 : Int32) (x2 : Int32) (x3 : Int32) (x4 : Int32) (post : Int32 → (Int32) → (Int32) → (Int32) → (Int32) → (Int32) → (Nat → Int32) → (Nat → Int32) → (Nat → Int32) → (Nat → Int32) → (Nat → Int32) → (Int32) → (Int32) → (Int32) → Prop) : Prop :=
  q_m_layAll_0 a_many a_lands f_land f_huts f_singers f_evening x1 x2 (fun r_1 f_land_1 f_huts_1 f_singers_1 f_evening_1 => (r_1 = 0 → (post (-1000 : Int32) (0 : Int32) f_land_1 f_huts_1 f_singers_1 f_evening_1 a_at a_knows a_climbed a_snow a_level f_begun f_minute f_avalanches)) ∧ (¬ r_1 = 0 → (q_m_deeds_0 a_evenings f_evening_1 (fun r_2 => q_m_in_0 x3 (0 : Int32) r_2 (fun r_3 => (r_3 = 0 → (post (-1000 : Int32) (0 : Int32) f_land_1 f_huts_1 f_singers_1 f_evening_1 a_at a_knows a_climbed a_snow a_level f_begun f_minute f_avalanches)) ∧ (¬ r_3 = 0 → (q_m_play_0 a_lands a_evenings f_land_1 f_huts_1 f_singers_1 f_evening_1 a_at a_knows a_climbed a_snow a_level f_begun f_minute f_avalanches x3 (fun r_4 a_at_1 a_knows_1 a_climbed_1 a_snow_1 a_level_1 f_begun_1 f_minute_1 f_avalanches_1 => (¬ r_4 = x3 → (post (-1000 : Int32) (0 : Int32) f_land_1 f_huts_1 f_singers_1 f_evening_1 a_at_1 a_knows_1 a_climbed_1 a_snow_1 a_level_1 f_begun_1 f_minute_1 f_avalanches_1)) ∧ (r_4 = x3 → (q_m_ofState_0 a_lands f_land_1 f_huts_1 f_singers_1 a_at_1 a_knows_1 a_climbed_1 a_snow_1 a_level_1 f_begun_1 f_minute_1 f_avalanches_1 x4 (fun r_5 => post r_5 (0 : Int32) f_land_1 f_huts_1 f_singers_1 f_evening_1 a_at_1 a_knows_1 a_climbed_1 a_snow_1 a_level_1 f_begun_1 f_minute_1 f_avalanches_1)))))))))))
set_option maxRecDepth 20000 in
theorem t_m_state_0 {p : Program} {l : Launch} {e : Env} {s : State} {m : MethodId} {args : Array Value} {below : List Frame} {meth : Method} {c : Code} {E : zE} {q : Nat} {f_code : Int32} {a_tape : Nat → Int32} {a_size : Nat → Int32} {a_fault : Nat → Int32} {a_faultPlace : Nat → Int32} {a_many : Nat → Int32} {a_lands : Nat → Int32} {a_evenings : Nat → Int32} {a_sights : Nat → Int32} {a_choirs : Nat → Int32} {f_reached : Int32} {f_length : Int32} {f_begins : Int32} {f_sort : Int32} {f_value : Int32} {f_word : Int64} {f_wrongAt : Int32} {f_laterFault : Int32} {f_laterPlace : Int32} {a_told : Nat → Int32} {a_read : Nat → Int32} {f_farHut : Int32} {f_farSinger : Int32} {f_good : Int32} {f_land : Int32} {f_huts : Int32} {f_singers : Int32} {f_evening : Int32} {a_at : Nat → Int32} {a_knows : Nat → Int32} {a_climbed : Nat → Int32} {a_snow : Nat → Int32} {a_level : Nat → Int32} {f_begun : Int32} {f_minute : Int32} {f_avalanches : Int32} {a_run : Nat → Int32} {a_covers : Nat → Int32} {a_routes : Nat → Int32} {a_longest : Nat → Int32} {a_steep : Nat → Int32} {a_laid : Nat → Int32} {a_far : Nat → Int32} {f_sight : Int32} {a_runs : Nat → Int32} {f_choir : Int32} {f_voices : Int32} {a_rest : Nat → Int64} {a_wins : Nat → Int32} {f_seed : Int32} {a_other : Nat → Int32} {a_kept : Nat → Int32} {post : Int32 → (Int32) → (Int32) → (Int32) → (Int32) → (Int32) → (Nat → Int32) → (Nat → Int32) → (Nat → Int32) → (Nat → Int32) → (Nat → Int32) → (Int32) → (Int32) → (Int32) → Prop} {x1 : Int32} {x2 : Int32} {x3 : Int32} {x4 : Int32} {ls : Array Slot} {H : Heap} {locs : List Loc}
    (zc : zC p s m args meth c cX11_state 5 RX11 (some .int))
    (hK : zK E s)
    (hM : mW E q f_code a_tape a_size a_fault a_faultPlace a_many a_lands a_evenings a_sights a_choirs f_reached f_length f_begins f_sort f_value f_word f_wrongAt f_laterFault f_laterPlace a_told a_read f_farHut f_farSinger f_good f_land f_huts f_singers f_evening a_at a_knows a_climbed a_snow a_level f_begun f_minute f_avalanches a_run a_covers a_routes a_longest a_steep a_laid a_far f_sight a_runs f_choir f_voices a_rest a_wins f_seed a_other a_kept H)
    (hS : va_S (mA q) s.heap H locs)
    (hl : lv_has ls 5 [(0, .ref q), (1, .int x1), (2, .int x2), (3, .int x3), (4, .int x4)])
    (hw : q_m_state_0 f_code a_many a_lands a_evenings f_land f_huts f_singers f_evening a_at a_knows a_climbed a_snow a_level f_begun f_minute f_avalanches x1 x2 x3 x4 post) :
    W p l e rm_m_state s m args below meth c H locs 0 0 (MQ below (zQi (S := (Int32) × (Int32) × (Int32) × (Int32) × (Int32) × (Nat → Int32) × (Nat → Int32) × (Nat → Int32) × (Nat → Int32) × (Nat → Int32) × (Int32) × (Int32) × (Int32)) (fun r u => post r u.1 u.2.1 u.2.2.1 u.2.2.2.1 u.2.2.2.2.1 u.2.2.2.2.2.1 u.2.2.2.2.2.2.1 u.2.2.2.2.2.2.2.1 u.2.2.2.2.2.2.2.2.1 u.2.2.2.2.2.2.2.2.2.1 u.2.2.2.2.2.2.2.2.2.2.1 u.2.2.2.2.2.2.2.2.2.2.2.1 u.2.2.2.2.2.2.2.2.2.2.2.2) (fun u H => mW E q u.1 a_tape a_size a_fault a_faultPlace a_many a_lands a_evenings a_sights a_choirs f_reached f_length f_begins f_sort f_value f_word f_wrongAt f_laterFault f_laterPlace a_told a_read f_farHut f_farSinger f_good u.2.1 u.2.2.1 u.2.2.2.1 u.2.2.2.2.1 u.2.2.2.2.2.1 u.2.2.2.2.2.2.1 u.2.2.2.2.2.2.2.1 u.2.2.2.2.2.2.2.2.1 u.2.2.2.2.2.2.2.2.2.1 u.2.2.2.2.2.2.2.2.2.2.1 u.2.2.2.2.2.2.2.2.2.2.2.1 u.2.2.2.2.2.2.2.2.2.2.2.2 a_run a_covers a_routes a_longest a_steep a_laid a_far f_sight a_runs f_choir f_voices a_rest a_wins f_seed a_other a_kept H) (mA q)) args s 0 0 (mA q)) (F0 m 0 ls []) := by
  have hx := zc.1
  have hb := zc.2.1
  refine lv_aload_n hx hb dX11_state_0 rfl (lv_at hl 0 rfl) ?_
  refine lv_iconst (v := (0 : Int32)) hx hb dX11_state_1 (by decide) ?_
  refine mp_11_97_0 zc hK hM hS dX11_state_2 (fun H locs hM hS => ?_)
  refine lv_aload_n hx hb dX11_state_5 rfl (lv_at hl 0 rfl) ?_
  refine lv_iload_n hx hb dX11_state_6 rfl (lv_at hl 1 rfl) ?_
  refine lv_iload_n hx hb dX11_state_7 rfl (lv_at hl 2 rfl) ?_
  refine zVw_i [.int x1, .int x2] [] zc ky_X11_layAll kz_X11_layAll km_11_383 (c_m_layAll l hw) (mPreV0 hK hM) hS rfl rfl hl.1 (Nat.le_of_ble_eq_true rfl) ⟨rfl, rfl⟩ ⟨Nat.le_of_ble_eq_true rfl, Nat.le_of_ble_eq_true rfl⟩ ⟨(Nat.zero_le _), (Nat.zero_le _)⟩ dX11_state_8 (fun r_1 u H locs hw hM hS => ?_)
  obtain ⟨f_land_1, f_huts_1, f_singers_1, f_evening_1⟩ := u
  refine lv_if_eq (tgt := 44) hx hb dX11_state_11 (by decide) (fun hc => ?_) (fun hc => ?_)
  · have hw := hw.1 hc
    refine lv_sipush (v := (-1000 : Int32)) hx hb dX11_state_44 (by decide) ?_
    exact zret_iw ⟨(0 : Int32), f_land_1, f_huts_1, f_singers_1, f_evening_1, a_at, a_knows, a_climbed, a_snow, a_level, f_begun, f_minute, f_avalanches⟩ zc hS hw hM dX11_state_47
  · have hw := hw.2 hc
    refine lv_iload_n hx hb dX11_state_14 rfl (lv_at hl 3 rfl) ?_
    refine lv_iconst (v := (0 : Int32)) hx hb dX11_state_15 (by decide) ?_
    refine lv_aload_n hx hb dX11_state_16 rfl (lv_at hl 0 rfl) ?_
    refine zV_i [] [.int (0 : Int32), .int x3] zc ky_X11_deeds kz_X11_deeds km_11_334 (c_m_deeds l hw) (mPreV0 hK hM) rfl rfl hl.1 (Nat.le_of_ble_eq_true rfl) ⟨rfl, rfl⟩ ⟨Nat.le_of_ble_eq_true rfl, Nat.le_of_ble_eq_true rfl⟩ ⟨(Nat.zero_le _), (Nat.zero_le _)⟩ dX11_state_17 (fun r_2 hw => ?_)
    refine zS_i [.int x3, .int (0 : Int32), .int r_2] [] zc ky_X11_in kz_X11_in km_11_109 (c_m_in l hw) (zPre0 _) rfl rfl hl.1 (Nat.le_of_ble_eq_true rfl) ⟨rfl, rfl⟩ ⟨Nat.le_of_ble_eq_true rfl, Nat.le_of_ble_eq_true rfl⟩ ⟨(Nat.zero_le _), (Nat.zero_le _)⟩ dX11_state_20 (fun r_3 hw => ?_)
    refine lv_if_eq (tgt := 44) hx hb dX11_state_23 (by decide) (fun hc => ?_) (fun hc => ?_)
    · have hw := hw.1 hc
      refine lv_sipush (v := (-1000 : Int32)) hx hb dX11_state_44 (by decide) ?_
      exact zret_iw ⟨(0 : Int32), f_land_1, f_huts_1, f_singers_1, f_evening_1, a_at, a_knows, a_climbed, a_snow, a_level, f_begun, f_minute, f_avalanches⟩ zc hS hw hM dX11_state_47
    · have hw := hw.2 hc
      refine lv_aload_n hx hb dX11_state_26 rfl (lv_at hl 0 rfl) ?_
      refine lv_iload_n hx hb dX11_state_27 rfl (lv_at hl 3 rfl) ?_
      refine zVw_i [.int x3] [] zc ky_X11_play kz_X11_play km_11_386 (c_m_play l hw) (mPreV0 hK hM) hS rfl rfl hl.1 (Nat.le_of_ble_eq_true rfl) ⟨rfl, rfl⟩ ⟨Nat.le_of_ble_eq_true rfl, Nat.le_of_ble_eq_true rfl⟩ ⟨(Nat.zero_le _), (Nat.zero_le _)⟩ dX11_state_28 (fun r_4 u H locs hw hM hS => ?_)
      obtain ⟨a_at_1, a_knows_1, a_climbed_1, a_snow_1, a_level_1, f_begun_1, f_minute_1, f_avalanches_1⟩ := u
      refine lv_iload_n hx hb dX11_state_31 rfl (lv_at hl 3 rfl) ?_
      refine lv_icmp_ne (tgt := 44) hx hb dX11_state_32 (by decide) (fun hc => ?_) (fun hc => ?_)
      · have hw := hw.1 hc
        refine lv_sipush (v := (-1000 : Int32)) hx hb dX11_state_44 (by decide) ?_
        exact zret_iw ⟨(0 : Int32), f_land_1, f_huts_1, f_singers_1, f_evening_1, a_at_1, a_knows_1, a_climbed_1, a_snow_1, a_level_1, f_begun_1, f_minute_1, f_avalanches_1⟩ zc hS hw hM dX11_state_47
      · have hw := hw.2 hc
        refine lv_aload_n hx hb dX11_state_35 rfl (lv_at hl 0 rfl) ?_
        refine lv_iload hx hb dX11_state_36 (lv_at hl 4 rfl) ?_
        refine zV_i [.int x4] [] zc ky_X11_ofState kz_X11_ofState km_11_407 (c_m_ofState l hw) (mPreV0 hK hM) rfl rfl hl.1 (Nat.le_of_ble_eq_true rfl) ⟨rfl, rfl⟩ ⟨Nat.le_of_ble_eq_true rfl, Nat.le_of_ble_eq_true rfl⟩ ⟨(Nat.zero_le _), (Nat.zero_le _)⟩ dX11_state_38 (fun r_5 hw => ?_)
        refine lv_goto (tgt := 47) hx hb dX11_state_41 (by decide) ?_
        exact zret_iw ⟨(0 : Int32), f_land_1, f_huts_1, f_singers_1, f_evening_1, a_at_1, a_knows_1, a_climbed_1, a_snow_1, a_level_1, f_begun_1, f_minute_1, f_avalanches_1⟩ zc hS hw hM dX11_state_47
set_option maxRecDepth 20000 in
theorem c_m_state (l : Launch) {E : zE} {q : Nat} {f_code : Int32} {a_tape : Nat → Int32} {a_size : Nat → Int32} {a_fault : Nat → Int32} {a_faultPlace : Nat → Int32} {a_many : Nat → Int32} {a_lands : Nat → Int32} {a_evenings : Nat → Int32} {a_sights : Nat → Int32} {a_choirs : Nat → Int32} {f_reached : Int32} {f_length : Int32} {f_begins : Int32} {f_sort : Int32} {f_value : Int32} {f_word : Int64} {f_wrongAt : Int32} {f_laterFault : Int32} {f_laterPlace : Int32} {a_told : Nat → Int32} {a_read : Nat → Int32} {f_farHut : Int32} {f_farSinger : Int32} {f_good : Int32} {f_land : Int32} {f_huts : Int32} {f_singers : Int32} {f_evening : Int32} {a_at : Nat → Int32} {a_knows : Nat → Int32} {a_climbed : Nat → Int32} {a_snow : Nat → Int32} {a_level : Nat → Int32} {f_begun : Int32} {f_minute : Int32} {f_avalanches : Int32} {a_run : Nat → Int32} {a_covers : Nat → Int32} {a_routes : Nat → Int32} {a_longest : Nat → Int32} {a_steep : Nat → Int32} {a_laid : Nat → Int32} {a_far : Nat → Int32} {f_sight : Int32} {a_runs : Nat → Int32} {f_choir : Int32} {f_voices : Int32} {a_rest : Nat → Int64} {a_wins : Nat → Int32} {f_seed : Int32} {a_other : Nat → Int32} {a_kept : Nat → Int32} {x1 : Int32} {x2 : Int32} {x3 : Int32} {x4 : Int32} {post : Int32 → (Int32) → (Int32) → (Int32) → (Int32) → (Int32) → (Nat → Int32) → (Nat → Int32) → (Nat → Int32) → (Nat → Int32) → (Nat → Int32) → (Int32) → (Int32) → (Int32) → Prop} (hw : q_m_state_0 f_code a_many a_lands a_evenings f_land f_huts f_singers f_evening a_at a_knows a_climbed a_snow a_level f_begun f_minute f_avalanches x1 x2 x3 x4 post) : Met l yX11_state (Cond.code yX11_state cX11_state 5 (some .int) :: zb) rm_m_state (va_Pc [.ref q, .int x1, .int x2, .int x3, .int x4] (fun U => mW E q f_code a_tape a_size a_fault a_faultPlace a_many a_lands a_evenings a_sights a_choirs f_reached f_length f_begins f_sort f_value f_word f_wrongAt f_laterFault f_laterPlace a_told a_read f_farHut f_farSinger f_good f_land f_huts f_singers f_evening a_at a_knows a_climbed a_snow a_level f_begun f_minute f_avalanches a_run a_covers a_routes a_longest a_steep a_laid a_far f_sight a_runs f_choir f_voices a_rest a_wins f_seed a_other a_kept U.heap ∧ zK E U)) (zQi (S := (Int32) × (Int32) × (Int32) × (Int32) × (Int32) × (Nat → Int32) × (Nat → Int32) × (Nat → Int32) × (Nat → Int32) × (Nat → Int32) × (Int32) × (Int32) × (Int32)) (fun r u => post r u.1 u.2.1 u.2.2.1 u.2.2.2.1 u.2.2.2.2.1 u.2.2.2.2.2.1 u.2.2.2.2.2.2.1 u.2.2.2.2.2.2.2.1 u.2.2.2.2.2.2.2.2.1 u.2.2.2.2.2.2.2.2.2.1 u.2.2.2.2.2.2.2.2.2.2.1 u.2.2.2.2.2.2.2.2.2.2.2.1 u.2.2.2.2.2.2.2.2.2.2.2.2) (fun u H => mW E q u.1 a_tape a_size a_fault a_faultPlace a_many a_lands a_evenings a_sights a_choirs f_reached f_length f_begins f_sort f_value f_word f_wrongAt f_laterFault f_laterPlace a_told a_read f_farHut f_farSinger f_good u.2.1 u.2.2.1 u.2.2.2.1 u.2.2.2.2.1 u.2.2.2.2.2.1 u.2.2.2.2.2.2.1 u.2.2.2.2.2.2.2.1 u.2.2.2.2.2.2.2.2.1 u.2.2.2.2.2.2.2.2.2.1 u.2.2.2.2.2.2.2.2.2.2.1 u.2.2.2.2.2.2.2.2.2.2.2.1 u.2.2.2.2.2.2.2.2.2.2.2.2 a_run a_covers a_routes a_longest a_steep a_laid a_far f_sight a_runs f_choir f_voices a_rest a_wins f_seed a_other a_kept H) (mA q)) 0 0 (mA q) := by
  refine Met.ofW (cc := cX11_state) (maxL := 5) (ret := (some .int)) (by decide) rfl ?_
  intro p e s m args below meth c s₁ B hml hv
  obtain ⟨rfl, hM, hK⟩ := hv
  have zc := zc_of B hml
  have hl := lv_entry ([.ref q, .int x1, .int x2, .int x3, .int x4]) (n := 5) (Nat.le_of_ble_eq_true rfl)
  rw [lg_entry_eq]
  generalize (lg_sl ([.ref q, .int x1, .int x2, .int x3, .int x4]) ++ List.replicate (5 - (lg_sl ([.ref q, .int x1, .int x2, .int x3, .int x4])).length) Slot.unset).toArray = ls at hl ⊢
  have hl : lv_has ls 5 [(0, .ref q), (1, .int x1), (2, .int x2), (3, .int x3), (4, .int x4)] := hl
  exact t_m_state_0 zc hK hM va_S.rf (lv_sub hl [0, 1, 2, 3, 4] rfl) hw
-- m_findRun
abbrev rm_m_findRun : Room := { frames := 2, cells := 0, slots := 0, locals := 43 }
def q_m_findRun_46 (P11 : Int32 → (Nat → Int32) → Prop) (a_lands : Nat → Int32) (f_land : Int32) (f_huts : Int32) (a_run : Nat → Int32) (x1 : Int32) (x3 : Int32) (x4 : Int32) (y0 : Int32) (y1 : Int32) (post : (Nat → Int32) → Prop) : Prop :=
  vp_in y0 9 ∧ (∀ a_run_1 : Nat → Int32, a_run_1 = upd a_run (Int32.toNatClampNeg y0) y1 → (∀ v_1 : Int32, v_1 = x4 + (1 : Int32) → (P11 v_1 a_run_1)))
def q_m_findRun_43 (P11 : Int32 → (Nat → Int32) → Prop) (a_lands : Nat → Int32) (f_land : Int32) (f_huts : Int32) (a_run : Nat → Int32) (x1 : Int32) (x3 : Int32) (x4 : Int32) (y0 : Int32) (post : (Nat → Int32) → Prop) : Prop :=
  q_m_findRun_46 P11 a_lands f_land f_huts a_run x1 x3 x4 y0 (1000000 : Int32) post
def q_m_findRun_270 (P56 : Int32 → (Nat → Int32) → Prop) (P194 : Int32 → (Nat → Int32) → Prop) (a_lands : Nat → Int32) (f_land : Int32) (f_huts : Int32) (a_run : Nat → Int32) (x3 : Int32) (x4 : Int32) (x5 : Int32) (y0 : Int32) (y1 : Int32) (post : (Nat → Int32) → Prop) : Prop :=
  vp_in y0 9 ∧ (∀ a_run_1 : Nat → Int32, a_run_1 = upd a_run (Int32.toNatClampNeg y0) y1 → (∀ v_1 : Int32, v_1 = x5 + (1 : Int32) → (P194 v_1 a_run_1)))
def q_m_findRun_194 (P56 : Int32 → (Nat → Int32) → Prop) (a_lands : Nat → Int32) (f_land : Int32) (f_huts : Int32) (a_run : Nat → Int32) (x3 : Int32) (x4 : Int32) (x5 : Int32) (post : (Nat → Int32) → Prop) : Prop :=
  ∀ P194 : Int32 → (Nat → Int32) → Prop, (∀ (x5 : Int32) (a_run : Nat → Int32), (q_m_of_0 a_lands f_land (4 : Int32) (fun r_1 => (r_1 ≤ x5 → (∀ v_1 : Int32, v_1 = x4 + (1 : Int32) → (P56 v_1 a_run))) ∧ (¬ r_1 ≤ x5 → (q_m_of_0 a_lands f_land (((43 : Int32) + ((2 : Int32) * x5)) + (1 : Int32)) (fun r_2 => q_m_has_0 x3 r_2 (fun r_3 => (r_3 = 0 → (vp_in r_2 9 ∧ (q_m_of_0 a_lands f_land ((43 : Int32) + ((2 : Int32) * x5)) (fun r_4 => vp_in r_4 9 ∧ (q_m_lesser_0 (a_run (Int32.toNatClampNeg r_2)) (a_run (Int32.toNatClampNeg r_4)) (fun r_5 => q_m_findRun_270 P56 P194 a_lands f_land f_huts a_run x3 x4 x5 r_2 r_5 post)))))) ∧ (¬ r_3 = 0 → (vp_in r_2 9 ∧ (q_m_findRun_270 P56 P194 a_lands f_land f_huts a_run x3 x4 x5 r_2 (a_run (Int32.toNatClampNeg r_2)) post))))))))) → P194 x5 a_run) → P194 x5 a_run
def q_m_findRun_178 (P56 : Int32 → (Nat → Int32) → Prop) (P68 : Int32 → (Nat → Int32) → Prop) (P80 : Int32 → (Nat → Int32) → Prop) (a_lands : Nat → Int32) (f_land : Int32) (f_huts : Int32) (a_run : Nat → Int32) (x3 : Int32) (x4 : Int32) (x5 : Int32) (x6 : Int32) (y0 : Int32) (y1 : Int32) (post : (Nat → Int32) → Prop) : Prop :=
  vp_in y0 9 ∧ (∀ a_run_1 : Nat → Int32, a_run_1 = upd a_run (Int32.toNatClampNeg y0) y1 → (∀ v_1 : Int32, v_1 = x6 + (1 : Int32) → (P80 v_1 a_run_1)))
def q_m_findRun_129 (P56 : Int32 → (Nat → Int32) → Prop) (P68 : Int32 → (Nat → Int32) → Prop) (P80 : Int32 → (Nat → Int32) → Prop) (a_lands : Nat → Int32) (f_land : Int32) (f_huts : Int32) (a_run : Nat → Int32) (x3 : Int32) (x4 : Int32) (x5 : Int32) (x6 : Int32) (y0 : Int32) (post : (Nat → Int32) → Prop) : Prop :=
  (y0 = 0 → (vp_in x6 9 ∧ (q_m_findRun_178 P56 P68 P80 a_lands f_land f_huts a_run x3 x4 x5 x6 x6 (a_run (Int32.toNatClampNeg x6)) post))) ∧ (¬ y0 = 0 → (vp_in x6 9 ∧ (vp_in x5 9 ∧ (q_m_way_0 a_lands f_land x5 x6 (fun r_1 => q_m_lesser_0 (a_run (Int32.toNatClampNeg x6)) ((a_run (Int32.toNatClampNeg x5)) + r_1) (fun r_2 => q_m_findRun_178 P56 P68 P80 a_lands f_land f_huts a_run x3 x4 x5 x6 x6 r_2 post))))))
def q_m_findRun_128 (P56 : Int32 → (Nat → Int32) → Prop) (P68 : Int32 → (Nat → Int32) → Prop) (P80 : Int32 → (Nat → Int32) → Prop) (a_lands : Nat → Int32) (f_land : Int32) (f_huts : Int32) (a_run : Nat → Int32) (x3 : Int32) (x4 : Int32) (x5 : Int32) (x6 : Int32) (post : (Nat → Int32) → Prop) : Prop :=
  q_m_findRun_129 P56 P68 P80 a_lands f_land f_huts a_run x3 x4 x5 x6 (0 : Int32) post
def q_m_findRun_80 (P56 : Int32 → (Nat → Int32) → Prop) (P68 : Int32 → (Nat → Int32) → Prop) (a_lands : Nat → Int32) (f_land : Int32) (f_huts : Int32) (a_run : Nat → Int32) (x3 : Int32) (x4 : Int32) (x5 : Int32) (x6 : Int32) (post : (Nat → Int32) → Prop) : Prop :=
  ∀ P80 : Int32 → (Nat → Int32) → Prop, (∀ (x6 : Int32) (a_run : Nat → Int32), ((f_huts ≤ x6 → (∀ v_1 : Int32, v_1 = x5 + (1 : Int32) → (P68 v_1 a_run))) ∧ (¬ f_huts ≤ x6 → (q_m_way_0 a_lands f_land x5 x6 (fun r_1 => (r_1 ≤ 0 → (q_m_findRun_128 P56 P68 P80 a_lands f_land f_huts a_run x3 x4 x5 x6 post)) ∧ (¬ r_1 ≤ 0 → (q_m_height_0 a_lands f_land x6 (fun r_2 => q_m_height_0 a_lands f_land x5 (fun r_3 => (r_3 ≤ r_2 → (q_m_findRun_128 P56 P68 P80 a_lands f_land f_huts a_run x3 x4 x5 x6 post)) ∧ (¬ r_3 ≤ r_2 → (q_m_has_0 x3 x6 (fun r_4 => (¬ r_4 = 0 → (q_m_findRun_128 P56 P68 P80 a_lands f_land f_huts a_run x3 x4 x5 x6 post)) ∧ (r_4 = 0 → (q_m_findRun_129 P56 P68 P80 a_lands f_land f_huts a_run x3 x4 x5 x6 (1 : Int32) post))))))))))))) → P80 x6 a_run) → P80 x6 a_run
def q_m_findRun_68 (P56 : Int32 → (Nat → Int32) → Prop) (a_lands : Nat → Int32) (f_land : Int32) (f_huts : Int32) (a_run : Nat → Int32) (x3 : Int32) (x4 : Int32) (x5 : Int32) (post : (Nat → Int32) → Prop) : Prop :=
  ∀ P68 : Int32 → (Nat → Int32) → Prop, (∀ (x5 : Int32) (a_run : Nat → Int32), ((f_huts ≤ x5 → (q_m_findRun_194 P56 a_lands f_land f_huts a_run x3 x4 (0 : Int32) post)) ∧ (¬ f_huts ≤ x5 → (q_m_findRun_80 P56 P68 a_lands f_land f_huts a_run x3 x4 x5 (0 : Int32) post))) → P68 x5 a_run) → P68 x5 a_run
def q_m_findRun_56 (a_lands : Nat → Int32) (f_land : Int32) (f_huts : Int32) (a_run : Nat → Int32) (x3 : Int32) (x4 : Int32) (post : (Nat → Int32) → Prop) : Prop :=
  ∀ P56 : Int32 → (Nat → Int32) → Prop, (∀ (x4 : Int32) (a_run : Nat → Int32), ((f_huts ≤ x4 → (post a_run)) ∧ (¬ f_huts ≤ x4 → (q_m_findRun_68 P56 a_lands f_land f_huts a_run x3 x4 (0 : Int32) post))) → P56 x4 a_run) → P56 x4 a_run
def q_m_findRun_11 (a_lands : Nat → Int32) (f_land : Int32) (f_huts : Int32) (a_run : Nat → Int32) (x1 : Int32) (x3 : Int32) (x4 : Int32) (post : (Nat → Int32) → Prop) : Prop :=
  ∀ P11 : Int32 → (Nat → Int32) → Prop, (∀ (x4 : Int32) (a_run : Nat → Int32), (((9 : Int32) ≤ x4 → (q_m_findRun_56 a_lands f_land f_huts a_run x3 (0 : Int32) post)) ∧ (¬ (9 : Int32) ≤ x4 → ((¬ x4 = x1 → (q_m_findRun_43 P11 a_lands f_land f_huts a_run x1 x3 x4 x4 post)) ∧ (x4 = x1 → (q_m_has_0 x3 x4 (fun r_1 => (¬ r_1 = 0 → (q_m_findRun_43 P11 a_lands f_land f_huts a_run x1 x3 x4 x4 post)) ∧ (r_1 = 0 → (q_m_findRun_46 P11 a_lands f_land f_huts a_run x1 x3 x4 x4 (0 : Int32) post)))))))) → P11 x4 a_run) → P11 x4 a_run
def q_m_findRun_0 (a_lands : Nat → Int32) (f_land : Int32) (f_huts : Int32) (a_run : Nat → Int32) (x1 : Int32) (x2 : Int32) (post : (Nat → Int32) → Prop) : Prop :=
  q_m_of_0 a_lands f_land (3 : Int32) (fun r_1 => ∀ v_1 : Int32, v_1 = (r_1 ||| x2) → (q_m_findRun_11 a_lands f_land f_huts a_run x1 v_1 (0 : Int32) post))
set_option maxRecDepth 20000 in
theorem t_m_findRun_46 {p : Program} {l : Launch} {e : Env} {s : State} {m : MethodId} {args : Array Value} {below : List Frame} {meth : Method} {c : Code} {E : zE} {q : Nat} {f_code : Int32} {a_tape : Nat → Int32} {a_size : Nat → Int32} {a_fault : Nat → Int32} {a_faultPlace : Nat → Int32} {a_many : Nat → Int32} {a_lands : Nat → Int32} {a_evenings : Nat → Int32} {a_sights : Nat → Int32} {a_choirs : Nat → Int32} {f_reached : Int32} {f_length : Int32} {f_begins : Int32} {f_sort : Int32} {f_value : Int32} {f_word : Int64} {f_wrongAt : Int32} {f_laterFault : Int32} {f_laterPlace : Int32} {a_told : Nat → Int32} {a_read : Nat → Int32} {f_farHut : Int32} {f_farSinger : Int32} {f_good : Int32} {f_land : Int32} {f_huts : Int32} {f_singers : Int32} {f_evening : Int32} {a_at : Nat → Int32} {a_knows : Nat → Int32} {a_climbed : Nat → Int32} {a_snow : Nat → Int32} {a_level : Nat → Int32} {f_begun : Int32} {f_minute : Int32} {f_avalanches : Int32} {a_run : Nat → Int32} {a_covers : Nat → Int32} {a_routes : Nat → Int32} {a_longest : Nat → Int32} {a_steep : Nat → Int32} {a_laid : Nat → Int32} {a_far : Nat → Int32} {f_sight : Int32} {a_runs : Nat → Int32} {f_choir : Int32} {f_voices : Int32} {a_rest : Nat → Int64} {a_wins : Nat → Int32} {f_seed : Int32} {a_other : Nat → Int32} {a_kept : Nat → Int32} {P11 : Int32 → (Nat → Int32) → Prop} {post : (Nat → Int32) → Prop} {x1 : Int32} {x3 : Int32} {x4 : Int32} {y0 : Int32} {y1 : Int32} {ls : Array Slot} {H : Heap} {locs : List Loc}
    (zc : zC p s m args meth c cX11_findRun 8 RX11 none)
    (hK : zK E s)
    (hM : mW E q f_code a_tape a_size a_fault a_faultPlace a_many a_lands a_evenings a_sights a_choirs f_reached f_length f_begins f_sort f_value f_word f_wrongAt f_laterFault f_laterPlace a_told a_read f_farHut f_farSinger f_good f_land f_huts f_singers f_evening a_at a_knows a_climbed a_snow a_level f_begun f_minute f_avalanches a_run a_covers a_routes a_longest a_steep a_laid a_far f_sight a_runs f_choir f_voices a_rest a_wins f_seed a_other a_kept H)
    (hS : va_S (mA q) s.heap H locs)
    (hP11 : ∀ (x4 : Int32) (a_run : Nat → Int32) (H : Heap) (locs : List Loc) (ls : Array Slot), P11 x4 a_run → lv_has ls 8 [(0, .ref q), (1, .int x1), (3, .int x3), (4, .int x4)] → mW E q f_code a_tape a_size a_fault a_faultPlace a_many a_lands a_evenings a_sights a_choirs f_reached f_length f_begins f_sort f_value f_word f_wrongAt f_laterFault f_laterPlace a_told a_read f_farHut f_farSinger f_good f_land f_huts f_singers f_evening a_at a_knows a_climbed a_snow a_level f_begun f_minute f_avalanches a_run a_covers a_routes a_longest a_steep a_laid a_far f_sight a_runs f_choir f_voices a_rest a_wins f_seed a_other a_kept H → va_S (mA q) s.heap H locs → W p l e rm_m_findRun s m args below meth c H locs 0 0 (MQ below (zQv (S := (Nat → Int32)) (fun u => post u) (fun u H => mW E q f_code a_tape a_size a_fault a_faultPlace a_many a_lands a_evenings a_sights a_choirs f_reached f_length f_begins f_sort f_value f_word f_wrongAt f_laterFault f_laterPlace a_told a_read f_farHut f_farSinger f_good f_land f_huts f_singers f_evening a_at a_knows a_climbed a_snow a_level f_begun f_minute f_avalanches u a_covers a_routes a_longest a_steep a_laid a_far f_sight a_runs f_choir f_voices a_rest a_wins f_seed a_other a_kept H) (mA q)) args s 0 0 (mA q)) (F0 m 11 ls []))
    (hl : lv_has ls 8 [(0, .ref q), (1, .int x1), (3, .int x3), (4, .int x4)])
    (hw : q_m_findRun_46 P11 a_lands f_land f_huts a_run x1 x3 x4 y0 y1 post) :
    W p l e rm_m_findRun s m args below meth c H locs 0 0 (MQ below (zQv (S := (Nat → Int32)) (fun u => post u) (fun u H => mW E q f_code a_tape a_size a_fault a_faultPlace a_many a_lands a_evenings a_sights a_choirs f_reached f_length f_begins f_sort f_value f_word f_wrongAt f_laterFault f_laterPlace a_told a_read f_farHut f_farSinger f_good f_land f_huts f_singers f_evening a_at a_knows a_climbed a_snow a_level f_begun f_minute f_avalanches u a_covers a_routes a_longest a_steep a_laid a_far f_sight a_runs f_choir f_voices a_rest a_wins f_seed a_other a_kept H) (mA q)) args s 0 0 (mA q)) (F0 m 46 ls [.int y1, .int y0, .ref (q + 17)]) := by
  have hx := zc.1
  have hb := zc.2.1
  refine mst_17 zc hK hM hS hw.1 dX11_findRun_46 (fun a_run_1 H locs ea_run_1 hM hS => ?_)
  have hw := hw.2 a_run_1 ea_run_1
  obtain ⟨v_1, ev_1⟩ : ∃ y : Int32, y = x4 + (1 : Int32) := ⟨_, rfl⟩
  have hw := hw v_1 ev_1
  refine lv_iinc (v := v_1) (k := 3) (lv' := [(4, .int v_1), (0, .ref q), (1, .int x1), (3, .int x3)]) hx hb dX11_findRun_47 hl rfl (by rw [ev_1]; rfl) (by decide) rfl (fun ls hl => ?_)
  refine lv_goto (tgt := 11) hx hb dX11_findRun_50 (by decide) ?_
  exact hP11 _ _ _ _ _ hw (lv_sub hl [1, 2, 3, 0] rfl) hM hS
set_option maxRecDepth 20000 in
theorem t_m_findRun_43 {p : Program} {l : Launch} {e : Env} {s : State} {m : MethodId} {args : Array Value} {below : List Frame} {meth : Method} {c : Code} {E : zE} {q : Nat} {f_code : Int32} {a_tape : Nat → Int32} {a_size : Nat → Int32} {a_fault : Nat → Int32} {a_faultPlace : Nat → Int32} {a_many : Nat → Int32} {a_lands : Nat → Int32} {a_evenings : Nat → Int32} {a_sights : Nat → Int32} {a_choirs : Nat → Int32} {f_reached : Int32} {f_length : Int32} {f_begins : Int32} {f_sort : Int32} {f_value : Int32} {f_word : Int64} {f_wrongAt : Int32} {f_laterFault : Int32} {f_laterPlace : Int32} {a_told : Nat → Int32} {a_read : Nat → Int32} {f_farHut : Int32} {f_farSinger : Int32} {f_good : Int32} {f_land : Int32} {f_huts : Int32} {f_singers : Int32} {f_evening : Int32} {a_at : Nat → Int32} {a_knows : Nat → Int32} {a_climbed : Nat → Int32} {a_snow : Nat → Int32} {a_level : Nat → Int32} {f_begun : Int32} {f_minute : Int32} {f_avalanches : Int32} {a_run : Nat → Int32} {a_covers : Nat → Int32} {a_routes : Nat → Int32} {a_longest : Nat → Int32} {a_steep : Nat → Int32} {a_laid : Nat → Int32} {a_far : Nat → Int32} {f_sight : Int32} {a_runs : Nat → Int32} {f_choir : Int32} {f_voices : Int32} {a_rest : Nat → Int64} {a_wins : Nat → Int32} {f_seed : Int32} {a_other : Nat → Int32} {a_kept : Nat → Int32} {P11 : Int32 → (Nat → Int32) → Prop} {post : (Nat → Int32) → Prop} {x1 : Int32} {x3 : Int32} {x4 : Int32} {y0 : Int32} {ls : Array Slot} {H : Heap} {locs : List Loc}
    (zc : zC p s m args meth c cX11_findRun 8 RX11 none)
    (hK : zK E s)
    (hM : mW E q f_code a_tape a_size a_fault a_faultPlace a_many a_lands a_evenings a_sights a_choirs f_reached f_length f_begins f_sort f_value f_word f_wrongAt f_laterFault f_laterPlace a_told a_read f_farHut f_farSinger f_good f_land f_huts f_singers f_evening a_at a_knows a_climbed a_snow a_level f_begun f_minute f_avalanches a_run a_covers a_routes a_longest a_steep a_laid a_far f_sight a_runs f_choir f_voices a_rest a_wins f_seed a_other a_kept H)
    (hS : va_S (mA q) s.heap H locs)
    (hP11 : ∀ (x4 : Int32) (a_run : Nat → Int32) (H : Heap) (locs : List Loc) (ls : Array Slot), P11 x4 a_run → lv_has ls 8 [(0, .ref q), (1, .int x1), (3, .int x3), (4, .int x4)] → mW E q f_code a_tape a_size a_fault a_faultPlace a_many a_lands a_evenings a_sights a_choirs f_reached f_length f_begins f_sort f_value f_word f_wrongAt f_laterFault f_laterPlace a_told a_read f_farHut f_farSinger f_good f_land f_huts f_singers f_evening a_at a_knows a_climbed a_snow a_level f_begun f_minute f_avalanches a_run a_covers a_routes a_longest a_steep a_laid a_far f_sight a_runs f_choir f_voices a_rest a_wins f_seed a_other a_kept H → va_S (mA q) s.heap H locs → W p l e rm_m_findRun s m args below meth c H locs 0 0 (MQ below (zQv (S := (Nat → Int32)) (fun u => post u) (fun u H => mW E q f_code a_tape a_size a_fault a_faultPlace a_many a_lands a_evenings a_sights a_choirs f_reached f_length f_begins f_sort f_value f_word f_wrongAt f_laterFault f_laterPlace a_told a_read f_farHut f_farSinger f_good f_land f_huts f_singers f_evening a_at a_knows a_climbed a_snow a_level f_begun f_minute f_avalanches u a_covers a_routes a_longest a_steep a_laid a_far f_sight a_runs f_choir f_voices a_rest a_wins f_seed a_other a_kept H) (mA q)) args s 0 0 (mA q)) (F0 m 11 ls []))
    (hl : lv_has ls 8 [(0, .ref q), (1, .int x1), (3, .int x3), (4, .int x4)])
    (hw : q_m_findRun_43 P11 a_lands f_land f_huts a_run x1 x3 x4 y0 post) :
    W p l e rm_m_findRun s m args below meth c H locs 0 0 (MQ below (zQv (S := (Nat → Int32)) (fun u => post u) (fun u H => mW E q f_code a_tape a_size a_fault a_faultPlace a_many a_lands a_evenings a_sights a_choirs f_reached f_length f_begins f_sort f_value f_word f_wrongAt f_laterFault f_laterPlace a_told a_read f_farHut f_farSinger f_good f_land f_huts f_singers f_evening a_at a_knows a_climbed a_snow a_level f_begun f_minute f_avalanches u a_covers a_routes a_longest a_steep a_laid a_far f_sight a_runs f_choir f_voices a_rest a_wins f_seed a_other a_kept H) (mA q)) args s 0 0 (mA q)) (F0 m 43 ls [.int y0, .ref (q + 17)]) := by
  have hx := zc.1
  have hb := zc.2.1
  refine lv_ldcw (v := (1000000 : Int32)) hx hb zc.2.2.2.1 (zc.2.2.2.2.1 _ kc_11_410) dX11_findRun_43 ?_
  exact t_m_findRun_46 zc hK hM hS hP11 (lv_sub hl [0, 1, 2, 3] rfl) hw
set_option maxRecDepth 20000 in
theorem t_m_findRun_270 {p : Program} {l : Launch} {e : Env} {s : State} {m : MethodId} {args : Array Value} {below : List Frame} {meth : Method} {c : Code} {E : zE} {q : Nat} {f_code : Int32} {a_tape : Nat → Int32} {a_size : Nat → Int32} {a_fault : Nat → Int32} {a_faultPlace : Nat → Int32} {a_many : Nat → Int32} {a_lands : Nat → Int32} {a_evenings : Nat → Int32} {a_sights : Nat → Int32} {a_choirs : Nat → Int32} {f_reached : Int32} {f_length : Int32} {f_begins : Int32} {f_sort : Int32} {f_value : Int32} {f_word : Int64} {f_wrongAt : Int32} {f_laterFault : Int32} {f_laterPlace : Int32} {a_told : Nat → Int32} {a_read : Nat → Int32} {f_farHut : Int32} {f_farSinger : Int32} {f_good : Int32} {f_land : Int32} {f_huts : Int32} {f_singers : Int32} {f_evening : Int32} {a_at : Nat → Int32} {a_knows : Nat → Int32} {a_climbed : Nat → Int32} {a_snow : Nat → Int32} {a_level : Nat → Int32} {f_begun : Int32} {f_minute : Int32} {f_avalanches : Int32} {a_run : Nat → Int32} {a_covers : Nat → Int32} {a_routes : Nat → Int32} {a_longest : Nat → Int32} {a_steep : Nat → Int32} {a_laid : Nat → Int32} {a_far : Nat → Int32} {f_sight : Int32} {a_runs : Nat → Int32} {f_choir : Int32} {f_voices : Int32} {a_rest : Nat → Int64} {a_wins : Nat → Int32} {f_seed : Int32} {a_other : Nat → Int32} {a_kept : Nat → Int32} {P56 : Int32 → (Nat → Int32) → Prop} {P194 : Int32 → (Nat → Int32) → Prop} {post : (Nat → Int32) → Prop} {x3 : Int32} {x4 : Int32} {x5 : Int32} {y0 : Int32} {y1 : Int32} {ls : Array Slot} {H : Heap} {locs : List Loc}
    (zc : zC p s m args meth c cX11_findRun 8 RX11 none)
    (hK : zK E s)
    (hM : mW E q f_code a_tape a_size a_fault a_faultPlace a_many a_lands a_evenings a_sights a_choirs f_reached f_length f_begins f_sort f_value f_word f_wrongAt f_laterFault f_laterPlace a_told a_read f_farHut f_farSinger f_good f_land f_huts f_singers f_evening a_at a_knows a_climbed a_snow a_level f_begun f_minute f_avalanches a_run a_covers a_routes a_longest a_steep a_laid a_far f_sight a_runs f_choir f_voices a_rest a_wins f_seed a_other a_kept H)
    (hS : va_S (mA q) s.heap H locs)
    (hP56 : ∀ (x4 : Int32) (a_run : Nat → Int32) (H : Heap) (locs : List Loc) (ls : Array Slot), P56 x4 a_run → lv_has ls 8 [(0, .ref q), (3, .int x3), (4, .int x4)] → mW E q f_code a_tape a_size a_fault a_faultPlace a_many a_lands a_evenings a_sights a_choirs f_reached f_length f_begins f_sort f_value f_word f_wrongAt f_laterFault f_laterPlace a_told a_read f_farHut f_farSinger f_good f_land f_huts f_singers f_evening a_at a_knows a_climbed a_snow a_level f_begun f_minute f_avalanches a_run a_covers a_routes a_longest a_steep a_laid a_far f_sight a_runs f_choir f_voices a_rest a_wins f_seed a_other a_kept H → va_S (mA q) s.heap H locs → W p l e rm_m_findRun s m args below meth c H locs 0 0 (MQ below (zQv (S := (Nat → Int32)) (fun u => post u) (fun u H => mW E q f_code a_tape a_size a_fault a_faultPlace a_many a_lands a_evenings a_sights a_choirs f_reached f_length f_begins f_sort f_value f_word f_wrongAt f_laterFault f_laterPlace a_told a_read f_farHut f_farSinger f_good f_land f_huts f_singers f_evening a_at a_knows a_climbed a_snow a_level f_begun f_minute f_avalanches u a_covers a_routes a_longest a_steep a_laid a_far f_sight a_runs f_choir f_voices a_rest a_wins f_seed a_other a_kept H) (mA q)) args s 0 0 (mA q)) (F0 m 56 ls []))
    (hP194 : ∀ (x5 : Int32) (a_run : Nat → Int32) (H : Heap) (locs : List Loc) (ls : Array Slot), P194 x5 a_run → lv_has ls 8 [(0, .ref q), (3, .int x3), (4, .int x4), (5, .int x5)] → mW E q f_code a_tape a_size a_fault a_faultPlace a_many a_lands a_evenings a_sights a_choirs f_reached f_length f_begins f_sort f_value f_word f_wrongAt f_laterFault f_laterPlace a_told a_read f_farHut f_farSinger f_good f_land f_huts f_singers f_evening a_at a_knows a_climbed a_snow a_level f_begun f_minute f_avalanches a_run a_covers a_routes a_longest a_steep a_laid a_far f_sight a_runs f_choir f_voices a_rest a_wins f_seed a_other a_kept H → va_S (mA q) s.heap H locs → W p l e rm_m_findRun s m args below meth c H locs 0 0 (MQ below (zQv (S := (Nat → Int32)) (fun u => post u) (fun u H => mW E q f_code a_tape a_size a_fault a_faultPlace a_many a_lands a_evenings a_sights a_choirs f_reached f_length f_begins f_sort f_value f_word f_wrongAt f_laterFault f_laterPlace a_told a_read f_farHut f_farSinger f_good f_land f_huts f_singers f_evening a_at a_knows a_climbed a_snow a_level f_begun f_minute f_avalanches u a_covers a_routes a_longest a_steep a_laid a_far f_sight a_runs f_choir f_voices a_rest a_wins f_seed a_other a_kept H) (mA q)) args s 0 0 (mA q)) (F0 m 194 ls []))
    (hl : lv_has ls 8 [(0, .ref q), (3, .int x3), (4, .int x4), (5, .int x5)])
    (hw : q_m_findRun_270 P56 P194 a_lands f_land f_huts a_run x3 x4 x5 y0 y1 post) :
    W p l e rm_m_findRun s m args below meth c H locs 0 0 (MQ below (zQv (S := (Nat → Int32)) (fun u => post u) (fun u H => mW E q f_code a_tape a_size a_fault a_faultPlace a_many a_lands a_evenings a_sights a_choirs f_reached f_length f_begins f_sort f_value f_word f_wrongAt f_laterFault f_laterPlace a_told a_read f_farHut f_farSinger f_good f_land f_huts f_singers f_evening a_at a_knows a_climbed a_snow a_level f_begun f_minute f_avalanches u a_covers a_routes a_longest a_steep a_laid a_far f_sight a_runs f_choir f_voices a_rest a_wins f_seed a_other a_kept H) (mA q)) args s 0 0 (mA q)) (F0 m 270 ls [.int y1, .int y0, .ref (q + 17)]) := by
  have hx := zc.1
  have hb := zc.2.1
  refine mst_17 zc hK hM hS hw.1 dX11_findRun_270 (fun a_run_1 H locs ea_run_1 hM hS => ?_)
  have hw := hw.2 a_run_1 ea_run_1
  obtain ⟨v_1, ev_1⟩ : ∃ y : Int32, y = x5 + (1 : Int32) := ⟨_, rfl⟩
  have hw := hw v_1 ev_1
  refine lv_iinc (v := v_1) (k := 3) (lv' := [(5, .int v_1), (0, .ref q), (3, .int x3), (4, .int x4)]) hx hb dX11_findRun_271 hl rfl (by rw [ev_1]; rfl) (by decide) rfl (fun ls hl => ?_)
  refine lv_goto (tgt := 194) hx hb dX11_findRun_274 (by decide) ?_
  exact hP194 _ _ _ _ _ hw (lv_sub hl [1, 2, 3, 0] rfl) hM hS
set_option maxRecDepth 20000 in
theorem t_m_findRun_194 {p : Program} {l : Launch} {e : Env} {s : State} {m : MethodId} {args : Array Value} {below : List Frame} {meth : Method} {c : Code} {E : zE} {q : Nat} {f_code : Int32} {a_tape : Nat → Int32} {a_size : Nat → Int32} {a_fault : Nat → Int32} {a_faultPlace : Nat → Int32} {a_many : Nat → Int32} {a_lands : Nat → Int32} {a_evenings : Nat → Int32} {a_sights : Nat → Int32} {a_choirs : Nat → Int32} {f_reached : Int32} {f_length : Int32} {f_begins : Int32} {f_sort : Int32} {f_value : Int32} {f_word : Int64} {f_wrongAt : Int32} {f_laterFault : Int32} {f_laterPlace : Int32} {a_told : Nat → Int32} {a_read : Nat → Int32} {f_farHut : Int32} {f_farSinger : Int32} {f_good : Int32} {f_land : Int32} {f_huts : Int32} {f_singers : Int32} {f_evening : Int32} {a_at : Nat → Int32} {a_knows : Nat → Int32} {a_climbed : Nat → Int32} {a_snow : Nat → Int32} {a_level : Nat → Int32} {f_begun : Int32} {f_minute : Int32} {f_avalanches : Int32} {a_run : Nat → Int32} {a_covers : Nat → Int32} {a_routes : Nat → Int32} {a_longest : Nat → Int32} {a_steep : Nat → Int32} {a_laid : Nat → Int32} {a_far : Nat → Int32} {f_sight : Int32} {a_runs : Nat → Int32} {f_choir : Int32} {f_voices : Int32} {a_rest : Nat → Int64} {a_wins : Nat → Int32} {f_seed : Int32} {a_other : Nat → Int32} {a_kept : Nat → Int32} {P56 : Int32 → (Nat → Int32) → Prop} {post : (Nat → Int32) → Prop} {x3 : Int32} {x4 : Int32} {x5 : Int32} {ls : Array Slot} {H : Heap} {locs : List Loc}
    (zc : zC p s m args meth c cX11_findRun 8 RX11 none)
    (hK : zK E s)
    (hM : mW E q f_code a_tape a_size a_fault a_faultPlace a_many a_lands a_evenings a_sights a_choirs f_reached f_length f_begins f_sort f_value f_word f_wrongAt f_laterFault f_laterPlace a_told a_read f_farHut f_farSinger f_good f_land f_huts f_singers f_evening a_at a_knows a_climbed a_snow a_level f_begun f_minute f_avalanches a_run a_covers a_routes a_longest a_steep a_laid a_far f_sight a_runs f_choir f_voices a_rest a_wins f_seed a_other a_kept H)
    (hS : va_S (mA q) s.heap H locs)
    (hP56 : ∀ (x4 : Int32) (a_run : Nat → Int32) (H : Heap) (locs : List Loc) (ls : Array Slot), P56 x4 a_run → lv_has ls 8 [(0, .ref q), (3, .int x3), (4, .int x4)] → mW E q f_code a_tape a_size a_fault a_faultPlace a_many a_lands a_evenings a_sights a_choirs f_reached f_length f_begins f_sort f_value f_word f_wrongAt f_laterFault f_laterPlace a_told a_read f_farHut f_farSinger f_good f_land f_huts f_singers f_evening a_at a_knows a_climbed a_snow a_level f_begun f_minute f_avalanches a_run a_covers a_routes a_longest a_steep a_laid a_far f_sight a_runs f_choir f_voices a_rest a_wins f_seed a_other a_kept H → va_S (mA q) s.heap H locs → W p l e rm_m_findRun s m args below meth c H locs 0 0 (MQ below (zQv (S := (Nat → Int32)) (fun u => post u) (fun u H => mW E q f_code a_tape a_size a_fault a_faultPlace a_many a_lands a_evenings a_sights a_choirs f_reached f_length f_begins f_sort f_value f_word f_wrongAt f_laterFault f_laterPlace a_told a_read f_farHut f_farSinger f_good f_land f_huts f_singers f_evening a_at a_knows a_climbed a_snow a_level f_begun f_minute f_avalanches u a_covers a_routes a_longest a_steep a_laid a_far f_sight a_runs f_choir f_voices a_rest a_wins f_seed a_other a_kept H) (mA q)) args s 0 0 (mA q)) (F0 m 56 ls []))
    (hl : lv_has ls 8 [(0, .ref q), (3, .int x3), (4, .int x4), (5, .int x5)])
    (hw : q_m_findRun_194 P56 a_lands f_land f_huts a_run x3 x4 x5 post) :
    W p l e rm_m_findRun s m args below meth c H locs 0 0 (MQ below (zQv (S := (Nat → Int32)) (fun u => post u) (fun u H => mW E q f_code a_tape a_size a_fault a_faultPlace a_many a_lands a_evenings a_sights a_choirs f_reached f_length f_begins f_sort f_value f_word f_wrongAt f_laterFault f_laterPlace a_told a_read f_farHut f_farSinger f_good f_land f_huts f_singers f_evening a_at a_knows a_climbed a_snow a_level f_begun f_minute f_avalanches u a_covers a_routes a_longest a_steep a_laid a_far f_sight a_runs f_choir f_voices a_rest a_wins f_seed a_other a_kept H) (mA q)) args s 0 0 (mA q)) (F0 m 194 ls []) := by
  have hx := zc.1
  have hb := zc.2.1
  refine hw (fun x5 a_run => ∀ (H : Heap) (locs : List Loc) (ls : Array Slot), lv_has ls 8 [(0, .ref q), (3, .int x3), (4, .int x4), (5, .int x5)] → mW E q f_code a_tape a_size a_fault a_faultPlace a_many a_lands a_evenings a_sights a_choirs f_reached f_length f_begins f_sort f_value f_word f_wrongAt f_laterFault f_laterPlace a_told a_read f_farHut f_farSinger f_good f_land f_huts f_singers f_evening a_at a_knows a_climbed a_snow a_level f_begun f_minute f_avalanches a_run a_covers a_routes a_longest a_steep a_laid a_far f_sight a_runs f_choir f_voices a_rest a_wins f_seed a_other a_kept H → va_S (mA q) s.heap H locs → W p l e rm_m_findRun s m args below meth c H locs 0 0 (MQ below (zQv (S := (Nat → Int32)) (fun u => post u) (fun u H => mW E q f_code a_tape a_size a_fault a_faultPlace a_many a_lands a_evenings a_sights a_choirs f_reached f_length f_begins f_sort f_value f_word f_wrongAt f_laterFault f_laterPlace a_told a_read f_farHut f_farSinger f_good f_land f_huts f_singers f_evening a_at a_knows a_climbed a_snow a_level f_begun f_minute f_avalanches u a_covers a_routes a_longest a_steep a_laid a_far f_sight a_runs f_choir f_voices a_rest a_wins f_seed a_other a_kept H) (mA q)) args s 0 0 (mA q)) (F0 m 194 ls [])) ?_ _ _ _ hl hM hS
  intro x5 a_run hw H locs ls hl hM hS
  refine lv_iload hx hb dX11_findRun_194 (lv_at hl 3 rfl) ?_
  refine lv_aload_n hx hb dX11_findRun_196 rfl (lv_at hl 0 rfl) ?_
  refine lv_iconst (v := (4 : Int32)) hx hb dX11_findRun_197 (by decide) ?_
  refine zV_i [.int (4 : Int32)] [.int x5] zc ky_X11_of kz_X11_of km_11_303 (c_m_of l hw) (mPreV0 hK hM) rfl rfl hl.1 (Nat.le_of_ble_eq_true rfl) ⟨rfl, rfl⟩ ⟨Nat.le_of_ble_eq_true rfl, Nat.le_of_ble_eq_true rfl⟩ ⟨(Nat.zero_le _), (Nat.zero_le _)⟩ dX11_findRun_198 (fun r_1 hw => ?_)
  refine lv_icmp_ge (tgt := 277) hx hb dX11_findRun_201 (by decide) (fun hc => ?_) (fun hc => ?_)
  · have hw := hw.1 hc
    obtain ⟨v_1, ev_1⟩ : ∃ y : Int32, y = x4 + (1 : Int32) := ⟨_, rfl⟩
    have hw := hw v_1 ev_1
    refine lv_iinc (v := v_1) (k := 2) (lv' := [(4, .int v_1), (0, .ref q), (3, .int x3), (5, .int x5)]) hx hb dX11_findRun_277 hl rfl (by rw [ev_1]; rfl) (by decide) rfl (fun ls hl => ?_)
    refine lv_goto (tgt := 56) hx hb dX11_findRun_280 (by decide) ?_
    exact hP56 _ _ _ _ _ hw (lv_sub hl [1, 2, 0] rfl) hM hS
  · have hw := hw.2 hc
    refine lv_aload_n hx hb dX11_findRun_204 rfl (lv_at hl 0 rfl) ?_
    refine lv_bipush (v := (43 : Int32)) hx hb dX11_findRun_205 (by decide) ?_
    refine lv_iconst (v := (2 : Int32)) hx hb dX11_findRun_207 (by decide) ?_
    refine lv_iload hx hb dX11_findRun_208 (lv_at hl 3 rfl) ?_
    refine lv_imul hx hb dX11_findRun_210 ?_
    refine lv_iadd hx hb dX11_findRun_211 ?_
    refine lv_iconst (v := (1 : Int32)) hx hb dX11_findRun_212 (by decide) ?_
    refine lv_iadd hx hb dX11_findRun_213 ?_
    refine zV_i [.int (((43 : Int32) + ((2 : Int32) * x5)) + (1 : Int32))] [] zc ky_X11_of kz_X11_of km_11_303 (c_m_of l hw) (mPreV0 hK hM) rfl rfl hl.1 (Nat.le_of_ble_eq_true rfl) ⟨rfl, rfl⟩ ⟨Nat.le_of_ble_eq_true rfl, Nat.le_of_ble_eq_true rfl⟩ ⟨(Nat.zero_le _), (Nat.zero_le _)⟩ dX11_findRun_214 (fun r_2 hw => ?_)
    refine lv_istore (lv' := [(6, .int r_2), (0, .ref q), (3, .int x3), (4, .int x4), (5, .int x5)]) hx hb dX11_findRun_217 hl (by decide) rfl (fun ls hl => ?_)
    refine lv_aload_n hx hb dX11_findRun_219 rfl (lv_at hl 1 rfl) ?_
    refine mg_11_59_0 zc hK hM dX11_findRun_220 ?_
    refine lv_iload hx hb dX11_findRun_223 (lv_at hl 0 rfl) ?_
    refine lv_iload_n hx hb dX11_findRun_225 rfl (lv_at hl 2 rfl) ?_
    refine lv_iload hx hb dX11_findRun_226 (lv_at hl 0 rfl) ?_
    refine zS_i [.int x3, .int r_2] [.int r_2, .ref (q + 17)] zc ky_X11_has kz_X11_has km_11_101 (c_m_has l hw) (zPre0 _) rfl rfl hl.1 (Nat.le_of_ble_eq_true rfl) ⟨rfl, rfl⟩ ⟨Nat.le_of_ble_eq_true rfl, Nat.le_of_ble_eq_true rfl⟩ ⟨(Nat.zero_le _), (Nat.zero_le _)⟩ dX11_findRun_228 (fun r_3 hw => ?_)
    refine lv_if_eq (tgt := 244) hx hb dX11_findRun_231 (by decide) (fun hc => ?_) (fun hc => ?_)
    · have hw := hw.1 hc
      refine lv_aload_n hx hb dX11_findRun_244 rfl (lv_at hl 1 rfl) ?_
      refine mg_11_59_0 zc hK hM dX11_findRun_245 ?_
      refine lv_iload hx hb dX11_findRun_248 (lv_at hl 0 rfl) ?_
      refine mld_17 zc hK hM hw.1 dX11_findRun_250 ?_
      have hw := hw.2
      refine lv_aload_n hx hb dX11_findRun_251 rfl (lv_at hl 1 rfl) ?_
      refine mg_11_59_0 zc hK hM dX11_findRun_252 ?_
      refine lv_aload_n hx hb dX11_findRun_255 rfl (lv_at hl 1 rfl) ?_
      refine lv_bipush (v := (43 : Int32)) hx hb dX11_findRun_256 (by decide) ?_
      refine lv_iconst (v := (2 : Int32)) hx hb dX11_findRun_258 (by decide) ?_
      refine lv_iload hx hb dX11_findRun_259 (lv_at hl 4 rfl) ?_
      refine lv_imul hx hb dX11_findRun_261 ?_
      refine lv_iadd hx hb dX11_findRun_262 ?_
      refine zV_i [.int ((43 : Int32) + ((2 : Int32) * x5))] [.ref (q + 17), .int (a_run (Int32.toNatClampNeg r_2)), .int r_2, .ref (q + 17)] zc ky_X11_of kz_X11_of km_11_303 (c_m_of l hw) (mPreV0 hK hM) rfl rfl hl.1 (Nat.le_of_ble_eq_true rfl) ⟨rfl, rfl⟩ ⟨Nat.le_of_ble_eq_true rfl, Nat.le_of_ble_eq_true rfl⟩ ⟨(Nat.zero_le _), (Nat.zero_le _)⟩ dX11_findRun_263 (fun r_4 hw => ?_)
      refine mld_17 zc hK hM hw.1 dX11_findRun_266 ?_
      have hw := hw.2
      refine zS_i [.int (a_run (Int32.toNatClampNeg r_2)), .int (a_run (Int32.toNatClampNeg r_4))] [.int r_2, .ref (q + 17)] zc ky_X11_lesser kz_X11_lesser km_11_411 (c_m_lesser l hw) (zPre0 _) rfl rfl hl.1 (Nat.le_of_ble_eq_true rfl) ⟨rfl, rfl⟩ ⟨Nat.le_of_ble_eq_true rfl, Nat.le_of_ble_eq_true rfl⟩ ⟨(Nat.zero_le _), (Nat.zero_le _)⟩ dX11_findRun_267 (fun r_5 hw => ?_)
      exact t_m_findRun_270 zc hK hM hS hP56 (fun _ _ H locs ls h hl hM hS => h H locs ls hl hM hS) (lv_sub hl [1, 2, 3, 4] rfl) hw
    · have hw := hw.2 hc
      refine lv_aload_n hx hb dX11_findRun_234 rfl (lv_at hl 1 rfl) ?_
      refine mg_11_59_0 zc hK hM dX11_findRun_235 ?_
      refine lv_iload hx hb dX11_findRun_238 (lv_at hl 0 rfl) ?_
      refine mld_17 zc hK hM hw.1 dX11_findRun_240 ?_
      have hw := hw.2
      refine lv_goto (tgt := 270) hx hb dX11_findRun_241 (by decide) ?_
      exact t_m_findRun_270 zc hK hM hS hP56 (fun _ _ H locs ls h hl hM hS => h H locs ls hl hM hS) (lv_sub hl [1, 2, 3, 4] rfl) hw
set_option maxRecDepth 20000 in
theorem t_m_findRun_178 {p : Program} {l : Launch} {e : Env} {s : State} {m : MethodId} {args : Array Value} {below : List Frame} {meth : Method} {c : Code} {E : zE} {q : Nat} {f_code : Int32} {a_tape : Nat → Int32} {a_size : Nat → Int32} {a_fault : Nat → Int32} {a_faultPlace : Nat → Int32} {a_many : Nat → Int32} {a_lands : Nat → Int32} {a_evenings : Nat → Int32} {a_sights : Nat → Int32} {a_choirs : Nat → Int32} {f_reached : Int32} {f_length : Int32} {f_begins : Int32} {f_sort : Int32} {f_value : Int32} {f_word : Int64} {f_wrongAt : Int32} {f_laterFault : Int32} {f_laterPlace : Int32} {a_told : Nat → Int32} {a_read : Nat → Int32} {f_farHut : Int32} {f_farSinger : Int32} {f_good : Int32} {f_land : Int32} {f_huts : Int32} {f_singers : Int32} {f_evening : Int32} {a_at : Nat → Int32} {a_knows : Nat → Int32} {a_climbed : Nat → Int32} {a_snow : Nat → Int32} {a_level : Nat → Int32} {f_begun : Int32} {f_minute : Int32} {f_avalanches : Int32} {a_run : Nat → Int32} {a_covers : Nat → Int32} {a_routes : Nat → Int32} {a_longest : Nat → Int32} {a_steep : Nat → Int32} {a_laid : Nat → Int32} {a_far : Nat → Int32} {f_sight : Int32} {a_runs : Nat → Int32} {f_choir : Int32} {f_voices : Int32} {a_rest : Nat → Int64} {a_wins : Nat → Int32} {f_seed : Int32} {a_other : Nat → Int32} {a_kept : Nat → Int32} {P56 : Int32 → (Nat → Int32) → Prop} {P68 : Int32 → (Nat → Int32) → Prop} {P80 : Int32 → (Nat → Int32) → Prop} {post : (Nat → Int32) → Prop} {x3 : Int32} {x4 : Int32} {x5 : Int32} {x6 : Int32} {y0 : Int32} {y1 : Int32} {ls : Array Slot} {H : Heap} {locs : List Loc}
    (zc : zC p s m args meth c cX11_findRun 8 RX11 none)
    (hK : zK E s)
    (hM : mW E q f_code a_tape a_size a_fault a_faultPlace a_many a_lands a_evenings a_sights a_choirs f_reached f_length f_begins f_sort f_value f_word f_wrongAt f_laterFault f_laterPlace a_told a_read f_farHut f_farSinger f_good f_land f_huts f_singers f_evening a_at a_knows a_climbed a_snow a_level f_begun f_minute f_avalanches a_run a_covers a_routes a_longest a_steep a_laid a_far f_sight a_runs f_choir f_voices a_rest a_wins f_seed a_other a_kept H)
    (hS : va_S (mA q) s.heap H locs)
    (hP56 : ∀ (x4 : Int32) (a_run : Nat → Int32) (H : Heap) (locs : List Loc) (ls : Array Slot), P56 x4 a_run → lv_has ls 8 [(0, .ref q), (3, .int x3), (4, .int x4)] → mW E q f_code a_tape a_size a_fault a_faultPlace a_many a_lands a_evenings a_sights a_choirs f_reached f_length f_begins f_sort f_value f_word f_wrongAt f_laterFault f_laterPlace a_told a_read f_farHut f_farSinger f_good f_land f_huts f_singers f_evening a_at a_knows a_climbed a_snow a_level f_begun f_minute f_avalanches a_run a_covers a_routes a_longest a_steep a_laid a_far f_sight a_runs f_choir f_voices a_rest a_wins f_seed a_other a_kept H → va_S (mA q) s.heap H locs → W p l e rm_m_findRun s m args below meth c H locs 0 0 (MQ below (zQv (S := (Nat → Int32)) (fun u => post u) (fun u H => mW E q f_code a_tape a_size a_fault a_faultPlace a_many a_lands a_evenings a_sights a_choirs f_reached f_length f_begins f_sort f_value f_word f_wrongAt f_laterFault f_laterPlace a_told a_read f_farHut f_farSinger f_good f_land f_huts f_singers f_evening a_at a_knows a_climbed a_snow a_level f_begun f_minute f_avalanches u a_covers a_routes a_longest a_steep a_laid a_far f_sight a_runs f_choir f_voices a_rest a_wins f_seed a_other a_kept H) (mA q)) args s 0 0 (mA q)) (F0 m 56 ls []))
    (hP68 : ∀ (x5 : Int32) (a_run : Nat → Int32) (H : Heap) (locs : List Loc) (ls : Array Slot), P68 x5 a_run → lv_has ls 8 [(0, .ref q), (3, .int x3), (4, .int x4), (5, .int x5)] → mW E q f_code a_tape a_size a_fault a_faultPlace a_many a_lands a_evenings a_sights a_choirs f_reached f_length f_begins f_sort f_value f_word f_wrongAt f_laterFault f_laterPlace a_told a_read f_farHut f_farSinger f_good f_land f_huts f_singers f_evening a_at a_knows a_climbed a_snow a_level f_begun f_minute f_avalanches a_run a_covers a_routes a_longest a_steep a_laid a_far f_sight a_runs f_choir f_voices a_rest a_wins f_seed a_other a_kept H → va_S (mA q) s.heap H locs → W p l e rm_m_findRun s m args below meth c H locs 0 0 (MQ below (zQv (S := (Nat → Int32)) (fun u => post u) (fun u H => mW E q f_code a_tape a_size a_fault a_faultPlace a_many a_lands a_evenings a_sights a_choirs f_reached f_length f_begins f_sort f_value f_word f_wrongAt f_laterFault f_laterPlace a_told a_read f_farHut f_farSinger f_good f_land f_huts f_singers f_evening a_at a_knows a_climbed a_snow a_level f_begun f_minute f_avalanches u a_covers a_routes a_longest a_steep a_laid a_far f_sight a_runs f_choir f_voices a_rest a_wins f_seed a_other a_kept H) (mA q)) args s 0 0 (mA q)) (F0 m 68 ls []))
    (hP80 : ∀ (x6 : Int32) (a_run : Nat → Int32) (H : Heap) (locs : List Loc) (ls : Array Slot), P80 x6 a_run → lv_has ls 8 [(0, .ref q), (3, .int x3), (4, .int x4), (5, .int x5), (6, .int x6)] → mW E q f_code a_tape a_size a_fault a_faultPlace a_many a_lands a_evenings a_sights a_choirs f_reached f_length f_begins f_sort f_value f_word f_wrongAt f_laterFault f_laterPlace a_told a_read f_farHut f_farSinger f_good f_land f_huts f_singers f_evening a_at a_knows a_climbed a_snow a_level f_begun f_minute f_avalanches a_run a_covers a_routes a_longest a_steep a_laid a_far f_sight a_runs f_choir f_voices a_rest a_wins f_seed a_other a_kept H → va_S (mA q) s.heap H locs → W p l e rm_m_findRun s m args below meth c H locs 0 0 (MQ below (zQv (S := (Nat → Int32)) (fun u => post u) (fun u H => mW E q f_code a_tape a_size a_fault a_faultPlace a_many a_lands a_evenings a_sights a_choirs f_reached f_length f_begins f_sort f_value f_word f_wrongAt f_laterFault f_laterPlace a_told a_read f_farHut f_farSinger f_good f_land f_huts f_singers f_evening a_at a_knows a_climbed a_snow a_level f_begun f_minute f_avalanches u a_covers a_routes a_longest a_steep a_laid a_far f_sight a_runs f_choir f_voices a_rest a_wins f_seed a_other a_kept H) (mA q)) args s 0 0 (mA q)) (F0 m 80 ls []))
    (hl : lv_has ls 8 [(0, .ref q), (3, .int x3), (4, .int x4), (5, .int x5), (6, .int x6)])
    (hw : q_m_findRun_178 P56 P68 P80 a_lands f_land f_huts a_run x3 x4 x5 x6 y0 y1 post) :
    W p l e rm_m_findRun s m args below meth c H locs 0 0 (MQ below (zQv (S := (Nat → Int32)) (fun u => post u) (fun u H => mW E q f_code a_tape a_size a_fault a_faultPlace a_many a_lands a_evenings a_sights a_choirs f_reached f_length f_begins f_sort f_value f_word f_wrongAt f_laterFault f_laterPlace a_told a_read f_farHut f_farSinger f_good f_land f_huts f_singers f_evening a_at a_knows a_climbed a_snow a_level f_begun f_minute f_avalanches u a_covers a_routes a_longest a_steep a_laid a_far f_sight a_runs f_choir f_voices a_rest a_wins f_seed a_other a_kept H) (mA q)) args s 0 0 (mA q)) (F0 m 178 ls [.int y1, .int y0, .ref (q + 17)]) := by
  have hx := zc.1
  have hb := zc.2.1
  refine mst_17 zc hK hM hS hw.1 dX11_findRun_178 (fun a_run_1 H locs ea_run_1 hM hS => ?_)
  have hw := hw.2 a_run_1 ea_run_1
  obtain ⟨v_1, ev_1⟩ : ∃ y : Int32, y = x6 + (1 : Int32) := ⟨_, rfl⟩
  have hw := hw v_1 ev_1
  refine lv_iinc (v := v_1) (k := 4) (lv' := [(6, .int v_1), (0, .ref q), (3, .int x3), (4, .int x4), (5, .int x5)]) hx hb dX11_findRun_179 hl rfl (by rw [ev_1]; rfl) (by decide) rfl (fun ls hl => ?_)
  refine lv_goto (tgt := 80) hx hb dX11_findRun_182 (by decide) ?_
  exact hP80 _ _ _ _ _ hw (lv_sub hl [1, 2, 3, 4, 0] rfl) hM hS
set_option maxRecDepth 20000 in
theorem t_m_findRun_129 {p : Program} {l : Launch} {e : Env} {s : State} {m : MethodId} {args : Array Value} {below : List Frame} {meth : Method} {c : Code} {E : zE} {q : Nat} {f_code : Int32} {a_tape : Nat → Int32} {a_size : Nat → Int32} {a_fault : Nat → Int32} {a_faultPlace : Nat → Int32} {a_many : Nat → Int32} {a_lands : Nat → Int32} {a_evenings : Nat → Int32} {a_sights : Nat → Int32} {a_choirs : Nat → Int32} {f_reached : Int32} {f_length : Int32} {f_begins : Int32} {f_sort : Int32} {f_value : Int32} {f_word : Int64} {f_wrongAt : Int32} {f_laterFault : Int32} {f_laterPlace : Int32} {a_told : Nat → Int32} {a_read : Nat → Int32} {f_farHut : Int32} {f_farSinger : Int32} {f_good : Int32} {f_land : Int32} {f_huts : Int32} {f_singers : Int32} {f_evening : Int32} {a_at : Nat → Int32} {a_knows : Nat → Int32} {a_climbed : Nat → Int32} {a_snow : Nat → Int32} {a_level : Nat → Int32} {f_begun : Int32} {f_minute : Int32} {f_avalanches : Int32} {a_run : Nat → Int32} {a_covers : Nat → Int32} {a_routes : Nat → Int32} {a_longest : Nat → Int32} {a_steep : Nat → Int32} {a_laid : Nat → Int32} {a_far : Nat → Int32} {f_sight : Int32} {a_runs : Nat → Int32} {f_choir : Int32} {f_voices : Int32} {a_rest : Nat → Int64} {a_wins : Nat → Int32} {f_seed : Int32} {a_other : Nat → Int32} {a_kept : Nat → Int32} {P56 : Int32 → (Nat → Int32) → Prop} {P68 : Int32 → (Nat → Int32) → Prop} {P80 : Int32 → (Nat → Int32) → Prop} {post : (Nat → Int32) → Prop} {x3 : Int32} {x4 : Int32} {x5 : Int32} {x6 : Int32} {y0 : Int32} {ls : Array Slot} {H : Heap} {locs : List Loc}
    (zc : zC p s m args meth c cX11_findRun 8 RX11 none)
    (hK : zK E s)
    (hM : mW E q f_code a_tape a_size a_fault a_faultPlace a_many a_lands a_evenings a_sights a_choirs f_reached f_length f_begins f_sort f_value f_word f_wrongAt f_laterFault f_laterPlace a_told a_read f_farHut f_farSinger f_good f_land f_huts f_singers f_evening a_at a_knows a_climbed a_snow a_level f_begun f_minute f_avalanches a_run a_covers a_routes a_longest a_steep a_laid a_far f_sight a_runs f_choir f_voices a_rest a_wins f_seed a_other a_kept H)
    (hS : va_S (mA q) s.heap H locs)
    (hP56 : ∀ (x4 : Int32) (a_run : Nat → Int32) (H : Heap) (locs : List Loc) (ls : Array Slot), P56 x4 a_run → lv_has ls 8 [(0, .ref q), (3, .int x3), (4, .int x4)] → mW E q f_code a_tape a_size a_fault a_faultPlace a_many a_lands a_evenings a_sights a_choirs f_reached f_length f_begins f_sort f_value f_word f_wrongAt f_laterFault f_laterPlace a_told a_read f_farHut f_farSinger f_good f_land f_huts f_singers f_evening a_at a_knows a_climbed a_snow a_level f_begun f_minute f_avalanches a_run a_covers a_routes a_longest a_steep a_laid a_far f_sight a_runs f_choir f_voices a_rest a_wins f_seed a_other a_kept H → va_S (mA q) s.heap H locs → W p l e rm_m_findRun s m args below meth c H locs 0 0 (MQ below (zQv (S := (Nat → Int32)) (fun u => post u) (fun u H => mW E q f_code a_tape a_size a_fault a_faultPlace a_many a_lands a_evenings a_sights a_choirs f_reached f_length f_begins f_sort f_value f_word f_wrongAt f_laterFault f_laterPlace a_told a_read f_farHut f_farSinger f_good f_land f_huts f_singers f_evening a_at a_knows a_climbed a_snow a_level f_begun f_minute f_avalanches u a_covers a_routes a_longest a_steep a_laid a_far f_sight a_runs f_choir f_voices a_rest a_wins f_seed a_other a_kept H) (mA q)) args s 0 0 (mA q)) (F0 m 56 ls []))
    (hP68 : ∀ (x5 : Int32) (a_run : Nat → Int32) (H : Heap) (locs : List Loc) (ls : Array Slot), P68 x5 a_run → lv_has ls 8 [(0, .ref q), (3, .int x3), (4, .int x4), (5, .int x5)] → mW E q f_code a_tape a_size a_fault a_faultPlace a_many a_lands a_evenings a_sights a_choirs f_reached f_length f_begins f_sort f_value f_word f_wrongAt f_laterFault f_laterPlace a_told a_read f_farHut f_farSinger f_good f_land f_huts f_singers f_evening a_at a_knows a_climbed a_snow a_level f_begun f_minute f_avalanches a_run a_covers a_routes a_longest a_steep a_laid a_far f_sight a_runs f_choir f_voices a_rest a_wins f_seed a_other a_kept H → va_S (mA q) s.heap H locs → W p l e rm_m_findRun s m args below meth c H locs 0 0 (MQ below (zQv (S := (Nat → Int32)) (fun u => post u) (fun u H => mW E q f_code a_tape a_size a_fault a_faultPlace a_many a_lands a_evenings a_sights a_choirs f_reached f_length f_begins f_sort f_value f_word f_wrongAt f_laterFault f_laterPlace a_told a_read f_farHut f_farSinger f_good f_land f_huts f_singers f_evening a_at a_knows a_climbed a_snow a_level f_begun f_minute f_avalanches u a_covers a_routes a_longest a_steep a_laid a_far f_sight a_runs f_choir f_voices a_rest a_wins f_seed a_other a_kept H) (mA q)) args s 0 0 (mA q)) (F0 m 68 ls []))
    (hP80 : ∀ (x6 : Int32) (a_run : Nat → Int32) (H : Heap) (locs : List Loc) (ls : Array Slot), P80 x6 a_run → lv_has ls 8 [(0, .ref q), (3, .int x3), (4, .int x4), (5, .int x5), (6, .int x6)] → mW E q f_code a_tape a_size a_fault a_faultPlace a_many a_lands a_evenings a_sights a_choirs f_reached f_length f_begins f_sort f_value f_word f_wrongAt f_laterFault f_laterPlace a_told a_read f_farHut f_farSinger f_good f_land f_huts f_singers f_evening a_at a_knows a_climbed a_snow a_level f_begun f_minute f_avalanches a_run a_covers a_routes a_longest a_steep a_laid a_far f_sight a_runs f_choir f_voices a_rest a_wins f_seed a_other a_kept H → va_S (mA q) s.heap H locs → W p l e rm_m_findRun s m args below meth c H locs 0 0 (MQ below (zQv (S := (Nat → Int32)) (fun u => post u) (fun u H => mW E q f_code a_tape a_size a_fault a_faultPlace a_many a_lands a_evenings a_sights a_choirs f_reached f_length f_begins f_sort f_value f_word f_wrongAt f_laterFault f_laterPlace a_told a_read f_farHut f_farSinger f_good f_land f_huts f_singers f_evening a_at a_knows a_climbed a_snow a_level f_begun f_minute f_avalanches u a_covers a_routes a_longest a_steep a_laid a_far f_sight a_runs f_choir f_voices a_rest a_wins f_seed a_other a_kept H) (mA q)) args s 0 0 (mA q)) (F0 m 80 ls []))
    (hl : lv_has ls 8 [(0, .ref q), (3, .int x3), (4, .int x4), (5, .int x5), (6, .int x6)])
    (hw : q_m_findRun_129 P56 P68 P80 a_lands f_land f_huts a_run x3 x4 x5 x6 y0 post) :
    W p l e rm_m_findRun s m args below meth c H locs 0 0 (MQ below (zQv (S := (Nat → Int32)) (fun u => post u) (fun u H => mW E q f_code a_tape a_size a_fault a_faultPlace a_many a_lands a_evenings a_sights a_choirs f_reached f_length f_begins f_sort f_value f_word f_wrongAt f_laterFault f_laterPlace a_told a_read f_farHut f_farSinger f_good f_land f_huts f_singers f_evening a_at a_knows a_climbed a_snow a_level f_begun f_minute f_avalanches u a_covers a_routes a_longest a_steep a_laid a_far f_sight a_runs f_choir f_voices a_rest a_wins f_seed a_other a_kept H) (mA q)) args s 0 0 (mA q)) (F0 m 129 ls [.int y0]) := by
  have hx := zc.1
  have hb := zc.2.1
  refine lv_istore (lv' := [(7, .int y0), (0, .ref q), (3, .int x3), (4, .int x4), (5, .int x5), (6, .int x6)]) hx hb dX11_findRun_129 hl (by decide) rfl (fun ls hl => ?_)
  refine lv_aload_n hx hb dX11_findRun_131 rfl (lv_at hl 1 rfl) ?_
  refine mg_11_59_0 zc hK hM dX11_findRun_132 ?_
  refine lv_iload hx hb dX11_findRun_135 (lv_at hl 5 rfl) ?_
  refine lv_iload hx hb dX11_findRun_137 (lv_at hl 0 rfl) ?_
  refine lv_if_eq (tgt := 171) hx hb dX11_findRun_139 (by decide) (fun hc => ?_) (fun hc => ?_)
  · have hw := hw.1 hc
    refine lv_aload_n hx hb dX11_findRun_171 rfl (lv_at hl 1 rfl) ?_
    refine mg_11_59_0 zc hK hM dX11_findRun_172 ?_
    refine lv_iload hx hb dX11_findRun_175 (lv_at hl 5 rfl) ?_
    refine mld_17 zc hK hM hw.1 dX11_findRun_177 ?_
    have hw := hw.2
    exact t_m_findRun_178 zc hK hM hS hP56 hP68 hP80 (lv_sub hl [1, 2, 3, 4, 5] rfl) hw
  · have hw := hw.2 hc
    refine lv_aload_n hx hb dX11_findRun_142 rfl (lv_at hl 1 rfl) ?_
    refine mg_11_59_0 zc hK hM dX11_findRun_143 ?_
    refine lv_iload hx hb dX11_findRun_146 (lv_at hl 5 rfl) ?_
    refine mld_17 zc hK hM hw.1 dX11_findRun_148 ?_
    have hw := hw.2
    refine lv_aload_n hx hb dX11_findRun_149 rfl (lv_at hl 1 rfl) ?_
    refine mg_11_59_0 zc hK hM dX11_findRun_150 ?_
    refine lv_iload hx hb dX11_findRun_153 (lv_at hl 4 rfl) ?_
    refine mld_17 zc hK hM hw.1 dX11_findRun_155 ?_
    have hw := hw.2
    refine lv_aload_n hx hb dX11_findRun_156 rfl (lv_at hl 1 rfl) ?_
    refine lv_iload hx hb dX11_findRun_157 (lv_at hl 4 rfl) ?_
    refine lv_iload hx hb dX11_findRun_159 (lv_at hl 5 rfl) ?_
    refine zV_i [.int x5, .int x6] [.int (a_run (Int32.toNatClampNeg x5)), .int (a_run (Int32.toNatClampNeg x6)), .int x6, .ref (q + 17)] zc ky_X11_way kz_X11_way km_11_319 (c_m_way l hw) (mPreV0 hK hM) rfl rfl hl.1 (Nat.le_of_ble_eq_true rfl) ⟨rfl, rfl⟩ ⟨Nat.le_of_ble_eq_true rfl, Nat.le_of_ble_eq_true rfl⟩ ⟨(Nat.zero_le _), (Nat.zero_le _)⟩ dX11_findRun_161 (fun r_1 hw => ?_)
    refine lv_iadd hx hb dX11_findRun_164 ?_
    refine zS_i [.int (a_run (Int32.toNatClampNeg x6)), .int ((a_run (Int32.toNatClampNeg x5)) + r_1)] [.int x6, .ref (q + 17)] zc ky_X11_lesser kz_X11_lesser km_11_411 (c_m_lesser l hw) (zPre0 _) rfl rfl hl.1 (Nat.le_of_ble_eq_true rfl) ⟨rfl, rfl⟩ ⟨Nat.le_of_ble_eq_true rfl, Nat.le_of_ble_eq_true rfl⟩ ⟨(Nat.zero_le _), (Nat.zero_le _)⟩ dX11_findRun_165 (fun r_2 hw => ?_)
    refine lv_goto (tgt := 178) hx hb dX11_findRun_168 (by decide) ?_
    exact t_m_findRun_178 zc hK hM hS hP56 hP68 hP80 (lv_sub hl [1, 2, 3, 4, 5] rfl) hw
set_option maxRecDepth 20000 in
theorem t_m_findRun_128 {p : Program} {l : Launch} {e : Env} {s : State} {m : MethodId} {args : Array Value} {below : List Frame} {meth : Method} {c : Code} {E : zE} {q : Nat} {f_code : Int32} {a_tape : Nat → Int32} {a_size : Nat → Int32} {a_fault : Nat → Int32} {a_faultPlace : Nat → Int32} {a_many : Nat → Int32} {a_lands : Nat → Int32} {a_evenings : Nat → Int32} {a_sights : Nat → Int32} {a_choirs : Nat → Int32} {f_reached : Int32} {f_length : Int32} {f_begins : Int32} {f_sort : Int32} {f_value : Int32} {f_word : Int64} {f_wrongAt : Int32} {f_laterFault : Int32} {f_laterPlace : Int32} {a_told : Nat → Int32} {a_read : Nat → Int32} {f_farHut : Int32} {f_farSinger : Int32} {f_good : Int32} {f_land : Int32} {f_huts : Int32} {f_singers : Int32} {f_evening : Int32} {a_at : Nat → Int32} {a_knows : Nat → Int32} {a_climbed : Nat → Int32} {a_snow : Nat → Int32} {a_level : Nat → Int32} {f_begun : Int32} {f_minute : Int32} {f_avalanches : Int32} {a_run : Nat → Int32} {a_covers : Nat → Int32} {a_routes : Nat → Int32} {a_longest : Nat → Int32} {a_steep : Nat → Int32} {a_laid : Nat → Int32} {a_far : Nat → Int32} {f_sight : Int32} {a_runs : Nat → Int32} {f_choir : Int32} {f_voices : Int32} {a_rest : Nat → Int64} {a_wins : Nat → Int32} {f_seed : Int32} {a_other : Nat → Int32} {a_kept : Nat → Int32} {P56 : Int32 → (Nat → Int32) → Prop} {P68 : Int32 → (Nat → Int32) → Prop} {P80 : Int32 → (Nat → Int32) → Prop} {post : (Nat → Int32) → Prop} {x3 : Int32} {x4 : Int32} {x5 : Int32} {x6 : Int32} {ls : Array Slot} {H : Heap} {locs : List Loc}
    (zc : zC p s m args meth c cX11_findRun 8 RX11 none)
    (hK : zK E s)
    (hM : mW E q f_code a_tape a_size a_fault a_faultPlace a_many a_lands a_evenings a_sights a_choirs f_reached f_length f_begins f_sort f_value f_word f_wrongAt f_laterFault f_laterPlace a_told a_read f_farHut f_farSinger f_good f_land f_huts f_singers f_evening a_at a_knows a_climbed a_snow a_level f_begun f_minute f_avalanches a_run a_covers a_routes a_longest a_steep a_laid a_far f_sight a_runs f_choir f_voices a_rest a_wins f_seed a_other a_kept H)
    (hS : va_S (mA q) s.heap H locs)
    (hP56 : ∀ (x4 : Int32) (a_run : Nat → Int32) (H : Heap) (locs : List Loc) (ls : Array Slot), P56 x4 a_run → lv_has ls 8 [(0, .ref q), (3, .int x3), (4, .int x4)] → mW E q f_code a_tape a_size a_fault a_faultPlace a_many a_lands a_evenings a_sights a_choirs f_reached f_length f_begins f_sort f_value f_word f_wrongAt f_laterFault f_laterPlace a_told a_read f_farHut f_farSinger f_good f_land f_huts f_singers f_evening a_at a_knows a_climbed a_snow a_level f_begun f_minute f_avalanches a_run a_covers a_routes a_longest a_steep a_laid a_far f_sight a_runs f_choir f_voices a_rest a_wins f_seed a_other a_kept H → va_S (mA q) s.heap H locs → W p l e rm_m_findRun s m args below meth c H locs 0 0 (MQ below (zQv (S := (Nat → Int32)) (fun u => post u) (fun u H => mW E q f_code a_tape a_size a_fault a_faultPlace a_many a_lands a_evenings a_sights a_choirs f_reached f_length f_begins f_sort f_value f_word f_wrongAt f_laterFault f_laterPlace a_told a_read f_farHut f_farSinger f_good f_land f_huts f_singers f_evening a_at a_knows a_climbed a_snow a_level f_begun f_minute f_avalanches u a_covers a_routes a_longest a_steep a_laid a_far f_sight a_runs f_choir f_voices a_rest a_wins f_seed a_other a_kept H) (mA q)) args s 0 0 (mA q)) (F0 m 56 ls []))
    (hP68 : ∀ (x5 : Int32) (a_run : Nat → Int32) (H : Heap) (locs : List Loc) (ls : Array Slot), P68 x5 a_run → lv_has ls 8 [(0, .ref q), (3, .int x3), (4, .int x4), (5, .int x5)] → mW E q f_code a_tape a_size a_fault a_faultPlace a_many a_lands a_evenings a_sights a_choirs f_reached f_length f_begins f_sort f_value f_word f_wrongAt f_laterFault f_laterPlace a_told a_read f_farHut f_farSinger f_good f_land f_huts f_singers f_evening a_at a_knows a_climbed a_snow a_level f_begun f_minute f_avalanches a_run a_covers a_routes a_longest a_steep a_laid a_far f_sight a_runs f_choir f_voices a_rest a_wins f_seed a_other a_kept H → va_S (mA q) s.heap H locs → W p l e rm_m_findRun s m args below meth c H locs 0 0 (MQ below (zQv (S := (Nat → Int32)) (fun u => post u) (fun u H => mW E q f_code a_tape a_size a_fault a_faultPlace a_many a_lands a_evenings a_sights a_choirs f_reached f_length f_begins f_sort f_value f_word f_wrongAt f_laterFault f_laterPlace a_told a_read f_farHut f_farSinger f_good f_land f_huts f_singers f_evening a_at a_knows a_climbed a_snow a_level f_begun f_minute f_avalanches u a_covers a_routes a_longest a_steep a_laid a_far f_sight a_runs f_choir f_voices a_rest a_wins f_seed a_other a_kept H) (mA q)) args s 0 0 (mA q)) (F0 m 68 ls []))
    (hP80 : ∀ (x6 : Int32) (a_run : Nat → Int32) (H : Heap) (locs : List Loc) (ls : Array Slot), P80 x6 a_run → lv_has ls 8 [(0, .ref q), (3, .int x3), (4, .int x4), (5, .int x5), (6, .int x6)] → mW E q f_code a_tape a_size a_fault a_faultPlace a_many a_lands a_evenings a_sights a_choirs f_reached f_length f_begins f_sort f_value f_word f_wrongAt f_laterFault f_laterPlace a_told a_read f_farHut f_farSinger f_good f_land f_huts f_singers f_evening a_at a_knows a_climbed a_snow a_level f_begun f_minute f_avalanches a_run a_covers a_routes a_longest a_steep a_laid a_far f_sight a_runs f_choir f_voices a_rest a_wins f_seed a_other a_kept H → va_S (mA q) s.heap H locs → W p l e rm_m_findRun s m args below meth c H locs 0 0 (MQ below (zQv (S := (Nat → Int32)) (fun u => post u) (fun u H => mW E q f_code a_tape a_size a_fault a_faultPlace a_many a_lands a_evenings a_sights a_choirs f_reached f_length f_begins f_sort f_value f_word f_wrongAt f_laterFault f_laterPlace a_told a_read f_farHut f_farSinger f_good f_land f_huts f_singers f_evening a_at a_knows a_climbed a_snow a_level f_begun f_minute f_avalanches u a_covers a_routes a_longest a_steep a_laid a_far f_sight a_runs f_choir f_voices a_rest a_wins f_seed a_other a_kept H) (mA q)) args s 0 0 (mA q)) (F0 m 80 ls []))
    (hl : lv_has ls 8 [(0, .ref q), (3, .int x3), (4, .int x4), (5, .int x5), (6, .int x6)])
    (hw : q_m_findRun_128 P56 P68 P80 a_lands f_land f_huts a_run x3 x4 x5 x6 post) :
    W p l e rm_m_findRun s m args below meth c H locs 0 0 (MQ below (zQv (S := (Nat → Int32)) (fun u => post u) (fun u H => mW E q f_code a_tape a_size a_fault a_faultPlace a_many a_lands a_evenings a_sights a_choirs f_reached f_length f_begins f_sort f_value f_word f_wrongAt f_laterFault f_laterPlace a_told a_read f_farHut f_farSinger f_good f_land f_huts f_singers f_evening a_at a_knows a_climbed a_snow a_level f_begun f_minute f_avalanches u a_covers a_routes a_longest a_steep a_laid a_far f_sight a_runs f_choir f_voices a_rest a_wins f_seed a_other a_kept H) (mA q)) args s 0 0 (mA q)) (F0 m 128 ls []) := by
  have hx := zc.1
  have hb := zc.2.1
  refine lv_iconst (v := (0 : Int32)) hx hb dX11_findRun_128 (by decide) ?_
  exact t_m_findRun_129 zc hK hM hS hP56 hP68 hP80 (lv_sub hl [0, 1, 2, 3, 4] rfl) hw
set_option maxRecDepth 20000 in
theorem t_m_findRun_80 {p : Program} {l : Launch} {e : Env} {s : State} {m : MethodId} {args : Array Value} {below : List Frame} {meth : Method} {c : Code} {E : zE} {q : Nat} {f_code : Int32} {a_tape : Nat → Int32} {a_size : Nat → Int32} {a_fault : Nat → Int32} {a_faultPlace : Nat → Int32} {a_many : Nat → Int32} {a_lands : Nat → Int32} {a_evenings : Nat → Int32} {a_sights : Nat → Int32} {a_choirs : Nat → Int32} {f_reached : Int32} {f_length : Int32} {f_begins : Int32} {f_sort : Int32} {f_value : Int32} {f_word : Int64} {f_wrongAt : Int32} {f_laterFault : Int32} {f_laterPlace : Int32} {a_told : Nat → Int32} {a_read : Nat → Int32} {f_farHut : Int32} {f_farSinger : Int32} {f_good : Int32} {f_land : Int32} {f_huts : Int32} {f_singers : Int32} {f_evening : Int32} {a_at : Nat → Int32} {a_knows : Nat → Int32} {a_climbed : Nat → Int32} {a_snow : Nat → Int32} {a_level : Nat → Int32} {f_begun : Int32} {f_minute : Int32} {f_avalanches : Int32} {a_run : Nat → Int32} {a_covers : Nat → Int32} {a_routes : Nat → Int32} {a_longest : Nat → Int32} {a_steep : Nat → Int32} {a_laid : Nat → Int32} {a_far : Nat → Int32} {f_sight : Int32} {a_runs : Nat → Int32} {f_choir : Int32} {f_voices : Int32} {a_rest : Nat → Int64} {a_wins : Nat → Int32} {f_seed : Int32} {a_other : Nat → Int32} {a_kept : Nat → Int32} {P56 : Int32 → (Nat → Int32) → Prop} {P68 : Int32 → (Nat → Int32) → Prop} {post : (Nat → Int32) → Prop} {x3 : Int32} {x4 : Int32} {x5 : Int32} {x6 : Int32} {ls : Array Slot} {H : Heap} {locs : List Loc}
    (zc : zC p s m args meth c cX11_findRun 8 RX11 none)
    (hK : zK E s)
    (hM : mW E q f_code a_tape a_size a_fault a_faultPlace a_many a_lands a_evenings a_sights a_choirs f_reached f_length f_begins f_sort f_value f_word f_wrongAt f_laterFault f_laterPlace a_told a_read f_farHut f_farSinger f_good f_land f_huts f_singers f_evening a_at a_knows a_climbed a_snow a_level f_begun f_minute f_avalanches a_run a_covers a_routes a_longest a_steep a_laid a_far f_sight a_runs f_choir f_voices a_rest a_wins f_seed a_other a_kept H)
    (hS : va_S (mA q) s.heap H locs)
    (hP56 : ∀ (x4 : Int32) (a_run : Nat → Int32) (H : Heap) (locs : List Loc) (ls : Array Slot), P56 x4 a_run → lv_has ls 8 [(0, .ref q), (3, .int x3), (4, .int x4)] → mW E q f_code a_tape a_size a_fault a_faultPlace a_many a_lands a_evenings a_sights a_choirs f_reached f_length f_begins f_sort f_value f_word f_wrongAt f_laterFault f_laterPlace a_told a_read f_farHut f_farSinger f_good f_land f_huts f_singers f_evening a_at a_knows a_climbed a_snow a_level f_begun f_minute f_avalanches a_run a_covers a_routes a_longest a_steep a_laid a_far f_sight a_runs f_choir f_voices a_rest a_wins f_seed a_other a_kept H → va_S (mA q) s.heap H locs → W p l e rm_m_findRun s m args below meth c H locs 0 0 (MQ below (zQv (S := (Nat → Int32)) (fun u => post u) (fun u H => mW E q f_code a_tape a_size a_fault a_faultPlace a_many a_lands a_evenings a_sights a_choirs f_reached f_length f_begins f_sort f_value f_word f_wrongAt f_laterFault f_laterPlace a_told a_read f_farHut f_farSinger f_good f_land f_huts f_singers f_evening a_at a_knows a_climbed a_snow a_level f_begun f_minute f_avalanches u a_covers a_routes a_longest a_steep a_laid a_far f_sight a_runs f_choir f_voices a_rest a_wins f_seed a_other a_kept H) (mA q)) args s 0 0 (mA q)) (F0 m 56 ls []))
    (hP68 : ∀ (x5 : Int32) (a_run : Nat → Int32) (H : Heap) (locs : List Loc) (ls : Array Slot), P68 x5 a_run → lv_has ls 8 [(0, .ref q), (3, .int x3), (4, .int x4), (5, .int x5)] → mW E q f_code a_tape a_size a_fault a_faultPlace a_many a_lands a_evenings a_sights a_choirs f_reached f_length f_begins f_sort f_value f_word f_wrongAt f_laterFault f_laterPlace a_told a_read f_farHut f_farSinger f_good f_land f_huts f_singers f_evening a_at a_knows a_climbed a_snow a_level f_begun f_minute f_avalanches a_run a_covers a_routes a_longest a_steep a_laid a_far f_sight a_runs f_choir f_voices a_rest a_wins f_seed a_other a_kept H → va_S (mA q) s.heap H locs → W p l e rm_m_findRun s m args below meth c H locs 0 0 (MQ below (zQv (S := (Nat → Int32)) (fun u => post u) (fun u H => mW E q f_code a_tape a_size a_fault a_faultPlace a_many a_lands a_evenings a_sights a_choirs f_reached f_length f_begins f_sort f_value f_word f_wrongAt f_laterFault f_laterPlace a_told a_read f_farHut f_farSinger f_good f_land f_huts f_singers f_evening a_at a_knows a_climbed a_snow a_level f_begun f_minute f_avalanches u a_covers a_routes a_longest a_steep a_laid a_far f_sight a_runs f_choir f_voices a_rest a_wins f_seed a_other a_kept H) (mA q)) args s 0 0 (mA q)) (F0 m 68 ls []))
    (hl : lv_has ls 8 [(0, .ref q), (3, .int x3), (4, .int x4), (5, .int x5), (6, .int x6)])
    (hw : q_m_findRun_80 P56 P68 a_lands f_land f_huts a_run x3 x4 x5 x6 post) :
    W p l e rm_m_findRun s m args below meth c H locs 0 0 (MQ below (zQv (S := (Nat → Int32)) (fun u => post u) (fun u H => mW E q f_code a_tape a_size a_fault a_faultPlace a_many a_lands a_evenings a_sights a_choirs f_reached f_length f_begins f_sort f_value f_word f_wrongAt f_laterFault f_laterPlace a_told a_read f_farHut f_farSinger f_good f_land f_huts f_singers f_evening a_at a_knows a_climbed a_snow a_level f_begun f_minute f_avalanches u a_covers a_routes a_longest a_steep a_laid a_far f_sight a_runs f_choir f_voices a_rest a_wins f_seed a_other a_kept H) (mA q)) args s 0 0 (mA q)) (F0 m 80 ls []) := by
  have hx := zc.1
  have hb := zc.2.1
  refine hw (fun x6 a_run => ∀ (H : Heap) (locs : List Loc) (ls : Array Slot), lv_has ls 8 [(0, .ref q), (3, .int x3), (4, .int x4), (5, .int x5), (6, .int x6)] → mW E q f_code a_tape a_size a_fault a_faultPlace a_many a_lands a_evenings a_sights a_choirs f_reached f_length f_begins f_sort f_value f_word f_wrongAt f_laterFault f_laterPlace a_told a_read f_farHut f_farSinger f_good f_land f_huts f_singers f_evening a_at a_knows a_climbed a_snow a_level f_begun f_minute f_avalanches a_run a_covers a_routes a_longest a_steep a_laid a_far f_sight a_runs f_choir f_voices a_rest a_wins f_seed a_other a_kept H → va_S (mA q) s.heap H locs → W p l e rm_m_findRun s m args below meth c H locs 0 0 (MQ below (zQv (S := (Nat → Int32)) (fun u => post u) (fun u H => mW E q f_code a_tape a_size a_fault a_faultPlace a_many a_lands a_evenings a_sights a_choirs f_reached f_length f_begins f_sort f_value f_word f_wrongAt f_laterFault f_laterPlace a_told a_read f_farHut f_farSinger f_good f_land f_huts f_singers f_evening a_at a_knows a_climbed a_snow a_level f_begun f_minute f_avalanches u a_covers a_routes a_longest a_steep a_laid a_far f_sight a_runs f_choir f_voices a_rest a_wins f_seed a_other a_kept H) (mA q)) args s 0 0 (mA q)) (F0 m 80 ls [])) ?_ _ _ _ hl hM hS
  intro x6 a_run hw H locs ls hl hM hS
  refine lv_iload hx hb dX11_findRun_80 (lv_at hl 4 rfl) ?_
  refine lv_aload_n hx hb dX11_findRun_82 rfl (lv_at hl 0 rfl) ?_
  refine mg_11_307_0 zc hK hM dX11_findRun_83 ?_
  refine lv_icmp_ge (tgt := 185) hx hb dX11_findRun_86 (by decide) (fun hc => ?_) (fun hc => ?_)
  · have hw := hw.1 hc
    obtain ⟨v_1, ev_1⟩ : ∃ y : Int32, y = x5 + (1 : Int32) := ⟨_, rfl⟩
    have hw := hw v_1 ev_1
    refine lv_iinc (v := v_1) (k := 3) (lv' := [(5, .int v_1), (0, .ref q), (3, .int x3), (4, .int x4), (6, .int x6)]) hx hb dX11_findRun_185 hl rfl (by rw [ev_1]; rfl) (by decide) rfl (fun ls hl => ?_)
    refine lv_goto (tgt := 68) hx hb dX11_findRun_188 (by decide) ?_
    exact hP68 _ _ _ _ _ hw (lv_sub hl [1, 2, 3, 0] rfl) hM hS
  · have hw := hw.2 hc
    refine lv_aload_n hx hb dX11_findRun_89 rfl (lv_at hl 0 rfl) ?_
    refine lv_iload hx hb dX11_findRun_90 (lv_at hl 3 rfl) ?_
    refine lv_iload hx hb dX11_findRun_92 (lv_at hl 4 rfl) ?_
    refine zV_i [.int x5, .int x6] [] zc ky_X11_way kz_X11_way km_11_319 (c_m_way l hw) (mPreV0 hK hM) rfl rfl hl.1 (Nat.le_of_ble_eq_true rfl) ⟨rfl, rfl⟩ ⟨Nat.le_of_ble_eq_true rfl, Nat.le_of_ble_eq_true rfl⟩ ⟨(Nat.zero_le _), (Nat.zero_le _)⟩ dX11_findRun_94 (fun r_1 hw => ?_)
    refine lv_if_le (tgt := 128) hx hb dX11_findRun_97 (by decide) (fun hc => ?_) (fun hc => ?_)
    · have hw := hw.1 hc
      exact t_m_findRun_128 zc hK hM hS hP56 hP68 (fun _ _ H locs ls h hl hM hS => h H locs ls hl hM hS) (lv_sub hl [0, 1, 2, 3, 4] rfl) hw
    · have hw := hw.2 hc
      refine lv_aload_n hx hb dX11_findRun_100 rfl (lv_at hl 0 rfl) ?_
      refine lv_iload hx hb dX11_findRun_101 (lv_at hl 4 rfl) ?_
      refine zV_i [.int x6] [] zc ky_X11_height kz_X11_height km_11_322 (c_m_height l hw) (mPreV0 hK hM) rfl rfl hl.1 (Nat.le_of_ble_eq_true rfl) ⟨rfl, rfl⟩ ⟨Nat.le_of_ble_eq_true rfl, Nat.le_of_ble_eq_true rfl⟩ ⟨(Nat.zero_le _), (Nat.zero_le _)⟩ dX11_findRun_103 (fun r_2 hw => ?_)
      refine lv_aload_n hx hb dX11_findRun_106 rfl (lv_at hl 0 rfl) ?_
      refine lv_iload hx hb dX11_findRun_107 (lv_at hl 3 rfl) ?_
      refine zV_i [.int x5] [.int r_2] zc ky_X11_height kz_X11_height km_11_322 (c_m_height l hw) (mPreV0 hK hM) rfl rfl hl.1 (Nat.le_of_ble_eq_true rfl) ⟨rfl, rfl⟩ ⟨Nat.le_of_ble_eq_true rfl, Nat.le_of_ble_eq_true rfl⟩ ⟨(Nat.zero_le _), (Nat.zero_le _)⟩ dX11_findRun_109 (fun r_3 hw => ?_)
      refine lv_icmp_ge (tgt := 128) hx hb dX11_findRun_112 (by decide) (fun hc => ?_) (fun hc => ?_)
      · have hw := hw.1 hc
        exact t_m_findRun_128 zc hK hM hS hP56 hP68 (fun _ _ H locs ls h hl hM hS => h H locs ls hl hM hS) (lv_sub hl [0, 1, 2, 3, 4] rfl) hw
      · have hw := hw.2 hc
        refine lv_iload_n hx hb dX11_findRun_115 rfl (lv_at hl 1 rfl) ?_
        refine lv_iload hx hb dX11_findRun_116 (lv_at hl 4 rfl) ?_
        refine zS_i [.int x3, .int x6] [] zc ky_X11_has kz_X11_has km_11_101 (c_m_has l hw) (zPre0 _) rfl rfl hl.1 (Nat.le_of_ble_eq_true rfl) ⟨rfl, rfl⟩ ⟨Nat.le_of_ble_eq_true rfl, Nat.le_of_ble_eq_true rfl⟩ ⟨(Nat.zero_le _), (Nat.zero_le _)⟩ dX11_findRun_118 (fun r_4 hw => ?_)
        refine lv_if_ne (tgt := 128) hx hb dX11_findRun_121 (by decide) (fun hc => ?_) (fun hc => ?_)
        · have hw := hw.1 hc
          exact t_m_findRun_128 zc hK hM hS hP56 hP68 (fun _ _ H locs ls h hl hM hS => h H locs ls hl hM hS) (lv_sub hl [0, 1, 2, 3, 4] rfl) hw
        · have hw := hw.2 hc
          refine lv_iconst (v := (1 : Int32)) hx hb dX11_findRun_124 (by decide) ?_
          refine lv_goto (tgt := 129) hx hb dX11_findRun_125 (by decide) ?_
          exact t_m_findRun_129 zc hK hM hS hP56 hP68 (fun _ _ H locs ls h hl hM hS => h H locs ls hl hM hS) (lv_sub hl [0, 1, 2, 3, 4] rfl) hw
set_option maxRecDepth 20000 in
theorem t_m_findRun_68 {p : Program} {l : Launch} {e : Env} {s : State} {m : MethodId} {args : Array Value} {below : List Frame} {meth : Method} {c : Code} {E : zE} {q : Nat} {f_code : Int32} {a_tape : Nat → Int32} {a_size : Nat → Int32} {a_fault : Nat → Int32} {a_faultPlace : Nat → Int32} {a_many : Nat → Int32} {a_lands : Nat → Int32} {a_evenings : Nat → Int32} {a_sights : Nat → Int32} {a_choirs : Nat → Int32} {f_reached : Int32} {f_length : Int32} {f_begins : Int32} {f_sort : Int32} {f_value : Int32} {f_word : Int64} {f_wrongAt : Int32} {f_laterFault : Int32} {f_laterPlace : Int32} {a_told : Nat → Int32} {a_read : Nat → Int32} {f_farHut : Int32} {f_farSinger : Int32} {f_good : Int32} {f_land : Int32} {f_huts : Int32} {f_singers : Int32} {f_evening : Int32} {a_at : Nat → Int32} {a_knows : Nat → Int32} {a_climbed : Nat → Int32} {a_snow : Nat → Int32} {a_level : Nat → Int32} {f_begun : Int32} {f_minute : Int32} {f_avalanches : Int32} {a_run : Nat → Int32} {a_covers : Nat → Int32} {a_routes : Nat → Int32} {a_longest : Nat → Int32} {a_steep : Nat → Int32} {a_laid : Nat → Int32} {a_far : Nat → Int32} {f_sight : Int32} {a_runs : Nat → Int32} {f_choir : Int32} {f_voices : Int32} {a_rest : Nat → Int64} {a_wins : Nat → Int32} {f_seed : Int32} {a_other : Nat → Int32} {a_kept : Nat → Int32} {P56 : Int32 → (Nat → Int32) → Prop} {post : (Nat → Int32) → Prop} {x3 : Int32} {x4 : Int32} {x5 : Int32} {ls : Array Slot} {H : Heap} {locs : List Loc}
    (zc : zC p s m args meth c cX11_findRun 8 RX11 none)
    (hK : zK E s)
    (hM : mW E q f_code a_tape a_size a_fault a_faultPlace a_many a_lands a_evenings a_sights a_choirs f_reached f_length f_begins f_sort f_value f_word f_wrongAt f_laterFault f_laterPlace a_told a_read f_farHut f_farSinger f_good f_land f_huts f_singers f_evening a_at a_knows a_climbed a_snow a_level f_begun f_minute f_avalanches a_run a_covers a_routes a_longest a_steep a_laid a_far f_sight a_runs f_choir f_voices a_rest a_wins f_seed a_other a_kept H)
    (hS : va_S (mA q) s.heap H locs)
    (hP56 : ∀ (x4 : Int32) (a_run : Nat → Int32) (H : Heap) (locs : List Loc) (ls : Array Slot), P56 x4 a_run → lv_has ls 8 [(0, .ref q), (3, .int x3), (4, .int x4)] → mW E q f_code a_tape a_size a_fault a_faultPlace a_many a_lands a_evenings a_sights a_choirs f_reached f_length f_begins f_sort f_value f_word f_wrongAt f_laterFault f_laterPlace a_told a_read f_farHut f_farSinger f_good f_land f_huts f_singers f_evening a_at a_knows a_climbed a_snow a_level f_begun f_minute f_avalanches a_run a_covers a_routes a_longest a_steep a_laid a_far f_sight a_runs f_choir f_voices a_rest a_wins f_seed a_other a_kept H → va_S (mA q) s.heap H locs → W p l e rm_m_findRun s m args below meth c H locs 0 0 (MQ below (zQv (S := (Nat → Int32)) (fun u => post u) (fun u H => mW E q f_code a_tape a_size a_fault a_faultPlace a_many a_lands a_evenings a_sights a_choirs f_reached f_length f_begins f_sort f_value f_word f_wrongAt f_laterFault f_laterPlace a_told a_read f_farHut f_farSinger f_good f_land f_huts f_singers f_evening a_at a_knows a_climbed a_snow a_level f_begun f_minute f_avalanches u a_covers a_routes a_longest a_steep a_laid a_far f_sight a_runs f_choir f_voices a_rest a_wins f_seed a_other a_kept H) (mA q)) args s 0 0 (mA q)) (F0 m 56 ls []))
    (hl : lv_has ls 8 [(0, .ref q), (3, .int x3), (4, .int x4), (5, .int x5)])
    (hw : q_m_findRun_68 P56 a_lands f_land f_huts a_run x3 x4 x5 post) :
    W p l e rm_m_findRun s m args below meth c H locs 0 0 (MQ below (zQv (S := (Nat → Int32)) (fun u => post u) (fun u H => mW E q f_code a_tape a_size a_fault a_faultPlace a_many a_lands a_evenings a_sights a_choirs f_reached f_length f_begins f_sort f_value f_word f_wrongAt f_laterFault f_laterPlace a_told a_read f_farHut f_farSinger f_good f_land f_huts f_singers f_evening a_at a_knows a_climbed a_snow a_level f_begun f_minute f_avalanches u a_covers a_routes a_longest a_steep a_laid a_far f_sight a_runs f_choir f_voices a_rest a_wins f_seed a_other a_kept H) (mA q)) args s 0 0 (mA q)) (F0 m 68 ls []) := by
  have hx := zc.1
  have hb := zc.2.1
  refine hw (fun x5 a_run => ∀ (H : Heap) (locs : List Loc) (ls : Array Slot), lv_has ls 8 [(0, .ref q), (3, .int x3), (4, .int x4), (5, .int x5)] → mW E q f_code a_tape a_size a_fault a_faultPlace a_many a_lands a_evenings a_sights a_choirs f_reached f_length f_begins f_sort f_value f_word f_wrongAt f_laterFault f_laterPlace a_told a_read f_farHut f_farSinger f_good f_land f_huts f_singers f_evening a_at a_knows a_climbed a_snow a_level f_begun f_minute f_avalanches a_run a_covers a_routes a_longest a_steep a_laid a_far f_sight a_runs f_choir f_voices a_rest a_wins f_seed a_other a_kept H → va_S (mA q) s.heap H locs → W p l e rm_m_findRun s m args below meth c H locs 0 0 (MQ below (zQv (S := (Nat → Int32)) (fun u => post u) (fun u H => mW E q f_code a_tape a_size a_fault a_faultPlace a_many a_lands a_evenings a_sights a_choirs f_reached f_length f_begins f_sort f_value f_word f_wrongAt f_laterFault f_laterPlace a_told a_read f_farHut f_farSinger f_good f_land f_huts f_singers f_evening a_at a_knows a_climbed a_snow a_level f_begun f_minute f_avalanches u a_covers a_routes a_longest a_steep a_laid a_far f_sight a_runs f_choir f_voices a_rest a_wins f_seed a_other a_kept H) (mA q)) args s 0 0 (mA q)) (F0 m 68 ls [])) ?_ _ _ _ hl hM hS
  intro x5 a_run hw H locs ls hl hM hS
  refine lv_iload hx hb dX11_findRun_68 (lv_at hl 3 rfl) ?_
  refine lv_aload_n hx hb dX11_findRun_70 rfl (lv_at hl 0 rfl) ?_
  refine mg_11_307_0 zc hK hM dX11_findRun_71 ?_
  refine lv_icmp_ge (tgt := 191) hx hb dX11_findRun_74 (by decide) (fun hc => ?_) (fun hc => ?_)
  · have hw := hw.1 hc
    refine lv_iconst (v := (0 : Int32)) hx hb dX11_findRun_191 (by decide) ?_
    refine lv_istore (lv' := [(5, .int (0 : Int32)), (0, .ref q), (3, .int x3), (4, .int x4)]) hx hb dX11_findRun_192 hl (by decide) rfl (fun ls hl => ?_)
    exact t_m_findRun_194 zc hK hM hS hP56 (lv_sub hl [1, 2, 3, 0] rfl) hw
  · have hw := hw.2 hc
    refine lv_iconst (v := (0 : Int32)) hx hb dX11_findRun_77 (by decide) ?_
    refine lv_istore (lv' := [(6, .int (0 : Int32)), (0, .ref q), (3, .int x3), (4, .int x4), (5, .int x5)]) hx hb dX11_findRun_78 hl (by decide) rfl (fun ls hl => ?_)
    exact t_m_findRun_80 zc hK hM hS hP56 (fun _ _ H locs ls h hl hM hS => h H locs ls hl hM hS) (lv_sub hl [1, 2, 3, 4, 0] rfl) hw
set_option maxRecDepth 20000 in
theorem t_m_findRun_56 {p : Program} {l : Launch} {e : Env} {s : State} {m : MethodId} {args : Array Value} {below : List Frame} {meth : Method} {c : Code} {E : zE} {q : Nat} {f_code : Int32} {a_tape : Nat → Int32} {a_size : Nat → Int32} {a_fault : Nat → Int32} {a_faultPlace : Nat → Int32} {a_many : Nat → Int32} {a_lands : Nat → Int32} {a_evenings : Nat → Int32} {a_sights : Nat → Int32} {a_choirs : Nat → Int32} {f_reached : Int32} {f_length : Int32} {f_begins : Int32} {f_sort : Int32} {f_value : Int32} {f_word : Int64} {f_wrongAt : Int32} {f_laterFault : Int32} {f_laterPlace : Int32} {a_told : Nat → Int32} {a_read : Nat → Int32} {f_farHut : Int32} {f_farSinger : Int32} {f_good : Int32} {f_land : Int32} {f_huts : Int32} {f_singers : Int32} {f_evening : Int32} {a_at : Nat → Int32} {a_knows : Nat → Int32} {a_climbed : Nat → Int32} {a_snow : Nat → Int32} {a_level : Nat → Int32} {f_begun : Int32} {f_minute : Int32} {f_avalanches : Int32} {a_run : Nat → Int32} {a_covers : Nat → Int32} {a_routes : Nat → Int32} {a_longest : Nat → Int32} {a_steep : Nat → Int32} {a_laid : Nat → Int32} {a_far : Nat → Int32} {f_sight : Int32} {a_runs : Nat → Int32} {f_choir : Int32} {f_voices : Int32} {a_rest : Nat → Int64} {a_wins : Nat → Int32} {f_seed : Int32} {a_other : Nat → Int32} {a_kept : Nat → Int32} {post : (Nat → Int32) → Prop} {x3 : Int32} {x4 : Int32} {ls : Array Slot} {H : Heap} {locs : List Loc}
    (zc : zC p s m args meth c cX11_findRun 8 RX11 none)
    (hK : zK E s)
    (hM : mW E q f_code a_tape a_size a_fault a_faultPlace a_many a_lands a_evenings a_sights a_choirs f_reached f_length f_begins f_sort f_value f_word f_wrongAt f_laterFault f_laterPlace a_told a_read f_farHut f_farSinger f_good f_land f_huts f_singers f_evening a_at a_knows a_climbed a_snow a_level f_begun f_minute f_avalanches a_run a_covers a_routes a_longest a_steep a_laid a_far f_sight a_runs f_choir f_voices a_rest a_wins f_seed a_other a_kept H)
    (hS : va_S (mA q) s.heap H locs)
    (hl : lv_has ls 8 [(0, .ref q), (3, .int x3), (4, .int x4)])
    (hw : q_m_findRun_56 a_lands f_land f_huts a_run x3 x4 post) :
    W p l e rm_m_findRun s m args below meth c H locs 0 0 (MQ below (zQv (S := (Nat → Int32)) (fun u => post u) (fun u H => mW E q f_code a_tape a_size a_fault a_faultPlace a_many a_lands a_evenings a_sights a_choirs f_reached f_length f_begins f_sort f_value f_word f_wrongAt f_laterFault f_laterPlace a_told a_read f_farHut f_farSinger f_good f_land f_huts f_singers f_evening a_at a_knows a_climbed a_snow a_level f_begun f_minute f_avalanches u a_covers a_routes a_longest a_steep a_laid a_far f_sight a_runs f_choir f_voices a_rest a_wins f_seed a_other a_kept H) (mA q)) args s 0 0 (mA q)) (F0 m 56 ls []) := by
  have hx := zc.1
  have hb := zc.2.1
  refine hw (fun x4 a_run => ∀ (H : Heap) (locs : List Loc) (ls : Array Slot), lv_has ls 8 [(0, .ref q), (3, .int x3), (4, .int x4)] → mW E q f_code a_tape a_size a_fault a_faultPlace a_many a_lands a_evenings a_sights a_choirs f_reached f_length f_begins f_sort f_value f_word f_wrongAt f_laterFault f_laterPlace a_told a_read f_farHut f_farSinger f_good f_land f_huts f_singers f_evening a_at a_knows a_climbed a_snow a_level f_begun f_minute f_avalanches a_run a_covers a_routes a_longest a_steep a_laid a_far f_sight a_runs f_choir f_voices a_rest a_wins f_seed a_other a_kept H → va_S (mA q) s.heap H locs → W p l e rm_m_findRun s m args below meth c H locs 0 0 (MQ below (zQv (S := (Nat → Int32)) (fun u => post u) (fun u H => mW E q f_code a_tape a_size a_fault a_faultPlace a_many a_lands a_evenings a_sights a_choirs f_reached f_length f_begins f_sort f_value f_word f_wrongAt f_laterFault f_laterPlace a_told a_read f_farHut f_farSinger f_good f_land f_huts f_singers f_evening a_at a_knows a_climbed a_snow a_level f_begun f_minute f_avalanches u a_covers a_routes a_longest a_steep a_laid a_far f_sight a_runs f_choir f_voices a_rest a_wins f_seed a_other a_kept H) (mA q)) args s 0 0 (mA q)) (F0 m 56 ls [])) ?_ _ _ _ hl hM hS
  intro x4 a_run hw H locs ls hl hM hS
  refine lv_iload hx hb dX11_findRun_56 (lv_at hl 2 rfl) ?_
  refine lv_aload_n hx hb dX11_findRun_58 rfl (lv_at hl 0 rfl) ?_
  refine mg_11_307_0 zc hK hM dX11_findRun_59 ?_
  refine lv_icmp_ge (tgt := 283) hx hb dX11_findRun_62 (by decide) (fun hc => ?_) (fun hc => ?_)
  · have hw := hw.1 hc
    exact zret_vw a_run zc hS hw hM dX11_findRun_283
  · have hw := hw.2 hc
    refine lv_iconst (v := (0 : Int32)) hx hb dX11_findRun_65 (by decide) ?_
    refine lv_istore (lv' := [(5, .int (0 : Int32)), (0, .ref q), (3, .int x3), (4, .int x4)]) hx hb dX11_findRun_66 hl (by decide) rfl (fun ls hl => ?_)
    exact t_m_findRun_68 zc hK hM hS (fun _ _ H locs ls h hl hM hS => h H locs ls hl hM hS) (lv_sub hl [1, 2, 3, 0] rfl) hw
set_option maxRecDepth 20000 in
theorem t_m_findRun_11 {p : Program} {l : Launch} {e : Env} {s : State} {m : MethodId} {args : Array Value} {below : List Frame} {meth : Method} {c : Code} {E : zE} {q : Nat} {f_code : Int32} {a_tape : Nat → Int32} {a_size : Nat → Int32} {a_fault : Nat → Int32} {a_faultPlace : Nat → Int32} {a_many : Nat → Int32} {a_lands : Nat → Int32} {a_evenings : Nat → Int32} {a_sights : Nat → Int32} {a_choirs : Nat → Int32} {f_reached : Int32} {f_length : Int32} {f_begins : Int32} {f_sort : Int32} {f_value : Int32} {f_word : Int64} {f_wrongAt : Int32} {f_laterFault : Int32} {f_laterPlace : Int32} {a_told : Nat → Int32} {a_read : Nat → Int32} {f_farHut : Int32} {f_farSinger : Int32} {f_good : Int32} {f_land : Int32} {f_huts : Int32} {f_singers : Int32} {f_evening : Int32} {a_at : Nat → Int32} {a_knows : Nat → Int32} {a_climbed : Nat → Int32} {a_snow : Nat → Int32} {a_level : Nat → Int32} {f_begun : Int32} {f_minute : Int32} {f_avalanches : Int32} {a_run : Nat → Int32} {a_covers : Nat → Int32} {a_routes : Nat → Int32} {a_longest : Nat → Int32} {a_steep : Nat → Int32} {a_laid : Nat → Int32} {a_far : Nat → Int32} {f_sight : Int32} {a_runs : Nat → Int32} {f_choir : Int32} {f_voices : Int32} {a_rest : Nat → Int64} {a_wins : Nat → Int32} {f_seed : Int32} {a_other : Nat → Int32} {a_kept : Nat → Int32} {post : (Nat → Int32) → Prop} {x1 : Int32} {x3 : Int32} {x4 : Int32} {ls : Array Slot} {H : Heap} {locs : List Loc}
    (zc : zC p s m args meth c cX11_findRun 8 RX11 none)
    (hK : zK E s)
    (hM : mW E q f_code a_tape a_size a_fault a_faultPlace a_many a_lands a_evenings a_sights a_choirs f_reached f_length f_begins f_sort f_value f_word f_wrongAt f_laterFault f_laterPlace a_told a_read f_farHut f_farSinger f_good f_land f_huts f_singers f_evening a_at a_knows a_climbed a_snow a_level f_begun f_minute f_avalanches a_run a_covers a_routes a_longest a_steep a_laid a_far f_sight a_runs f_choir f_voices a_rest a_wins f_seed a_other a_kept H)
    (hS : va_S (mA q) s.heap H locs)
    (hl : lv_has ls 8 [(0, .ref q), (1, .int x1), (3, .int x3), (4, .int x4)])
    (hw : q_m_findRun_11 a_lands f_land f_huts a_run x1 x3 x4 post) :
    W p l e rm_m_findRun s m args below meth c H locs 0 0 (MQ below (zQv (S := (Nat → Int32)) (fun u => post u) (fun u H => mW E q f_code a_tape a_size a_fault a_faultPlace a_many a_lands a_evenings a_sights a_choirs f_reached f_length f_begins f_sort f_value f_word f_wrongAt f_laterFault f_laterPlace a_told a_read f_farHut f_farSinger f_good f_land f_huts f_singers f_evening a_at a_knows a_climbed a_snow a_level f_begun f_minute f_avalanches u a_covers a_routes a_longest a_steep a_laid a_far f_sight a_runs f_choir f_voices a_rest a_wins f_seed a_other a_kept H) (mA q)) args s 0 0 (mA q)) (F0 m 11 ls []) := by
  have hx := zc.1
  have hb := zc.2.1
  refine hw (fun x4 a_run => ∀ (H : Heap) (locs : List Loc) (ls : Array Slot), lv_has ls 8 [(0, .ref q), (1, .int x1), (3, .int x3), (4, .int x4)] → mW E q f_code a_tape a_size a_fault a_faultPlace a_many a_lands a_evenings a_sights a_choirs f_reached f_length f_begins f_sort f_value f_word f_wrongAt f_laterFault f_laterPlace a_told a_read f_farHut f_farSinger f_good f_land f_huts f_singers f_evening a_at a_knows a_climbed a_snow a_level f_begun f_minute f_avalanches a_run a_covers a_routes a_longest a_steep a_laid a_far f_sight a_runs f_choir f_voices a_rest a_wins f_seed a_other a_kept H → va_S (mA q) s.heap H locs → W p l e rm_m_findRun s m args below meth c H locs 0 0 (MQ below (zQv (S := (Nat → Int32)) (fun u => post u) (fun u H => mW E q f_code a_tape a_size a_fault a_faultPlace a_many a_lands a_evenings a_sights a_choirs f_reached f_length f_begins f_sort f_value f_word f_wrongAt f_laterFault f_laterPlace a_told a_read f_farHut f_farSinger f_good f_land f_huts f_singers f_evening a_at a_knows a_climbed a_snow a_level f_begun f_minute f_avalanches u a_covers a_routes a_longest a_steep a_laid a_far f_sight a_runs f_choir f_voices a_rest a_wins f_seed a_other a_kept H) (mA q)) args s 0 0 (mA q)) (F0 m 11 ls [])) ?_ _ _ _ hl hM hS
  intro x4 a_run hw H locs ls hl hM hS
  refine lv_iload hx hb dX11_findRun_11 (lv_at hl 3 rfl) ?_
  refine lv_bipush (v := (9 : Int32)) hx hb dX11_findRun_13 (by decide) ?_
  refine lv_icmp_ge (tgt := 53) hx hb dX11_findRun_15 (by decide) (fun hc => ?_) (fun hc => ?_)
  · have hw := hw.1 hc
    refine lv_iconst (v := (0 : Int32)) hx hb dX11_findRun_53 (by decide) ?_
    refine lv_istore (lv' := [(4, .int (0 : Int32)), (0, .ref q), (1, .int x1), (3, .int x3)]) hx hb dX11_findRun_54 hl (by decide) rfl (fun ls hl => ?_)
    exact t_m_findRun_56 zc hK hM hS  (lv_sub hl [1, 3, 0] rfl) hw
  · have hw := hw.2 hc
    refine lv_aload_n hx hb dX11_findRun_18 rfl (lv_at hl 0 rfl) ?_
    refine mg_11_59_0 zc hK hM dX11_findRun_19 ?_
    refine lv_iload hx hb dX11_findRun_22 (lv_at hl 3 rfl) ?_
    refine lv_iload hx hb dX11_findRun_24 (lv_at hl 3 rfl) ?_
    refine lv_iload_n hx hb dX11_findRun_26 rfl (lv_at hl 1 rfl) ?_
    refine lv_icmp_ne (tgt := 43) hx hb dX11_findRun_27 (by decide) (fun hc => ?_) (fun hc => ?_)
    · have hw := hw.1 hc
      exact t_m_findRun_43 zc hK hM hS (fun _ _ H locs ls h hl hM hS => h H locs ls hl hM hS) (lv_sub hl [0, 1, 2, 3] rfl) hw
    · have hw := hw.2 hc
      refine lv_iload_n hx hb dX11_findRun_30 rfl (lv_at hl 2 rfl) ?_
      refine lv_iload hx hb dX11_findRun_31 (lv_at hl 3 rfl) ?_
      refine zS_i [.int x3, .int x4] [.int x4, .ref (q + 17)] zc ky_X11_has kz_X11_has km_11_101 (c_m_has l hw) (zPre0 _) rfl rfl hl.1 (Nat.le_of_ble_eq_true rfl) ⟨rfl, rfl⟩ ⟨Nat.le_of_ble_eq_true rfl, Nat.le_of_ble_eq_true rfl⟩ ⟨(Nat.zero_le _), (Nat.zero_le _)⟩ dX11_findRun_33 (fun r_1 hw => ?_)
      refine lv_if_ne (tgt := 43) hx hb dX11_findRun_36 (by decide) (fun hc => ?_) (fun hc => ?_)
      · have hw := hw.1 hc
        exact t_m_findRun_43 zc hK hM hS (fun _ _ H locs ls h hl hM hS => h H locs ls hl hM hS) (lv_sub hl [0, 1, 2, 3] rfl) hw
      · have hw := hw.2 hc
        refine lv_iconst (v := (0 : Int32)) hx hb dX11_findRun_39 (by decide) ?_
        refine lv_goto (tgt := 46) hx hb dX11_findRun_40 (by decide) ?_
        exact t_m_findRun_46 zc hK hM hS (fun _ _ H locs ls h hl hM hS => h H locs ls hl hM hS) (lv_sub hl [0, 1, 2, 3] rfl) hw
set_option maxRecDepth 20000 in
theorem t_m_findRun_0 {p : Program} {l : Launch} {e : Env} {s : State} {m : MethodId} {args : Array Value} {below : List Frame} {meth : Method} {c : Code} {E : zE} {q : Nat} {f_code : Int32} {a_tape : Nat → Int32} {a_size : Nat → Int32} {a_fault : Nat → Int32} {a_faultPlace : Nat → Int32} {a_many : Nat → Int32} {a_lands : Nat → Int32} {a_evenings : Nat → Int32} {a_sights : Nat → Int32} {a_choirs : Nat → Int32} {f_reached : Int32} {f_length : Int32} {f_begins : Int32} {f_sort : Int32} {f_value : Int32} {f_word : Int64} {f_wrongAt : Int32} {f_laterFault : Int32} {f_laterPlace : Int32} {a_told : Nat → Int32} {a_read : Nat → Int32} {f_farHut : Int32} {f_farSinger : Int32} {f_good : Int32} {f_land : Int32} {f_huts : Int32} {f_singers : Int32} {f_evening : Int32} {a_at : Nat → Int32} {a_knows : Nat → Int32} {a_climbed : Nat → Int32} {a_snow : Nat → Int32} {a_level : Nat → Int32} {f_begun : Int32} {f_minute : Int32} {f_avalanches : Int32} {a_run : Nat → Int32} {a_covers : Nat → Int32} {a_routes : Nat → Int32} {a_longest : Nat → Int32} {a_steep : Nat → Int32} {a_laid : Nat → Int32} {a_far : Nat → Int32} {f_sight : Int32} {a_runs : Nat → Int32} {f_choir : Int32} {f_voices : Int32} {a_rest : Nat → Int64} {a_wins : Nat → Int32} {f_seed : Int32} {a_other : Nat → Int32} {a_kept : Nat → Int32} {post : (Nat → Int32) → Prop} {x1 : Int32} {x2 : Int32} {ls : Array Slot} {H : Heap} {locs : List Loc}
    (zc : zC p s m args meth c cX11_findRun 8 RX11 none)
    (hK : zK E s)
    (hM : mW E q f_code a_tape a_size a_fault a_faultPlace a_many a_lands a_evenings a_sights a_choirs f_reached f_length f_begins f_sort f_value f_word f_wrongAt f_laterFault f_laterPlace a_told a_read f_farHut f_farSinger f_good f_land f_huts f_singers f_evening a_at a_knows a_climbed a_snow a_level f_begun f_minute f_avalanches a_run a_covers a_routes a_longest a_steep a_laid a_far f_sight a_runs f_choir f_voices a_rest a_wins f_seed a_other a_kept H)
    (hS : va_S (mA q) s.heap H locs)
    (hl : lv_has ls 8 [(0, .ref q), (1, .int x1), (2, .int x2)])
    (hw : q_m_findRun_0 a_lands f_land f_huts a_run x1 x2 post) :
    W p l e rm_m_findRun s m args below meth c H locs 0 0 (MQ below (zQv (S := (Nat → Int32)) (fun u => post u) (fun u H => mW E q f_code a_tape a_size a_fault a_faultPlace a_many a_lands a_evenings a_sights a_choirs f_reached f_length f_begins f_sort f_value f_word f_wrongAt f_laterFault f_laterPlace a_told a_read f_farHut f_farSinger f_good f_land f_huts f_singers f_evening a_at a_knows a_climbed a_snow a_level f_begun f_minute f_avalanches u a_covers a_routes a_longest a_steep a_laid a_far f_sight a_runs f_choir f_voices a_rest a_wins f_seed a_other a_kept H) (mA q)) args s 0 0 (mA q)) (F0 m 0 ls []) := by
  have hx := zc.1
  have hb := zc.2.1
  refine lv_aload_n hx hb dX11_findRun_0 rfl (lv_at hl 0 rfl) ?_
  refine lv_iconst (v := (3 : Int32)) hx hb dX11_findRun_1 (by decide) ?_
  refine zV_i [.int (3 : Int32)] [] zc ky_X11_of kz_X11_of km_11_303 (c_m_of l hw) (mPreV0 hK hM) rfl rfl hl.1 (Nat.le_of_ble_eq_true rfl) ⟨rfl, rfl⟩ ⟨Nat.le_of_ble_eq_true rfl, Nat.le_of_ble_eq_true rfl⟩ ⟨(Nat.zero_le _), (Nat.zero_le _)⟩ dX11_findRun_2 (fun r_1 hw => ?_)
  refine lv_iload_n hx hb dX11_findRun_5 rfl (lv_at hl 2 rfl) ?_
  refine lv_ior hx hb dX11_findRun_6 ?_
  refine lv_topi (fun v_1 ev_1 => ?_)
  have hw := hw v_1 ev_1
  refine lv_istore_n (lv' := [(3, .int v_1), (0, .ref q), (1, .int x1), (2, .int x2)]) hx hb dX11_findRun_7 rfl hl (by decide) rfl (fun ls hl => ?_)
  refine lv_iconst (v := (0 : Int32)) hx hb dX11_findRun_8 (by decide) ?_
  refine lv_istore (lv' := [(4, .int (0 : Int32)), (3, .int v_1), (0, .ref q), (1, .int x1), (2, .int x2)]) hx hb dX11_findRun_9 hl (by decide) rfl (fun ls hl => ?_)
  exact t_m_findRun_11 zc hK hM hS  (lv_sub hl [2, 3, 1, 0] rfl) hw
set_option maxRecDepth 20000 in
theorem c_m_findRun (l : Launch) {E : zE} {q : Nat} {f_code : Int32} {a_tape : Nat → Int32} {a_size : Nat → Int32} {a_fault : Nat → Int32} {a_faultPlace : Nat → Int32} {a_many : Nat → Int32} {a_lands : Nat → Int32} {a_evenings : Nat → Int32} {a_sights : Nat → Int32} {a_choirs : Nat → Int32} {f_reached : Int32} {f_length : Int32} {f_begins : Int32} {f_sort : Int32} {f_value : Int32} {f_word : Int64} {f_wrongAt : Int32} {f_laterFault : Int32} {f_laterPlace : Int32} {a_told : Nat → Int32} {a_read : Nat → Int32} {f_farHut : Int32} {f_farSinger : Int32} {f_good : Int32} {f_land : Int32} {f_huts : Int32} {f_singers : Int32} {f_evening : Int32} {a_at : Nat → Int32} {a_knows : Nat → Int32} {a_climbed : Nat → Int32} {a_snow : Nat → Int32} {a_level : Nat → Int32} {f_begun : Int32} {f_minute : Int32} {f_avalanches : Int32} {a_run : Nat → Int32} {a_covers : Nat → Int32} {a_routes : Nat → Int32} {a_longest : Nat → Int32} {a_steep : Nat → Int32} {a_laid : Nat → Int32} {a_far : Nat → Int32} {f_sight : Int32} {a_runs : Nat → Int32} {f_choir : Int32} {f_voices : Int32} {a_rest : Nat → Int64} {a_wins : Nat → Int32} {f_seed : Int32} {a_other : Nat → Int32} {a_kept : Nat → Int32} {x1 : Int32} {x2 : Int32} {post : (Nat → Int32) → Prop} (hw : q_m_findRun_0 a_lands f_land f_huts a_run x1 x2 post) : Met l yX11_findRun (Cond.code yX11_findRun cX11_findRun 8 none :: zb) rm_m_findRun (va_Pc [.ref q, .int x1, .int x2] (fun U => mW E q f_code a_tape a_size a_fault a_faultPlace a_many a_lands a_evenings a_sights a_choirs f_reached f_length f_begins f_sort f_value f_word f_wrongAt f_laterFault f_laterPlace a_told a_read f_farHut f_farSinger f_good f_land f_huts f_singers f_evening a_at a_knows a_climbed a_snow a_level f_begun f_minute f_avalanches a_run a_covers a_routes a_longest a_steep a_laid a_far f_sight a_runs f_choir f_voices a_rest a_wins f_seed a_other a_kept U.heap ∧ zK E U)) (zQv (S := (Nat → Int32)) (fun u => post u) (fun u H => mW E q f_code a_tape a_size a_fault a_faultPlace a_many a_lands a_evenings a_sights a_choirs f_reached f_length f_begins f_sort f_value f_word f_wrongAt f_laterFault f_laterPlace a_told a_read f_farHut f_farSinger f_good f_land f_huts f_singers f_evening a_at a_knows a_climbed a_snow a_level f_begun f_minute f_avalanches u a_covers a_routes a_longest a_steep a_laid a_far f_sight a_runs f_choir f_voices a_rest a_wins f_seed a_other a_kept H) (mA q)) 0 0 (mA q) := by
  refine Met.ofW (cc := cX11_findRun) (maxL := 8) (ret := none) (by decide) rfl ?_
  intro p e s m args below meth c s₁ B hml hv
  obtain ⟨rfl, hM, hK⟩ := hv
  have zc := zc_of B hml
  have hl := lv_entry ([.ref q, .int x1, .int x2]) (n := 8) (Nat.le_of_ble_eq_true rfl)
  rw [lg_entry_eq]
  generalize (lg_sl ([.ref q, .int x1, .int x2]) ++ List.replicate (8 - (lg_sl ([.ref q, .int x1, .int x2])).length) Slot.unset).toArray = ls at hl ⊢
  have hl : lv_has ls 8 [(0, .ref q), (1, .int x1), (2, .int x2)] := hl
  exact t_m_findRun_0 zc hK hM va_S.rf (lv_sub hl [0, 1, 2] rfl) hw
-- m_known
abbrev rm_m_known : Room := { frames := 0, cells := 0, slots := 0, locals := 0 }
def q_m_known_0 (x0 : Int32) (post : Int32 → Prop) : Prop :=
  (x0 < (1000000 : Int32) → (post x0)) ∧ (¬ x0 < (1000000 : Int32) → (post (-1 : Int32)))
set_option maxRecDepth 20000 in
theorem t_m_known_0 {p : Program} {l : Launch} {e : Env} {s : State} {m : MethodId} {args : Array Value} {below : List Frame} {meth : Method} {c : Code} {post : Int32 → Prop} {x0 : Int32} {ls : Array Slot}
    (zc : zC p s m args meth c cX11_known 1 RX11 (some .int))
    (hl : lv_has ls 1 [(0, .int x0)])
    (hw : q_m_known_0 x0 post) :
    W p l e rm_m_known s m args below meth c s.heap [] 0 0 (MQ below (vp_Si post) args s 0 0 (fun _ => False)) (F0 m 0 ls []) := by
  have hx := zc.1
  have hb := zc.2.1
  refine lv_iload_n hx hb dX11_known_0 rfl (lv_at hl 0 rfl) ?_
  refine lv_ldcw (v := (1000000 : Int32)) hx hb zc.2.2.2.1 (zc.2.2.2.2.1 _ kc_11_410) dX11_known_1 ?_
  refine lv_icmp_lt (tgt := 11) hx hb dX11_known_4 (by decide) (fun hc => ?_) (fun hc => ?_)
  · have hw := hw.1 hc
    refine lv_iload_n hx hb dX11_known_11 rfl (lv_at hl 0 rfl) ?_
    exact zret_i zc hw dX11_known_12
  · have hw := hw.2 hc
    refine lv_iconst (v := (-1 : Int32)) hx hb dX11_known_7 (by decide) ?_
    refine lv_goto (tgt := 12) hx hb dX11_known_8 (by decide) ?_
    exact zret_i zc hw dX11_known_12
set_option maxRecDepth 20000 in
theorem c_m_known (l : Launch) {x0 : Int32} {post : Int32 → Prop} (hw : q_m_known_0 x0 post) : Met l yX11_known (Cond.code yX11_known cX11_known 1 (some .int) :: zb) rm_m_known (va_Pc [.int x0] (fun _ => True)) (vp_Si post) 0 0 (fun _ => False) := by
  refine Met.ofW (cc := cX11_known) (maxL := 1) (ret := (some .int)) (by decide) rfl ?_
  intro p e s m args below meth c s₁ B hml hv
  obtain ⟨rfl, -⟩ := hv
  have zc := zc_of B hml
  have hl := lv_entry ([.int x0]) (n := 1) (Nat.le_of_ble_eq_true rfl)
  rw [lg_entry_eq]
  generalize (lg_sl ([.int x0]) ++ List.replicate (1 - (lg_sl ([.int x0])).length) Slot.unset).toArray = ls at hl ⊢
  have hl : lv_has ls 1 [(0, .int x0)] := hl
  exact t_m_known_0 zc (lv_sub hl [0] rfl) hw
-- m_comes
abbrev rm_m_comes : Room := { frames := 3, cells := 0, slots := 0, locals := 70 }
def q_m_comes_0 (f_code : Int32) (a_many : Nat → Int32) (a_lands : Nat → Int32) (f_land : Int32) (f_huts : Int32) (f_singers : Int32) (a_run : Nat → Int32) (x1 : Int32) (x2 : Int32) (x3 : Int32) (post : Int32 → (Int32) → (Int32) → (Int32) → (Int32) → (Nat → Int32) → Prop) : Prop :=
  q_m_hand_0 a_many a_lands f_land f_huts f_singers x1 (fun r_1 f_land_1 f_huts_1 f_singers_1 => (r_1 = 0 → (post (-1 : Int32) (0 : Int32) f_land_1 f_huts_1 f_singers_1 a_run)) ∧ (¬ r_1 = 0 → (q_m_isHut_0 f_huts_1 x2 (fun r_2 => (r_2 = 0 → (post (-1 : Int32) (0 : Int32) f_land_1 f_huts_1 f_singers_1 a_run)) ∧ (¬ r_2 = 0 → (q_m_isHut_0 f_huts_1 x3 (fun r_3 => (¬ r_3 = 0 → (q_m_findRun_0 a_lands f_land_1 f_huts_1 a_run x2 (0 : Int32) (fun a_run_1 => vp_in x3 9 ∧ (q_m_known_0 (a_run_1 (Int32.toNatClampNeg x3)) (fun r_4 => post r_4 (0 : Int32) f_land_1 f_huts_1 f_singers_1 a_run_1))))) ∧ (r_3 = 0 → (post (-1 : Int32) (0 : Int32) f_land_1 f_huts_1 f_singers_1 a_run)))))))))
set_option maxRecDepth 20000 in
theorem t_m_comes_0 {p : Program} {l : Launch} {e : Env} {s : State} {m : MethodId} {args : Array Value} {below : List Frame} {meth : Method} {c : Code} {E : zE} {q : Nat} {f_code : Int32} {a_tape : Nat → Int32} {a_size : Nat → Int32} {a_fault : Nat → Int32} {a_faultPlace : Nat → Int32} {a_many : Nat → Int32} {a_lands : Nat → Int32} {a_evenings : Nat → Int32} {a_sights : Nat → Int32} {a_choirs : Nat → Int32} {f_reached : Int32} {f_length : Int32} {f_begins : Int32} {f_sort : Int32} {f_value : Int32} {f_word : Int64} {f_wrongAt : Int32} {f_laterFault : Int32} {f_laterPlace : Int32} {a_told : Nat → Int32} {a_read : Nat → Int32} {f_farHut : Int32} {f_farSinger : Int32} {f_good : Int32} {f_land : Int32} {f_huts : Int32} {f_singers : Int32} {f_evening : Int32} {a_at : Nat → Int32} {a_knows : Nat → Int32} {a_climbed : Nat → Int32} {a_snow : Nat → Int32} {a_level : Nat → Int32} {f_begun : Int32} {f_minute : Int32} {f_avalanches : Int32} {a_run : Nat → Int32} {a_covers : Nat → Int32} {a_routes : Nat → Int32} {a_longest : Nat → Int32} {a_steep : Nat → Int32} {a_laid : Nat → Int32} {a_far : Nat → Int32} {f_sight : Int32} {a_runs : Nat → Int32} {f_choir : Int32} {f_voices : Int32} {a_rest : Nat → Int64} {a_wins : Nat → Int32} {f_seed : Int32} {a_other : Nat → Int32} {a_kept : Nat → Int32} {post : Int32 → (Int32) → (Int32) → (Int32) → (Int32) → (Nat → Int32) → Prop} {x1 : Int32} {x2 : Int32} {x3 : Int32} {ls : Array Slot} {H : Heap} {locs : List Loc}
    (zc : zC p s m args meth c cX11_comes 4 RX11 (some .int))
    (hK : zK E s)
    (hM : mW E q f_code a_tape a_size a_fault a_faultPlace a_many a_lands a_evenings a_sights a_choirs f_reached f_length f_begins f_sort f_value f_word f_wrongAt f_laterFault f_laterPlace a_told a_read f_farHut f_farSinger f_good f_land f_huts f_singers f_evening a_at a_knows a_climbed a_snow a_level f_begun f_minute f_avalanches a_run a_covers a_routes a_longest a_steep a_laid a_far f_sight a_runs f_choir f_voices a_rest a_wins f_seed a_other a_kept H)
    (hS : va_S (mA q) s.heap H locs)
    (hl : lv_has ls 4 [(0, .ref q), (1, .int x1), (2, .int x2), (3, .int x3)])
    (hw : q_m_comes_0 f_code a_many a_lands f_land f_huts f_singers a_run x1 x2 x3 post) :
    W p l e rm_m_comes s m args below meth c H locs 0 0 (MQ below (zQi (S := (Int32) × (Int32) × (Int32) × (Int32) × (Nat → Int32)) (fun r u => post r u.1 u.2.1 u.2.2.1 u.2.2.2.1 u.2.2.2.2) (fun u H => mW E q u.1 a_tape a_size a_fault a_faultPlace a_many a_lands a_evenings a_sights a_choirs f_reached f_length f_begins f_sort f_value f_word f_wrongAt f_laterFault f_laterPlace a_told a_read f_farHut f_farSinger f_good u.2.1 u.2.2.1 u.2.2.2.1 f_evening a_at a_knows a_climbed a_snow a_level f_begun f_minute f_avalanches u.2.2.2.2 a_covers a_routes a_longest a_steep a_laid a_far f_sight a_runs f_choir f_voices a_rest a_wins f_seed a_other a_kept H) (mA q)) args s 0 0 (mA q)) (F0 m 0 ls []) := by
  have hx := zc.1
  have hb := zc.2.1
  refine lv_aload_n hx hb dX11_comes_0 rfl (lv_at hl 0 rfl) ?_
  refine lv_iconst (v := (0 : Int32)) hx hb dX11_comes_1 (by decide) ?_
  refine mp_11_97_0 zc hK hM hS dX11_comes_2 (fun H locs hM hS => ?_)
  refine lv_aload_n hx hb dX11_comes_5 rfl (lv_at hl 0 rfl) ?_
  refine lv_iload_n hx hb dX11_comes_6 rfl (lv_at hl 1 rfl) ?_
  refine zVw_i [.int x1] [] zc ky_X11_hand kz_X11_hand km_11_313 (c_m_hand l hw) (mPreV0 hK hM) hS rfl rfl hl.1 (Nat.le_of_ble_eq_true rfl) ⟨rfl, rfl⟩ ⟨Nat.le_of_ble_eq_true rfl, Nat.le_of_ble_eq_true rfl⟩ ⟨(Nat.zero_le _), (Nat.zero_le _)⟩ dX11_comes_7 (fun r_1 u H locs hw hM hS => ?_)
  obtain ⟨f_land_1, f_huts_1, f_singers_1⟩ := u
  refine lv_if_eq (tgt := 29) hx hb dX11_comes_10 (by decide) (fun hc => ?_) (fun hc => ?_)
  · have hw := hw.1 hc
    refine lv_iconst (v := (-1 : Int32)) hx hb dX11_comes_29 (by decide) ?_
    exact zret_iw ⟨(0 : Int32), f_land_1, f_huts_1, f_singers_1, a_run⟩ zc hS hw hM dX11_comes_30
  · have hw := hw.2 hc
    refine lv_aload_n hx hb dX11_comes_13 rfl (lv_at hl 0 rfl) ?_
    refine lv_iload_n hx hb dX11_comes_14 rfl (lv_at hl 2 rfl) ?_
    refine zV_i [.int x2] [] zc ky_X11_isHut kz_X11_isHut km_11_316 (c_m_isHut l hw) (mPreV0 hK hM) rfl rfl hl.1 (Nat.le_of_ble_eq_true rfl) ⟨rfl, rfl⟩ ⟨Nat.le_of_ble_eq_true rfl, Nat.le_of_ble_eq_true rfl⟩ ⟨(Nat.zero_le _), (Nat.zero_le _)⟩ dX11_comes_15 (fun r_2 hw => ?_)
    refine lv_if_eq (tgt := 29) hx hb dX11_comes_18 (by decide) (fun hc => ?_) (fun hc => ?_)
    · have hw := hw.1 hc
      refine lv_iconst (v := (-1 : Int32)) hx hb dX11_comes_29 (by decide) ?_
      exact zret_iw ⟨(0 : Int32), f_land_1, f_huts_1, f_singers_1, a_run⟩ zc hS hw hM dX11_comes_30
    · have hw := hw.2 hc
      refine lv_aload_n hx hb dX11_comes_21 rfl (lv_at hl 0 rfl) ?_
      refine lv_iload_n hx hb dX11_comes_22 rfl (lv_at hl 3 rfl) ?_
      refine zV_i [.int x3] [] zc ky_X11_isHut kz_X11_isHut km_11_316 (c_m_isHut l hw) (mPreV0 hK hM) rfl rfl hl.1 (Nat.le_of_ble_eq_true rfl) ⟨rfl, rfl⟩ ⟨Nat.le_of_ble_eq_true rfl, Nat.le_of_ble_eq_true rfl⟩ ⟨(Nat.zero_le _), (Nat.zero_le _)⟩ dX11_comes_23 (fun r_3 hw => ?_)
      refine lv_if_ne (tgt := 31) hx hb dX11_comes_26 (by decide) (fun hc => ?_) (fun hc => ?_)
      · have hw := hw.1 hc
        refine lv_aload_n hx hb dX11_comes_31 rfl (lv_at hl 0 rfl) ?_
        refine lv_iload_n hx hb dX11_comes_32 rfl (lv_at hl 2 rfl) ?_
        refine lv_iconst (v := (0 : Int32)) hx hb dX11_comes_33 (by decide) ?_
        refine zVw_v [.int x2, .int (0 : Int32)] [] zc ky_X11_findRun kz_X11_findRun km_11_414 (c_m_findRun l hw) (mPreV0 hK hM) hS rfl rfl hl.1 (Nat.le_of_ble_eq_true rfl) ⟨rfl, rfl⟩ ⟨Nat.le_of_ble_eq_true rfl, Nat.le_of_ble_eq_true rfl⟩ ⟨(Nat.zero_le _), (Nat.zero_le _)⟩ dX11_comes_34 (fun a_run_1 H locs hw hM hS => ?_)
        refine lv_aload_n hx hb dX11_comes_37 rfl (lv_at hl 0 rfl) ?_
        refine mg_11_59_0 zc hK hM dX11_comes_38 ?_
        refine lv_iload_n hx hb dX11_comes_41 rfl (lv_at hl 3 rfl) ?_
        refine mld_17 zc hK hM hw.1 dX11_comes_42 ?_
        have hw := hw.2
        refine zS_i [.int (a_run_1 (Int32.toNatClampNeg x3))] [] zc ky_X11_known kz_X11_known km_11_417 (c_m_known l hw) (zPre0 _) rfl rfl hl.1 (Nat.le_of_ble_eq_true rfl) ⟨rfl, rfl⟩ ⟨Nat.le_of_ble_eq_true rfl, Nat.le_of_ble_eq_true rfl⟩ ⟨(Nat.zero_le _), (Nat.zero_le _)⟩ dX11_comes_43 (fun r_4 hw => ?_)
        exact zret_iw ⟨(0 : Int32), f_land_1, f_huts_1, f_singers_1, a_run_1⟩ zc hS hw hM dX11_comes_46
      · have hw := hw.2 hc
        refine lv_iconst (v := (-1 : Int32)) hx hb dX11_comes_29 (by decide) ?_
        exact zret_iw ⟨(0 : Int32), f_land_1, f_huts_1, f_singers_1, a_run⟩ zc hS hw hM dX11_comes_30
set_option maxRecDepth 20000 in
theorem c_m_comes (l : Launch) {E : zE} {q : Nat} {f_code : Int32} {a_tape : Nat → Int32} {a_size : Nat → Int32} {a_fault : Nat → Int32} {a_faultPlace : Nat → Int32} {a_many : Nat → Int32} {a_lands : Nat → Int32} {a_evenings : Nat → Int32} {a_sights : Nat → Int32} {a_choirs : Nat → Int32} {f_reached : Int32} {f_length : Int32} {f_begins : Int32} {f_sort : Int32} {f_value : Int32} {f_word : Int64} {f_wrongAt : Int32} {f_laterFault : Int32} {f_laterPlace : Int32} {a_told : Nat → Int32} {a_read : Nat → Int32} {f_farHut : Int32} {f_farSinger : Int32} {f_good : Int32} {f_land : Int32} {f_huts : Int32} {f_singers : Int32} {f_evening : Int32} {a_at : Nat → Int32} {a_knows : Nat → Int32} {a_climbed : Nat → Int32} {a_snow : Nat → Int32} {a_level : Nat → Int32} {f_begun : Int32} {f_minute : Int32} {f_avalanches : Int32} {a_run : Nat → Int32} {a_covers : Nat → Int32} {a_routes : Nat → Int32} {a_longest : Nat → Int32} {a_steep : Nat → Int32} {a_laid : Nat → Int32} {a_far : Nat → Int32} {f_sight : Int32} {a_runs : Nat → Int32} {f_choir : Int32} {f_voices : Int32} {a_rest : Nat → Int64} {a_wins : Nat → Int32} {f_seed : Int32} {a_other : Nat → Int32} {a_kept : Nat → Int32} {x1 : Int32} {x2 : Int32} {x3 : Int32} {post : Int32 → (Int32) → (Int32) → (Int32) → (Int32) → (Nat → Int32) → Prop} (hw : q_m_comes_0 f_code a_many a_lands f_land f_huts f_singers a_run x1 x2 x3 post) : Met l yX11_comes (Cond.code yX11_comes cX11_comes 4 (some .int) :: zb) rm_m_comes (va_Pc [.ref q, .int x1, .int x2, .int x3] (fun U => mW E q f_code a_tape a_size a_fault a_faultPlace a_many a_lands a_evenings a_sights a_choirs f_reached f_length f_begins f_sort f_value f_word f_wrongAt f_laterFault f_laterPlace a_told a_read f_farHut f_farSinger f_good f_land f_huts f_singers f_evening a_at a_knows a_climbed a_snow a_level f_begun f_minute f_avalanches a_run a_covers a_routes a_longest a_steep a_laid a_far f_sight a_runs f_choir f_voices a_rest a_wins f_seed a_other a_kept U.heap ∧ zK E U)) (zQi (S := (Int32) × (Int32) × (Int32) × (Int32) × (Nat → Int32)) (fun r u => post r u.1 u.2.1 u.2.2.1 u.2.2.2.1 u.2.2.2.2) (fun u H => mW E q u.1 a_tape a_size a_fault a_faultPlace a_many a_lands a_evenings a_sights a_choirs f_reached f_length f_begins f_sort f_value f_word f_wrongAt f_laterFault f_laterPlace a_told a_read f_farHut f_farSinger f_good u.2.1 u.2.2.1 u.2.2.2.1 f_evening a_at a_knows a_climbed a_snow a_level f_begun f_minute f_avalanches u.2.2.2.2 a_covers a_routes a_longest a_steep a_laid a_far f_sight a_runs f_choir f_voices a_rest a_wins f_seed a_other a_kept H) (mA q)) 0 0 (mA q) := by
  refine Met.ofW (cc := cX11_comes) (maxL := 4) (ret := (some .int)) (by decide) rfl ?_
  intro p e s m args below meth c s₁ B hml hv
  obtain ⟨rfl, hM, hK⟩ := hv
  have zc := zc_of B hml
  have hl := lv_entry ([.ref q, .int x1, .int x2, .int x3]) (n := 4) (Nat.le_of_ble_eq_true rfl)
  rw [lg_entry_eq]
  generalize (lg_sl ([.ref q, .int x1, .int x2, .int x3]) ++ List.replicate (4 - (lg_sl ([.ref q, .int x1, .int x2, .int x3])).length) Slot.unset).toArray = ls at hl ⊢
  have hl : lv_has ls 4 [(0, .ref q), (1, .int x1), (2, .int x2), (3, .int x3)] := hl
  exact t_m_comes_0 zc hK hM va_S.rf (lv_sub hl [0, 1, 2, 3] rfl) hw
-- m_wanted
abbrev rm_m_wanted : Room := { frames := 1, cells := 0, slots := 0, locals := 21 }
def q_m_wanted_0 (a_lands : Nat → Int32) (f_land : Int32) (post : Int32 → Prop) : Prop :=
  q_m_of_0 a_lands f_land (2 : Int32) (fun r_1 => q_m_of_0 a_lands f_land (3 : Int32) (fun r_2 => post (r_1 &&& (r_2 ^^^ (-1 : Int32)))))
set_option maxRecDepth 20000 in
theorem t_m_wanted_0 {p : Program} {l : Launch} {e : Env} {s : State} {m : MethodId} {args : Array Value} {below : List Frame} {meth : Method} {c : Code} {E : zE} {q : Nat} {f_code : Int32} {a_tape : Nat → Int32} {a_size : Nat → Int32} {a_fault : Nat → Int32} {a_faultPlace : Nat → Int32} {a_many : Nat → Int32} {a_lands : Nat → Int32} {a_evenings : Nat → Int32} {a_sights : Nat → Int32} {a_choirs : Nat → Int32} {f_reached : Int32} {f_length : Int32} {f_begins : Int32} {f_sort : Int32} {f_value : Int32} {f_word : Int64} {f_wrongAt : Int32} {f_laterFault : Int32} {f_laterPlace : Int32} {a_told : Nat → Int32} {a_read : Nat → Int32} {f_farHut : Int32} {f_farSinger : Int32} {f_good : Int32} {f_land : Int32} {f_huts : Int32} {f_singers : Int32} {f_evening : Int32} {a_at : Nat → Int32} {a_knows : Nat → Int32} {a_climbed : Nat → Int32} {a_snow : Nat → Int32} {a_level : Nat → Int32} {f_begun : Int32} {f_minute : Int32} {f_avalanches : Int32} {a_run : Nat → Int32} {a_covers : Nat → Int32} {a_routes : Nat → Int32} {a_longest : Nat → Int32} {a_steep : Nat → Int32} {a_laid : Nat → Int32} {a_far : Nat → Int32} {f_sight : Int32} {a_runs : Nat → Int32} {f_choir : Int32} {f_voices : Int32} {a_rest : Nat → Int64} {a_wins : Nat → Int32} {f_seed : Int32} {a_other : Nat → Int32} {a_kept : Nat → Int32} {post : Int32 → Prop} {ls : Array Slot}
    (zc : zC p s m args meth c cX11_wanted 1 RX11 (some .int))
    (hK : zK E s)
    (hM : mW E q f_code a_tape a_size a_fault a_faultPlace a_many a_lands a_evenings a_sights a_choirs f_reached f_length f_begins f_sort f_value f_word f_wrongAt f_laterFault f_laterPlace a_told a_read f_farHut f_farSinger f_good f_land f_huts f_singers f_evening a_at a_knows a_climbed a_snow a_level f_begun f_minute f_avalanches a_run a_covers a_routes a_longest a_steep a_laid a_far f_sight a_runs f_choir f_voices a_rest a_wins f_seed a_other a_kept s.heap)
    (hl : lv_has ls 1 [(0, .ref q)])
    (hw : q_m_wanted_0 a_lands f_land post) :
    W p l e rm_m_wanted s m args below meth c s.heap [] 0 0 (MQ below (vp_Si post) args s 0 0 (fun _ => False)) (F0 m 0 ls []) := by
  have hx := zc.1
  have hb := zc.2.1
  refine lv_aload_n hx hb dX11_wanted_0 rfl (lv_at hl 0 rfl) ?_
  refine lv_iconst (v := (2 : Int32)) hx hb dX11_wanted_1 (by decide) ?_
  refine zV_i [.int (2 : Int32)] [] zc ky_X11_of kz_X11_of km_11_303 (c_m_of l hw) (mPreV0 hK hM) rfl rfl hl.1 (Nat.le_of_ble_eq_true rfl) ⟨rfl, rfl⟩ ⟨Nat.le_of_ble_eq_true rfl, Nat.le_of_ble_eq_true rfl⟩ ⟨(Nat.zero_le _), (Nat.zero_le _)⟩ dX11_wanted_2 (fun r_1 hw => ?_)
  refine lv_aload_n hx hb dX11_wanted_5 rfl (lv_at hl 0 rfl) ?_
  refine lv_iconst (v := (3 : Int32)) hx hb dX11_wanted_6 (by decide) ?_
  refine zV_i [.int (3 : Int32)] [.int r_1] zc ky_X11_of kz_X11_of km_11_303 (c_m_of l hw) (mPreV0 hK hM) rfl rfl hl.1 (Nat.le_of_ble_eq_true rfl) ⟨rfl, rfl⟩ ⟨Nat.le_of_ble_eq_true rfl, Nat.le_of_ble_eq_true rfl⟩ ⟨(Nat.zero_le _), (Nat.zero_le _)⟩ dX11_wanted_7 (fun r_2 hw => ?_)
  refine lv_iconst (v := (-1 : Int32)) hx hb dX11_wanted_10 (by decide) ?_
  refine lv_ixor hx hb dX11_wanted_11 ?_
  refine lv_iand hx hb dX11_wanted_12 ?_
  exact zret_i zc hw dX11_wanted_13
set_option maxRecDepth 20000 in
theorem c_m_wanted (l : Launch) {E : zE} {q : Nat} {f_code : Int32} {a_tape : Nat → Int32} {a_size : Nat → Int32} {a_fault : Nat → Int32} {a_faultPlace : Nat → Int32} {a_many : Nat → Int32} {a_lands : Nat → Int32} {a_evenings : Nat → Int32} {a_sights : Nat → Int32} {a_choirs : Nat → Int32} {f_reached : Int32} {f_length : Int32} {f_begins : Int32} {f_sort : Int32} {f_value : Int32} {f_word : Int64} {f_wrongAt : Int32} {f_laterFault : Int32} {f_laterPlace : Int32} {a_told : Nat → Int32} {a_read : Nat → Int32} {f_farHut : Int32} {f_farSinger : Int32} {f_good : Int32} {f_land : Int32} {f_huts : Int32} {f_singers : Int32} {f_evening : Int32} {a_at : Nat → Int32} {a_knows : Nat → Int32} {a_climbed : Nat → Int32} {a_snow : Nat → Int32} {a_level : Nat → Int32} {f_begun : Int32} {f_minute : Int32} {f_avalanches : Int32} {a_run : Nat → Int32} {a_covers : Nat → Int32} {a_routes : Nat → Int32} {a_longest : Nat → Int32} {a_steep : Nat → Int32} {a_laid : Nat → Int32} {a_far : Nat → Int32} {f_sight : Int32} {a_runs : Nat → Int32} {f_choir : Int32} {f_voices : Int32} {a_rest : Nat → Int64} {a_wins : Nat → Int32} {f_seed : Int32} {a_other : Nat → Int32} {a_kept : Nat → Int32} {post : Int32 → Prop} (hw : q_m_wanted_0 a_lands f_land post) : Met l yX11_wanted (Cond.code yX11_wanted cX11_wanted 1 (some .int) :: zb) rm_m_wanted (va_Pc [.ref q] (fun U => mW E q f_code a_tape a_size a_fault a_faultPlace a_many a_lands a_evenings a_sights a_choirs f_reached f_length f_begins f_sort f_value f_word f_wrongAt f_laterFault f_laterPlace a_told a_read f_farHut f_farSinger f_good f_land f_huts f_singers f_evening a_at a_knows a_climbed a_snow a_level f_begun f_minute f_avalanches a_run a_covers a_routes a_longest a_steep a_laid a_far f_sight a_runs f_choir f_voices a_rest a_wins f_seed a_other a_kept U.heap ∧ zK E U)) (vp_Si post) 0 0 (fun _ => False) := by
  refine Met.ofW (cc := cX11_wanted) (maxL := 1) (ret := (some .int)) (by decide) rfl ?_
  intro p e s m args below meth c s₁ B hml hv
  obtain ⟨rfl, hM, hK⟩ := hv
  have zc := zc_of B hml
  have hl := lv_entry ([.ref q]) (n := 1) (Nat.le_of_ble_eq_true rfl)
  rw [lg_entry_eq]
  generalize (lg_sl ([.ref q]) ++ List.replicate (1 - (lg_sl ([.ref q])).length) Slot.unset).toArray = ls at hl ⊢
  have hl : lv_has ls 1 [(0, .ref q)] := hl
  exact t_m_wanted_0 zc hK hM (lv_sub hl [0] rfl) hw
end
section
-- m_lastVillage
abbrev rm_m_lastVillage : Room := { frames := 2, cells := 0, slots := 0, locals := 41 }
def q_m_lastVillage_37 (P4 : Int32 → Int32 → Prop) (a_lands : Nat → Int32) (f_land : Int32) (f_huts : Int32) (a_run : Nat → Int32) (x2 : Int32) (y0 : Int32) (post : Int32 → Prop) : Prop :=
  ∀ v_1 : Int32, v_1 = x2 + (1 : Int32) → (P4 y0 v_1)
def q_m_lastVillage_4 (a_lands : Nat → Int32) (f_land : Int32) (f_huts : Int32) (a_run : Nat → Int32) (x1 : Int32) (x2 : Int32) (post : Int32 → Prop) : Prop :=
  ∀ P4 : Int32 → Int32 → Prop, (∀ (x1 : Int32) (x2 : Int32), ((f_huts ≤ x2 → (post x1)) ∧ (¬ f_huts ≤ x2 → (q_m_wanted_0 a_lands f_land (fun r_1 => q_m_has_0 r_1 x2 (fun r_2 => (r_2 = 0 → (q_m_lastVillage_37 P4 a_lands f_land f_huts a_run x2 x1 post)) ∧ (¬ r_2 = 0 → (vp_in x2 9 ∧ (q_m_greater_0 x1 (a_run (Int32.toNatClampNeg x2)) (fun r_3 => q_m_lastVillage_37 P4 a_lands f_land f_huts a_run x2 r_3 post))))))))) → P4 x1 x2) → P4 x1 x2
def q_m_lastVillage_0 (a_lands : Nat → Int32) (f_land : Int32) (f_huts : Int32) (a_run : Nat → Int32) (post : Int32 → Prop) : Prop :=
  q_m_lastVillage_4 a_lands f_land f_huts a_run (0 : Int32) (0 : Int32) post
set_option maxRecDepth 20000 in
theorem t_m_lastVillage_37 {p : Program} {l : Launch} {e : Env} {s : State} {m : MethodId} {args : Array Value} {below : List Frame} {meth : Method} {c : Code} {E : zE} {q : Nat} {f_code : Int32} {a_tape : Nat → Int32} {a_size : Nat → Int32} {a_fault : Nat → Int32} {a_faultPlace : Nat → Int32} {a_many : Nat → Int32} {a_lands : Nat → Int32} {a_evenings : Nat → Int32} {a_sights : Nat → Int32} {a_choirs : Nat → Int32} {f_reached : Int32} {f_length : Int32} {f_begins : Int32} {f_sort : Int32} {f_value : Int32} {f_word : Int64} {f_wrongAt : Int32} {f_laterFault : Int32} {f_laterPlace : Int32} {a_told : Nat → Int32} {a_read : Nat → Int32} {f_farHut : Int32} {f_farSinger : Int32} {f_good : Int32} {f_land : Int32} {f_huts : Int32} {f_singers : Int32} {f_evening : Int32} {a_at : Nat → Int32} {a_knows : Nat → Int32} {a_climbed : Nat → Int32} {a_snow : Nat → Int32} {a_level : Nat → Int32} {f_begun : Int32} {f_minute : Int32} {f_avalanches : Int32} {a_run : Nat → Int32} {a_covers : Nat → Int32} {a_routes : Nat → Int32} {a_longest : Nat → Int32} {a_steep : Nat → Int32} {a_laid : Nat → Int32} {a_far : Nat → Int32} {f_sight : Int32} {a_runs : Nat → Int32} {f_choir : Int32} {f_voices : Int32} {a_rest : Nat → Int64} {a_wins : Nat → Int32} {f_seed : Int32} {a_other : Nat → Int32} {a_kept : Nat → Int32} {P4 : Int32 → Int32 → Prop} {post : Int32 → Prop} {x2 : Int32} {y0 : Int32} {ls : Array Slot}
    (zc : zC p s m args meth c cX11_lastVillage 3 RX11 (some .int))
    (hK : zK E s)
    (hM : mW E q f_code a_tape a_size a_fault a_faultPlace a_many a_lands a_evenings a_sights a_choirs f_reached f_length f_begins f_sort f_value f_word f_wrongAt f_laterFault f_laterPlace a_told a_read f_farHut f_farSinger f_good f_land f_huts f_singers f_evening a_at a_knows a_climbed a_snow a_level f_begun f_minute f_avalanches a_run a_covers a_routes a_longest a_steep a_laid a_far f_sight a_runs f_choir f_voices a_rest a_wins f_seed a_other a_kept s.heap)
    (hP4 : ∀ (x1 : Int32) (x2 : Int32) (ls : Array Slot), P4 x1 x2 → lv_has ls 3 [(0, .ref q), (1, .int x1), (2, .int x2)] → W p l e rm_m_lastVillage s m args below meth c s.heap [] 0 0 (MQ below (vp_Si post) args s 0 0 (fun _ => False)) (F0 m 4 ls []))
    (hl : lv_has ls 3 [(0, .ref q), (2, .int x2)])
    (hw : q_m_lastVillage_37 P4 a_lands f_land f_huts a_run x2 y0 post) :
    W p l e rm_m_lastVillage s m args below meth c s.heap [] 0 0 (MQ below (vp_Si post) args s 0 0 (fun _ => False)) (F0 m 37 ls [.int y0]) := by
  have hx := zc.1
  have hb := zc.2.1
  refine lv_istore_n (lv' := [(1, .int y0), (0, .ref q), (2, .int x2)]) hx hb dX11_lastVillage_37 rfl hl (by decide) rfl (fun ls hl => ?_)
  obtain ⟨v_1, ev_1⟩ : ∃ y : Int32, y = x2 + (1 : Int32) := ⟨_, rfl⟩
  have hw := hw v_1 ev_1
  refine lv_iinc (v := v_1) (k := 2) (lv' := [(2, .int v_1), (1, .int y0), (0, .ref q)]) hx hb dX11_lastVillage_38 hl rfl (by rw [ev_1]; rfl) (by decide) rfl (fun ls hl => ?_)
  refine lv_goto (tgt := 4) hx hb dX11_lastVillage_41 (by decide) ?_
  exact hP4 _ _ _ hw (lv_sub hl [2, 1, 0] rfl)
set_option maxRecDepth 20000 in
theorem t_m_lastVillage_4 {p : Program} {l : Launch} {e : Env} {s : State} {m : MethodId} {args : Array Value} {below : List Frame} {meth : Method} {c : Code} {E : zE} {q : Nat} {f_code : Int32} {a_tape : Nat → Int32} {a_size : Nat → Int32} {a_fault : Nat → Int32} {a_faultPlace : Nat → Int32} {a_many : Nat → Int32} {a_lands : Nat → Int32} {a_evenings : Nat → Int32} {a_sights : Nat → Int32} {a_choirs : Nat → Int32} {f_reached : Int32} {f_length : Int32} {f_begins : Int32} {f_sort : Int32} {f_value : Int32} {f_word : Int64} {f_wrongAt : Int32} {f_laterFault : Int32} {f_laterPlace : Int32} {a_told : Nat → Int32} {a_read : Nat → Int32} {f_farHut : Int32} {f_farSinger : Int32} {f_good : Int32} {f_land : Int32} {f_huts : Int32} {f_singers : Int32} {f_evening : Int32} {a_at : Nat → Int32} {a_knows : Nat → Int32} {a_climbed : Nat → Int32} {a_snow : Nat → Int32} {a_level : Nat → Int32} {f_begun : Int32} {f_minute : Int32} {f_avalanches : Int32} {a_run : Nat → Int32} {a_covers : Nat → Int32} {a_routes : Nat → Int32} {a_longest : Nat → Int32} {a_steep : Nat → Int32} {a_laid : Nat → Int32} {a_far : Nat → Int32} {f_sight : Int32} {a_runs : Nat → Int32} {f_choir : Int32} {f_voices : Int32} {a_rest : Nat → Int64} {a_wins : Nat → Int32} {f_seed : Int32} {a_other : Nat → Int32} {a_kept : Nat → Int32} {post : Int32 → Prop} {x1 : Int32} {x2 : Int32} {ls : Array Slot}
    (zc : zC p s m args meth c cX11_lastVillage 3 RX11 (some .int))
    (hK : zK E s)
    (hM : mW E q f_code a_tape a_size a_fault a_faultPlace a_many a_lands a_evenings a_sights a_choirs f_reached f_length f_begins f_sort f_value f_word f_wrongAt f_laterFault f_laterPlace a_told a_read f_farHut f_farSinger f_good f_land f_huts f_singers f_evening a_at a_knows a_climbed a_snow a_level f_begun f_minute f_avalanches a_run a_covers a_routes a_longest a_steep a_laid a_far f_sight a_runs f_choir f_voices a_rest a_wins f_seed a_other a_kept s.heap)
    (hl : lv_has ls 3 [(0, .ref q), (1, .int x1), (2, .int x2)])
    (hw : q_m_lastVillage_4 a_lands f_land f_huts a_run x1 x2 post) :
    W p l e rm_m_lastVillage s m args below meth c s.heap [] 0 0 (MQ below (vp_Si post) args s 0 0 (fun _ => False)) (F0 m 4 ls []) := by
  have hx := zc.1
  have hb := zc.2.1
  refine hw (fun x1 x2 => ∀ (ls : Array Slot), lv_has ls 3 [(0, .ref q), (1, .int x1), (2, .int x2)] → W p l e rm_m_lastVillage s m args below meth c s.heap [] 0 0 (MQ below (vp_Si post) args s 0 0 (fun _ => False)) (F0 m 4 ls [])) ?_ _ hl
  intro x1 x2 hw ls hl
  refine lv_iload_n hx hb dX11_lastVillage_4 rfl (lv_at hl 2 rfl) ?_
  refine lv_aload_n hx hb dX11_lastVillage_5 rfl (lv_at hl 0 rfl) ?_
  refine mg_11_307_0 zc hK hM dX11_lastVillage_6 ?_
  refine lv_icmp_ge (tgt := 44) hx hb dX11_lastVillage_9 (by decide) (fun hc => ?_) (fun hc => ?_)
  · have hw := hw.1 hc
    refine lv_iload_n hx hb dX11_lastVillage_44 rfl (lv_at hl 1 rfl) ?_
    exact zret_i zc hw dX11_lastVillage_45
  · have hw := hw.2 hc
    refine lv_aload_n hx hb dX11_lastVillage_12 rfl (lv_at hl 0 rfl) ?_
    refine zV_i [] [] zc ky_X11_wanted kz_X11_wanted km_11_420 (c_m_wanted l hw) (mPreV0 hK hM) rfl rfl hl.1 (Nat.le_of_ble_eq_true rfl) ⟨rfl, rfl⟩ ⟨Nat.le_of_ble_eq_true rfl, Nat.le_of_ble_eq_true rfl⟩ ⟨(Nat.zero_le _), (Nat.zero_le _)⟩ dX11_lastVillage_13 (fun r_1 hw => ?_)
    refine lv_iload_n hx hb dX11_lastVillage_16 rfl (lv_at hl 2 rfl) ?_
    refine zS_i [.int r_1, .int x2] [] zc ky_X11_has kz_X11_has km_11_101 (c_m_has l hw) (zPre0 _) rfl rfl hl.1 (Nat.le_of_ble_eq_true rfl) ⟨rfl, rfl⟩ ⟨Nat.le_of_ble_eq_true rfl, Nat.le_of_ble_eq_true rfl⟩ ⟨(Nat.zero_le _), (Nat.zero_le _)⟩ dX11_lastVillage_17 (fun r_2 hw => ?_)
    refine lv_if_eq (tgt := 36) hx hb dX11_lastVillage_20 (by decide) (fun hc => ?_) (fun hc => ?_)
    · have hw := hw.1 hc
      refine lv_iload_n hx hb dX11_lastVillage_36 rfl (lv_at hl 1 rfl) ?_
      exact t_m_lastVillage_37 zc hK hM (fun _ _ ls h hl => h ls hl) (lv_sub hl [0, 2] rfl) hw
    · have hw := hw.2 hc
      refine lv_iload_n hx hb dX11_lastVillage_23 rfl (lv_at hl 1 rfl) ?_
      refine lv_aload_n hx hb dX11_lastVillage_24 rfl (lv_at hl 0 rfl) ?_
      refine mg_11_59_0 zc hK hM dX11_lastVillage_25 ?_
      refine lv_iload_n hx hb dX11_lastVillage_28 rfl (lv_at hl 2 rfl) ?_
      refine mld_17 zc hK hM hw.1 dX11_lastVillage_29 ?_
      have hw := hw.2
      refine zS_i [.int x1, .int (a_run (Int32.toNatClampNeg x2))] [] zc ky_X11_greater kz_X11_greater km_11_171 (c_m_greater l hw) (zPre0 _) rfl rfl hl.1 (Nat.le_of_ble_eq_true rfl) ⟨rfl, rfl⟩ ⟨Nat.le_of_ble_eq_true rfl, Nat.le_of_ble_eq_true rfl⟩ ⟨(Nat.zero_le _), (Nat.zero_le _)⟩ dX11_lastVillage_30 (fun r_3 hw => ?_)
      refine lv_goto (tgt := 37) hx hb dX11_lastVillage_33 (by decide) ?_
      exact t_m_lastVillage_37 zc hK hM (fun _ _ ls h hl => h ls hl) (lv_sub hl [0, 2] rfl) hw
set_option maxRecDepth 20000 in
theorem t_m_lastVillage_0 {p : Program} {l : Launch} {e : Env} {s : State} {m : MethodId} {args : Array Value} {below : List Frame} {meth : Method} {c : Code} {E : zE} {q : Nat} {f_code : Int32} {a_tape : Nat → Int32} {a_size : Nat → Int32} {a_fault : Nat → Int32} {a_faultPlace : Nat → Int32} {a_many : Nat → Int32} {a_lands : Nat → Int32} {a_evenings : Nat → Int32} {a_sights : Nat → Int32} {a_choirs : Nat → Int32} {f_reached : Int32} {f_length : Int32} {f_begins : Int32} {f_sort : Int32} {f_value : Int32} {f_word : Int64} {f_wrongAt : Int32} {f_laterFault : Int32} {f_laterPlace : Int32} {a_told : Nat → Int32} {a_read : Nat → Int32} {f_farHut : Int32} {f_farSinger : Int32} {f_good : Int32} {f_land : Int32} {f_huts : Int32} {f_singers : Int32} {f_evening : Int32} {a_at : Nat → Int32} {a_knows : Nat → Int32} {a_climbed : Nat → Int32} {a_snow : Nat → Int32} {a_level : Nat → Int32} {f_begun : Int32} {f_minute : Int32} {f_avalanches : Int32} {a_run : Nat → Int32} {a_covers : Nat → Int32} {a_routes : Nat → Int32} {a_longest : Nat → Int32} {a_steep : Nat → Int32} {a_laid : Nat → Int32} {a_far : Nat → Int32} {f_sight : Int32} {a_runs : Nat → Int32} {f_choir : Int32} {f_voices : Int32} {a_rest : Nat → Int64} {a_wins : Nat → Int32} {f_seed : Int32} {a_other : Nat → Int32} {a_kept : Nat → Int32} {post : Int32 → Prop} {ls : Array Slot}
    (zc : zC p s m args meth c cX11_lastVillage 3 RX11 (some .int))
    (hK : zK E s)
    (hM : mW E q f_code a_tape a_size a_fault a_faultPlace a_many a_lands a_evenings a_sights a_choirs f_reached f_length f_begins f_sort f_value f_word f_wrongAt f_laterFault f_laterPlace a_told a_read f_farHut f_farSinger f_good f_land f_huts f_singers f_evening a_at a_knows a_climbed a_snow a_level f_begun f_minute f_avalanches a_run a_covers a_routes a_longest a_steep a_laid a_far f_sight a_runs f_choir f_voices a_rest a_wins f_seed a_other a_kept s.heap)
    (hl : lv_has ls 3 [(0, .ref q)])
    (hw : q_m_lastVillage_0 a_lands f_land f_huts a_run post) :
    W p l e rm_m_lastVillage s m args below meth c s.heap [] 0 0 (MQ below (vp_Si post) args s 0 0 (fun _ => False)) (F0 m 0 ls []) := by
  have hx := zc.1
  have hb := zc.2.1
  refine lv_iconst (v := (0 : Int32)) hx hb dX11_lastVillage_0 (by decide) ?_
  refine lv_istore_n (lv' := [(1, .int (0 : Int32)), (0, .ref q)]) hx hb dX11_lastVillage_1 rfl hl (by decide) rfl (fun ls hl => ?_)
  refine lv_iconst (v := (0 : Int32)) hx hb dX11_lastVillage_2 (by decide) ?_
  refine lv_istore_n (lv' := [(2, .int (0 : Int32)), (1, .int (0 : Int32)), (0, .ref q)]) hx hb dX11_lastVillage_3 rfl hl (by decide) rfl (fun ls hl => ?_)
  exact t_m_lastVillage_4 zc hK hM  (lv_sub hl [2, 1, 0] rfl) hw
set_option maxRecDepth 20000 in
theorem c_m_lastVillage (l : Launch) {E : zE} {q : Nat} {f_code : Int32} {a_tape : Nat → Int32} {a_size : Nat → Int32} {a_fault : Nat → Int32} {a_faultPlace : Nat → Int32} {a_many : Nat → Int32} {a_lands : Nat → Int32} {a_evenings : Nat → Int32} {a_sights : Nat → Int32} {a_choirs : Nat → Int32} {f_reached : Int32} {f_length : Int32} {f_begins : Int32} {f_sort : Int32} {f_value : Int32} {f_word : Int64} {f_wrongAt : Int32} {f_laterFault : Int32} {f_laterPlace : Int32} {a_told : Nat → Int32} {a_read : Nat → Int32} {f_farHut : Int32} {f_farSinger : Int32} {f_good : Int32} {f_land : Int32} {f_huts : Int32} {f_singers : Int32} {f_evening : Int32} {a_at : Nat → Int32} {a_knows : Nat → Int32} {a_climbed : Nat → Int32} {a_snow : Nat → Int32} {a_level : Nat → Int32} {f_begun : Int32} {f_minute : Int32} {f_avalanches : Int32} {a_run : Nat → Int32} {a_covers : Nat → Int32} {a_routes : Nat → Int32} {a_longest : Nat → Int32} {a_steep : Nat → Int32} {a_laid : Nat → Int32} {a_far : Nat → Int32} {f_sight : Int32} {a_runs : Nat → Int32} {f_choir : Int32} {f_voices : Int32} {a_rest : Nat → Int64} {a_wins : Nat → Int32} {f_seed : Int32} {a_other : Nat → Int32} {a_kept : Nat → Int32} {post : Int32 → Prop} (hw : q_m_lastVillage_0 a_lands f_land f_huts a_run post) : Met l yX11_lastVillage (Cond.code yX11_lastVillage cX11_lastVillage 3 (some .int) :: zb) rm_m_lastVillage (va_Pc [.ref q] (fun U => mW E q f_code a_tape a_size a_fault a_faultPlace a_many a_lands a_evenings a_sights a_choirs f_reached f_length f_begins f_sort f_value f_word f_wrongAt f_laterFault f_laterPlace a_told a_read f_farHut f_farSinger f_good f_land f_huts f_singers f_evening a_at a_knows a_climbed a_snow a_level f_begun f_minute f_avalanches a_run a_covers a_routes a_longest a_steep a_laid a_far f_sight a_runs f_choir f_voices a_rest a_wins f_seed a_other a_kept U.heap ∧ zK E U)) (vp_Si post) 0 0 (fun _ => False) := by
  refine Met.ofW (cc := cX11_lastVillage) (maxL := 3) (ret := (some .int)) (by decide) rfl ?_
  intro p e s m args below meth c s₁ B hml hv
  obtain ⟨rfl, hM, hK⟩ := hv
  have zc := zc_of B hml
  have hl := lv_entry ([.ref q]) (n := 3) (Nat.le_of_ble_eq_true rfl)
  rw [lg_entry_eq]
  generalize (lg_sl ([.ref q]) ++ List.replicate (3 - (lg_sl ([.ref q])).length) Slot.unset).toArray = ls at hl ⊢
  have hl : lv_has ls 3 [(0, .ref q)] := hl
  exact t_m_lastVillage_0 zc hK hM (lv_sub hl [0] rfl) hw
-- m_comesBy
abbrev rm_m_comesBy : Room := { frames := 0, cells := 0, slots := 0, locals := 0 }
def q_m_comesBy_30 (P4 : Int32 → Int32 → Prop) (f_huts : Int32) (a_run : Nat → Int32) (x1 : Int32) (x3 : Int32) (y0 : Int32) (y1 : Int32) (post : Int32 → Prop) : Prop :=
  ∀ v_1 : Int32, v_1 = (y0 ||| y1) → (∀ v_2 : Int32, v_2 = x3 + (1 : Int32) → (P4 v_1 v_2))
def q_m_comesBy_4 (f_huts : Int32) (a_run : Nat → Int32) (x1 : Int32) (x2 : Int32) (x3 : Int32) (post : Int32 → Prop) : Prop :=
  ∀ P4 : Int32 → Int32 → Prop, (∀ (x2 : Int32) (x3 : Int32), ((f_huts ≤ x3 → (post x2)) ∧ (¬ f_huts ≤ x3 → (vp_in x3 9 ∧ ((x1 < (a_run (Int32.toNatClampNeg x3)) → (q_m_comesBy_30 P4 f_huts a_run x1 x3 x2 (0 : Int32) post)) ∧ (¬ x1 < (a_run (Int32.toNatClampNeg x3)) → (q_m_comesBy_30 P4 f_huts a_run x1 x3 x2 ((1 : Int32) <<< (x3 &&& 31)) post)))))) → P4 x2 x3) → P4 x2 x3
def q_m_comesBy_0 (f_huts : Int32) (a_run : Nat → Int32) (x1 : Int32) (post : Int32 → Prop) : Prop :=
  q_m_comesBy_4 f_huts a_run x1 (0 : Int32) (0 : Int32) post
set_option maxRecDepth 20000 in
theorem t_m_comesBy_30 {p : Program} {l : Launch} {e : Env} {s : State} {m : MethodId} {args : Array Value} {below : List Frame} {meth : Method} {c : Code} {E : zE} {q : Nat} {f_code : Int32} {a_tape : Nat → Int32} {a_size : Nat → Int32} {a_fault : Nat → Int32} {a_faultPlace : Nat → Int32} {a_many : Nat → Int32} {a_lands : Nat → Int32} {a_evenings : Nat → Int32} {a_sights : Nat → Int32} {a_choirs : Nat → Int32} {f_reached : Int32} {f_length : Int32} {f_begins : Int32} {f_sort : Int32} {f_value : Int32} {f_word : Int64} {f_wrongAt : Int32} {f_laterFault : Int32} {f_laterPlace : Int32} {a_told : Nat → Int32} {a_read : Nat → Int32} {f_farHut : Int32} {f_farSinger : Int32} {f_good : Int32} {f_land : Int32} {f_huts : Int32} {f_singers : Int32} {f_evening : Int32} {a_at : Nat → Int32} {a_knows : Nat → Int32} {a_climbed : Nat → Int32} {a_snow : Nat → Int32} {a_level : Nat → Int32} {f_begun : Int32} {f_minute : Int32} {f_avalanches : Int32} {a_run : Nat → Int32} {a_covers : Nat → Int32} {a_routes : Nat → Int32} {a_longest : Nat → Int32} {a_steep : Nat → Int32} {a_laid : Nat → Int32} {a_far : Nat → Int32} {f_sight : Int32} {a_runs : Nat → Int32} {f_choir : Int32} {f_voices : Int32} {a_rest : Nat → Int64} {a_wins : Nat → Int32} {f_seed : Int32} {a_other : Nat → Int32} {a_kept : Nat → Int32} {P4 : Int32 → Int32 → Prop} {post : Int32 → Prop} {x1 : Int32} {x3 : Int32} {y0 : Int32} {y1 : Int32} {ls : Array Slot}
    (zc : zC p s m args meth c cX11_comesBy 4 RX11 (some .int))
    (hK : zK E s)
    (hM : mW E q f_code a_tape a_size a_fault a_faultPlace a_many a_lands a_evenings a_sights a_choirs f_reached f_length f_begins f_sort f_value f_word f_wrongAt f_laterFault f_laterPlace a_told a_read f_farHut f_farSinger f_good f_land f_huts f_singers f_evening a_at a_knows a_climbed a_snow a_level f_begun f_minute f_avalanches a_run a_covers a_routes a_longest a_steep a_laid a_far f_sight a_runs f_choir f_voices a_rest a_wins f_seed a_other a_kept s.heap)
    (hP4 : ∀ (x2 : Int32) (x3 : Int32) (ls : Array Slot), P4 x2 x3 → lv_has ls 4 [(0, .ref q), (1, .int x1), (2, .int x2), (3, .int x3)] → W p l e rm_m_comesBy s m args below meth c s.heap [] 0 0 (MQ below (vp_Si post) args s 0 0 (fun _ => False)) (F0 m 4 ls []))
    (hl : lv_has ls 4 [(0, .ref q), (1, .int x1), (3, .int x3)])
    (hw : q_m_comesBy_30 P4 f_huts a_run x1 x3 y0 y1 post) :
    W p l e rm_m_comesBy s m args below meth c s.heap [] 0 0 (MQ below (vp_Si post) args s 0 0 (fun _ => False)) (F0 m 30 ls [.int y1, .int y0]) := by
  have hx := zc.1
  have hb := zc.2.1
  refine lv_ior hx hb dX11_comesBy_30 ?_
  refine lv_topi (fun v_1 ev_1 => ?_)
  have hw := hw v_1 ev_1
  refine lv_istore_n (lv' := [(2, .int v_1), (0, .ref q), (1, .int x1), (3, .int x3)]) hx hb dX11_comesBy_31 rfl hl (by decide) rfl (fun ls hl => ?_)
  obtain ⟨v_2, ev_2⟩ : ∃ y : Int32, y = x3 + (1 : Int32) := ⟨_, rfl⟩
  have hw := hw v_2 ev_2
  refine lv_iinc (v := v_2) (k := 3) (lv' := [(3, .int v_2), (2, .int v_1), (0, .ref q), (1, .int x1)]) hx hb dX11_comesBy_32 hl rfl (by rw [ev_2]; rfl) (by decide) rfl (fun ls hl => ?_)
  refine lv_goto (tgt := 4) hx hb dX11_comesBy_35 (by decide) ?_
  exact hP4 _ _ _ hw (lv_sub hl [2, 3, 1, 0] rfl)
set_option maxRecDepth 20000 in
theorem t_m_comesBy_4 {p : Program} {l : Launch} {e : Env} {s : State} {m : MethodId} {args : Array Value} {below : List Frame} {meth : Method} {c : Code} {E : zE} {q : Nat} {f_code : Int32} {a_tape : Nat → Int32} {a_size : Nat → Int32} {a_fault : Nat → Int32} {a_faultPlace : Nat → Int32} {a_many : Nat → Int32} {a_lands : Nat → Int32} {a_evenings : Nat → Int32} {a_sights : Nat → Int32} {a_choirs : Nat → Int32} {f_reached : Int32} {f_length : Int32} {f_begins : Int32} {f_sort : Int32} {f_value : Int32} {f_word : Int64} {f_wrongAt : Int32} {f_laterFault : Int32} {f_laterPlace : Int32} {a_told : Nat → Int32} {a_read : Nat → Int32} {f_farHut : Int32} {f_farSinger : Int32} {f_good : Int32} {f_land : Int32} {f_huts : Int32} {f_singers : Int32} {f_evening : Int32} {a_at : Nat → Int32} {a_knows : Nat → Int32} {a_climbed : Nat → Int32} {a_snow : Nat → Int32} {a_level : Nat → Int32} {f_begun : Int32} {f_minute : Int32} {f_avalanches : Int32} {a_run : Nat → Int32} {a_covers : Nat → Int32} {a_routes : Nat → Int32} {a_longest : Nat → Int32} {a_steep : Nat → Int32} {a_laid : Nat → Int32} {a_far : Nat → Int32} {f_sight : Int32} {a_runs : Nat → Int32} {f_choir : Int32} {f_voices : Int32} {a_rest : Nat → Int64} {a_wins : Nat → Int32} {f_seed : Int32} {a_other : Nat → Int32} {a_kept : Nat → Int32} {post : Int32 → Prop} {x1 : Int32} {x2 : Int32} {x3 : Int32} {ls : Array Slot}
    (zc : zC p s m args meth c cX11_comesBy 4 RX11 (some .int))
    (hK : zK E s)
    (hM : mW E q f_code a_tape a_size a_fault a_faultPlace a_many a_lands a_evenings a_sights a_choirs f_reached f_length f_begins f_sort f_value f_word f_wrongAt f_laterFault f_laterPlace a_told a_read f_farHut f_farSinger f_good f_land f_huts f_singers f_evening a_at a_knows a_climbed a_snow a_level f_begun f_minute f_avalanches a_run a_covers a_routes a_longest a_steep a_laid a_far f_sight a_runs f_choir f_voices a_rest a_wins f_seed a_other a_kept s.heap)
    (hl : lv_has ls 4 [(0, .ref q), (1, .int x1), (2, .int x2), (3, .int x3)])
    (hw : q_m_comesBy_4 f_huts a_run x1 x2 x3 post) :
    W p l e rm_m_comesBy s m args below meth c s.heap [] 0 0 (MQ below (vp_Si post) args s 0 0 (fun _ => False)) (F0 m 4 ls []) := by
  have hx := zc.1
  have hb := zc.2.1
  refine hw (fun x2 x3 => ∀ (ls : Array Slot), lv_has ls 4 [(0, .ref q), (1, .int x1), (2, .int x2), (3, .int x3)] → W p l e rm_m_comesBy s m args below meth c s.heap [] 0 0 (MQ below (vp_Si post) args s 0 0 (fun _ => False)) (F0 m 4 ls [])) ?_ _ hl
  intro x2 x3 hw ls hl
  refine lv_iload_n hx hb dX11_comesBy_4 rfl (lv_at hl 3 rfl) ?_
  refine lv_aload_n hx hb dX11_comesBy_5 rfl (lv_at hl 0 rfl) ?_
  refine mg_11_307_0 zc hK hM dX11_comesBy_6 ?_
  refine lv_icmp_ge (tgt := 38) hx hb dX11_comesBy_9 (by decide) (fun hc => ?_) (fun hc => ?_)
  · have hw := hw.1 hc
    refine lv_iload_n hx hb dX11_comesBy_38 rfl (lv_at hl 2 rfl) ?_
    exact zret_i zc hw dX11_comesBy_39
  · have hw := hw.2 hc
    refine lv_iload_n hx hb dX11_comesBy_12 rfl (lv_at hl 2 rfl) ?_
    refine lv_aload_n hx hb dX11_comesBy_13 rfl (lv_at hl 0 rfl) ?_
    refine mg_11_59_0 zc hK hM dX11_comesBy_14 ?_
    refine lv_iload_n hx hb dX11_comesBy_17 rfl (lv_at hl 3 rfl) ?_
    refine mld_17 zc hK hM hw.1 dX11_comesBy_18 ?_
    have hw := hw.2
    refine lv_iload_n hx hb dX11_comesBy_19 rfl (lv_at hl 1 rfl) ?_
    refine lv_icmp_gt (tgt := 29) hx hb dX11_comesBy_20 (by decide) (fun hc => ?_) (fun hc => ?_)
    · have hw := hw.1 hc
      refine lv_iconst (v := (0 : Int32)) hx hb dX11_comesBy_29 (by decide) ?_
      exact t_m_comesBy_30 zc hK hM (fun _ _ ls h hl => h ls hl) (lv_sub hl [0, 1, 3] rfl) hw
    · have hw := hw.2 hc
      refine lv_iconst (v := (1 : Int32)) hx hb dX11_comesBy_23 (by decide) ?_
      refine lv_iload_n hx hb dX11_comesBy_24 rfl (lv_at hl 3 rfl) ?_
      refine lv_ishl hx hb dX11_comesBy_25 ?_
      refine lv_goto (tgt := 30) hx hb dX11_comesBy_26 (by decide) ?_
      exact t_m_comesBy_30 zc hK hM (fun _ _ ls h hl => h ls hl) (lv_sub hl [0, 1, 3] rfl) hw
set_option maxRecDepth 20000 in
theorem t_m_comesBy_0 {p : Program} {l : Launch} {e : Env} {s : State} {m : MethodId} {args : Array Value} {below : List Frame} {meth : Method} {c : Code} {E : zE} {q : Nat} {f_code : Int32} {a_tape : Nat → Int32} {a_size : Nat → Int32} {a_fault : Nat → Int32} {a_faultPlace : Nat → Int32} {a_many : Nat → Int32} {a_lands : Nat → Int32} {a_evenings : Nat → Int32} {a_sights : Nat → Int32} {a_choirs : Nat → Int32} {f_reached : Int32} {f_length : Int32} {f_begins : Int32} {f_sort : Int32} {f_value : Int32} {f_word : Int64} {f_wrongAt : Int32} {f_laterFault : Int32} {f_laterPlace : Int32} {a_told : Nat → Int32} {a_read : Nat → Int32} {f_farHut : Int32} {f_farSinger : Int32} {f_good : Int32} {f_land : Int32} {f_huts : Int32} {f_singers : Int32} {f_evening : Int32} {a_at : Nat → Int32} {a_knows : Nat → Int32} {a_climbed : Nat → Int32} {a_snow : Nat → Int32} {a_level : Nat → Int32} {f_begun : Int32} {f_minute : Int32} {f_avalanches : Int32} {a_run : Nat → Int32} {a_covers : Nat → Int32} {a_routes : Nat → Int32} {a_longest : Nat → Int32} {a_steep : Nat → Int32} {a_laid : Nat → Int32} {a_far : Nat → Int32} {f_sight : Int32} {a_runs : Nat → Int32} {f_choir : Int32} {f_voices : Int32} {a_rest : Nat → Int64} {a_wins : Nat → Int32} {f_seed : Int32} {a_other : Nat → Int32} {a_kept : Nat → Int32} {post : Int32 → Prop} {x1 : Int32} {ls : Array Slot}
    (zc : zC p s m args meth c cX11_comesBy 4 RX11 (some .int))
    (hK : zK E s)
    (hM : mW E q f_code a_tape a_size a_fault a_faultPlace a_many a_lands a_evenings a_sights a_choirs f_reached f_length f_begins f_sort f_value f_word f_wrongAt f_laterFault f_laterPlace a_told a_read f_farHut f_farSinger f_good f_land f_huts f_singers f_evening a_at a_knows a_climbed a_snow a_level f_begun f_minute f_avalanches a_run a_covers a_routes a_longest a_steep a_laid a_far f_sight a_runs f_choir f_voices a_rest a_wins f_seed a_other a_kept s.heap)
    (hl : lv_has ls 4 [(0, .ref q), (1, .int x1)])
    (hw : q_m_comesBy_0 f_huts a_run x1 post) :
    W p l e rm_m_comesBy s m args below meth c s.heap [] 0 0 (MQ below (vp_Si post) args s 0 0 (fun _ => False)) (F0 m 0 ls []) := by
  have hx := zc.1
  have hb := zc.2.1
  refine lv_iconst (v := (0 : Int32)) hx hb dX11_comesBy_0 (by decide) ?_
  refine lv_istore_n (lv' := [(2, .int (0 : Int32)), (0, .ref q), (1, .int x1)]) hx hb dX11_comesBy_1 rfl hl (by decide) rfl (fun ls hl => ?_)
  refine lv_iconst (v := (0 : Int32)) hx hb dX11_comesBy_2 (by decide) ?_
  refine lv_istore_n (lv' := [(3, .int (0 : Int32)), (2, .int (0 : Int32)), (0, .ref q), (1, .int x1)]) hx hb dX11_comesBy_3 rfl hl (by decide) rfl (fun ls hl => ?_)
  exact t_m_comesBy_4 zc hK hM  (lv_sub hl [2, 3, 1, 0] rfl) hw
set_option maxRecDepth 20000 in
theorem c_m_comesBy (l : Launch) {E : zE} {q : Nat} {f_code : Int32} {a_tape : Nat → Int32} {a_size : Nat → Int32} {a_fault : Nat → Int32} {a_faultPlace : Nat → Int32} {a_many : Nat → Int32} {a_lands : Nat → Int32} {a_evenings : Nat → Int32} {a_sights : Nat → Int32} {a_choirs : Nat → Int32} {f_reached : Int32} {f_length : Int32} {f_begins : Int32} {f_sort : Int32} {f_value : Int32} {f_word : Int64} {f_wrongAt : Int32} {f_laterFault : Int32} {f_laterPlace : Int32} {a_told : Nat → Int32} {a_read : Nat → Int32} {f_farHut : Int32} {f_farSinger : Int32} {f_good : Int32} {f_land : Int32} {f_huts : Int32} {f_singers : Int32} {f_evening : Int32} {a_at : Nat → Int32} {a_knows : Nat → Int32} {a_climbed : Nat → Int32} {a_snow : Nat → Int32} {a_level : Nat → Int32} {f_begun : Int32} {f_minute : Int32} {f_avalanches : Int32} {a_run : Nat → Int32} {a_covers : Nat → Int32} {a_routes : Nat → Int32} {a_longest : Nat → Int32} {a_steep : Nat → Int32} {a_laid : Nat → Int32} {a_far : Nat → Int32} {f_sight : Int32} {a_runs : Nat → Int32} {f_choir : Int32} {f_voices : Int32} {a_rest : Nat → Int64} {a_wins : Nat → Int32} {f_seed : Int32} {a_other : Nat → Int32} {a_kept : Nat → Int32} {x1 : Int32} {post : Int32 → Prop} (hw : q_m_comesBy_0 f_huts a_run x1 post) : Met l yX11_comesBy (Cond.code yX11_comesBy cX11_comesBy 4 (some .int) :: zb) rm_m_comesBy (va_Pc [.ref q, .int x1] (fun U => mW E q f_code a_tape a_size a_fault a_faultPlace a_many a_lands a_evenings a_sights a_choirs f_reached f_length f_begins f_sort f_value f_word f_wrongAt f_laterFault f_laterPlace a_told a_read f_farHut f_farSinger f_good f_land f_huts f_singers f_evening a_at a_knows a_climbed a_snow a_level f_begun f_minute f_avalanches a_run a_covers a_routes a_longest a_steep a_laid a_far f_sight a_runs f_choir f_voices a_rest a_wins f_seed a_other a_kept U.heap ∧ zK E U)) (vp_Si post) 0 0 (fun _ => False) := by
  refine Met.ofW (cc := cX11_comesBy) (maxL := 4) (ret := (some .int)) (by decide) rfl ?_
  intro p e s m args below meth c s₁ B hml hv
  obtain ⟨rfl, hM, hK⟩ := hv
  have zc := zc_of B hml
  have hl := lv_entry ([.ref q, .int x1]) (n := 4) (Nat.le_of_ble_eq_true rfl)
  rw [lg_entry_eq]
  generalize (lg_sl ([.ref q, .int x1]) ++ List.replicate (4 - (lg_sl ([.ref q, .int x1])).length) Slot.unset).toArray = ls at hl ⊢
  have hl : lv_has ls 4 [(0, .ref q), (1, .int x1)] := hl
  exact t_m_comesBy_0 zc hK hM (lv_sub hl [0, 1] rfl) hw
-- m_allBy
abbrev rm_m_allBy : Room := { frames := 3, cells := 0, slots := 0, locals := 70 }
def q_m_allBy_53 (P4 : Int32 → Int32 → (Nat → Int32) → (Nat → Int32) → Prop) (a_lands : Nat → Int32) (f_land : Int32) (f_huts : Int32) (a_run : Nat → Int32) (a_covers : Nat → Int32) (x1 : Int32) (x3 : Int32) (y0 : Int32) (y1 : Int32) (post : Int32 → (Nat → Int32) → (Nat → Int32) → Prop) : Prop :=
  ∀ v_1 : Int32, v_1 = (y0 ||| y1) → (∀ v_2 : Int32, v_2 = x3 + (1 : Int32) → (P4 v_1 v_2 a_run a_covers))
def q_m_allBy_52 (P4 : Int32 → Int32 → (Nat → Int32) → (Nat → Int32) → Prop) (a_lands : Nat → Int32) (f_land : Int32) (f_huts : Int32) (a_run : Nat → Int32) (a_covers : Nat → Int32) (x1 : Int32) (x3 : Int32) (y0 : Int32) (post : Int32 → (Nat → Int32) → (Nat → Int32) → Prop) : Prop :=
  q_m_allBy_53 P4 a_lands f_land f_huts a_run a_covers x1 x3 y0 (0 : Int32) post
def q_m_allBy_4 (a_lands : Nat → Int32) (f_land : Int32) (f_huts : Int32) (a_run : Nat → Int32) (a_covers : Nat → Int32) (x1 : Int32) (x2 : Int32) (x3 : Int32) (post : Int32 → (Nat → Int32) → (Nat → Int32) → Prop) : Prop :=
  ∀ P4 : Int32 → Int32 → (Nat → Int32) → (Nat → Int32) → Prop, (∀ (x2 : Int32) (x3 : Int32) (a_run : Nat → Int32) (a_covers : Nat → Int32), ((f_huts ≤ x3 → (post x2 a_run a_covers)) ∧ (¬ f_huts ≤ x3 → (q_m_findRun_0 a_lands f_land f_huts a_run x3 (0 : Int32) (fun a_run_1 => q_m_comesBy_0 f_huts a_run_1 x1 (fun r_1 => vp_in x3 9 ∧ (∀ a_covers_1 : Nat → Int32, a_covers_1 = upd a_covers (Int32.toNatClampNeg x3) r_1 → (q_m_isDam_0 a_lands f_land x3 (fun r_2 => (¬ r_2 = 0 → (q_m_allBy_52 P4 a_lands f_land f_huts a_run_1 a_covers_1 x1 x3 x2 post)) ∧ (r_2 = 0 → (q_m_lastVillage_0 a_lands f_land f_huts a_run_1 (fun r_3 => (x1 < r_3 → (q_m_allBy_52 P4 a_lands f_land f_huts a_run_1 a_covers_1 x1 x3 x2 post)) ∧ (¬ x1 < r_3 → (q_m_allBy_53 P4 a_lands f_land f_huts a_run_1 a_covers_1 x1 x3 x2 ((1 : Int32) <<< (x3 &&& 31)) post))))))))))))) → P4 x2 x3 a_run a_covers) → P4 x2 x3 a_run a_covers
def q_m_allBy_0 (a_lands : Nat → Int32) (f_land : Int32) (f_huts : Int32) (a_run : Nat → Int32) (a_covers : Nat → Int32) (x1 : Int32) (post : Int32 → (Nat → Int32) → (Nat → Int32) → Prop) : Prop :=
  q_m_allBy_4 a_lands f_land f_huts a_run a_covers x1 (0 : Int32) (0 : Int32) post
set_option maxRecDepth 20000 in
theorem t_m_allBy_53 {p : Program} {l : Launch} {e : Env} {s : State} {m : MethodId} {args : Array Value} {below : List Frame} {meth : Method} {c : Code} {E : zE} {q : Nat} {f_code : Int32} {a_tape : Nat → Int32} {a_size : Nat → Int32} {a_fault : Nat → Int32} {a_faultPlace : Nat → Int32} {a_many : Nat → Int32} {a_lands : Nat → Int32} {a_evenings : Nat → Int32} {a_sights : Nat → Int32} {a_choirs : Nat → Int32} {f_reached : Int32} {f_length : Int32} {f_begins : Int32} {f_sort : Int32} {f_value : Int32} {f_word : Int64} {f_wrongAt : Int32} {f_laterFault : Int32} {f_laterPlace : Int32} {a_told : Nat → Int32} {a_read : Nat → Int32} {f_farHut : Int32} {f_farSinger : Int32} {f_good : Int32} {f_land : Int32} {f_huts : Int32} {f_singers : Int32} {f_evening : Int32} {a_at : Nat → Int32} {a_knows : Nat → Int32} {a_climbed : Nat → Int32} {a_snow : Nat → Int32} {a_level : Nat → Int32} {f_begun : Int32} {f_minute : Int32} {f_avalanches : Int32} {a_run : Nat → Int32} {a_covers : Nat → Int32} {a_routes : Nat → Int32} {a_longest : Nat → Int32} {a_steep : Nat → Int32} {a_laid : Nat → Int32} {a_far : Nat → Int32} {f_sight : Int32} {a_runs : Nat → Int32} {f_choir : Int32} {f_voices : Int32} {a_rest : Nat → Int64} {a_wins : Nat → Int32} {f_seed : Int32} {a_other : Nat → Int32} {a_kept : Nat → Int32} {P4 : Int32 → Int32 → (Nat → Int32) → (Nat → Int32) → Prop} {post : Int32 → (Nat → Int32) → (Nat → Int32) → Prop} {x1 : Int32} {x3 : Int32} {y0 : Int32} {y1 : Int32} {ls : Array Slot} {H : Heap} {locs : List Loc}
    (zc : zC p s m args meth c cX11_allBy 4 RX11 (some .int))
    (hK : zK E s)
    (hM : mW E q f_code a_tape a_size a_fault a_faultPlace a_many a_lands a_evenings a_sights a_choirs f_reached f_length f_begins f_sort f_value f_word f_wrongAt f_laterFault f_laterPlace a_told a_read f_farHut f_farSinger f_good f_land f_huts f_singers f_evening a_at a_knows a_climbed a_snow a_level f_begun f_minute f_avalanches a_run a_covers a_routes a_longest a_steep a_laid a_far f_sight a_runs f_choir f_voices a_rest a_wins f_seed a_other a_kept H)
    (hS : va_S (mA q) s.heap H locs)
    (hP4 : ∀ (x2 : Int32) (x3 : Int32) (a_run : Nat → Int32) (a_covers : Nat → Int32) (H : Heap) (locs : List Loc) (ls : Array Slot), P4 x2 x3 a_run a_covers → lv_has ls 4 [(0, .ref q), (1, .int x1), (2, .int x2), (3, .int x3)] → mW E q f_code a_tape a_size a_fault a_faultPlace a_many a_lands a_evenings a_sights a_choirs f_reached f_length f_begins f_sort f_value f_word f_wrongAt f_laterFault f_laterPlace a_told a_read f_farHut f_farSinger f_good f_land f_huts f_singers f_evening a_at a_knows a_climbed a_snow a_level f_begun f_minute f_avalanches a_run a_covers a_routes a_longest a_steep a_laid a_far f_sight a_runs f_choir f_voices a_rest a_wins f_seed a_other a_kept H → va_S (mA q) s.heap H locs → W p l e rm_m_allBy s m args below meth c H locs 0 0 (MQ below (zQi (S := (Nat → Int32) × (Nat → Int32)) (fun r u => post r u.1 u.2) (fun u H => mW E q f_code a_tape a_size a_fault a_faultPlace a_many a_lands a_evenings a_sights a_choirs f_reached f_length f_begins f_sort f_value f_word f_wrongAt f_laterFault f_laterPlace a_told a_read f_farHut f_farSinger f_good f_land f_huts f_singers f_evening a_at a_knows a_climbed a_snow a_level f_begun f_minute f_avalanches u.1 u.2 a_routes a_longest a_steep a_laid a_far f_sight a_runs f_choir f_voices a_rest a_wins f_seed a_other a_kept H) (mA q)) args s 0 0 (mA q)) (F0 m 4 ls []))
    (hl : lv_has ls 4 [(0, .ref q), (1, .int x1), (3, .int x3)])
    (hw : q_m_allBy_53 P4 a_lands f_land f_huts a_run a_covers x1 x3 y0 y1 post) :
    W p l e rm_m_allBy s m args below meth c H locs 0 0 (MQ below (zQi (S := (Nat → Int32) × (Nat → Int32)) (fun r u => post r u.1 u.2) (fun u H => mW E q f_code a_tape a_size a_fault a_faultPlace a_many a_lands a_evenings a_sights a_choirs f_reached f_length f_begins f_sort f_value f_word f_wrongAt f_laterFault f_laterPlace a_told a_read f_farHut f_farSinger f_good f_land f_huts f_singers f_evening a_at a_knows a_climbed a_snow a_level f_begun f_minute f_avalanches u.1 u.2 a_routes a_longest a_steep a_laid a_far f_sight a_runs f_choir f_voices a_rest a_wins f_seed a_other a_kept H) (mA q)) args s 0 0 (mA q)) (F0 m 53 ls [.int y1, .int y0]) := by
  have hx := zc.1
  have hb := zc.2.1
  refine lv_ior hx hb dX11_allBy_53 ?_
  refine lv_topi (fun v_1 ev_1 => ?_)
  have hw := hw v_1 ev_1
  refine lv_istore_n (lv' := [(2, .int v_1), (0, .ref q), (1, .int x1), (3, .int x3)]) hx hb dX11_allBy_54 rfl hl (by decide) rfl (fun ls hl => ?_)
  obtain ⟨v_2, ev_2⟩ : ∃ y : Int32, y = x3 + (1 : Int32) := ⟨_, rfl⟩
  have hw := hw v_2 ev_2
  refine lv_iinc (v := v_2) (k := 3) (lv' := [(3, .int v_2), (2, .int v_1), (0, .ref q), (1, .int x1)]) hx hb dX11_allBy_55 hl rfl (by rw [ev_2]; rfl) (by decide) rfl (fun ls hl => ?_)
  refine lv_goto (tgt := 4) hx hb dX11_allBy_58 (by decide) ?_
  exact hP4 _ _ _ _ _ _ _ hw (lv_sub hl [2, 3, 1, 0] rfl) hM hS
set_option maxRecDepth 20000 in
theorem t_m_allBy_52 {p : Program} {l : Launch} {e : Env} {s : State} {m : MethodId} {args : Array Value} {below : List Frame} {meth : Method} {c : Code} {E : zE} {q : Nat} {f_code : Int32} {a_tape : Nat → Int32} {a_size : Nat → Int32} {a_fault : Nat → Int32} {a_faultPlace : Nat → Int32} {a_many : Nat → Int32} {a_lands : Nat → Int32} {a_evenings : Nat → Int32} {a_sights : Nat → Int32} {a_choirs : Nat → Int32} {f_reached : Int32} {f_length : Int32} {f_begins : Int32} {f_sort : Int32} {f_value : Int32} {f_word : Int64} {f_wrongAt : Int32} {f_laterFault : Int32} {f_laterPlace : Int32} {a_told : Nat → Int32} {a_read : Nat → Int32} {f_farHut : Int32} {f_farSinger : Int32} {f_good : Int32} {f_land : Int32} {f_huts : Int32} {f_singers : Int32} {f_evening : Int32} {a_at : Nat → Int32} {a_knows : Nat → Int32} {a_climbed : Nat → Int32} {a_snow : Nat → Int32} {a_level : Nat → Int32} {f_begun : Int32} {f_minute : Int32} {f_avalanches : Int32} {a_run : Nat → Int32} {a_covers : Nat → Int32} {a_routes : Nat → Int32} {a_longest : Nat → Int32} {a_steep : Nat → Int32} {a_laid : Nat → Int32} {a_far : Nat → Int32} {f_sight : Int32} {a_runs : Nat → Int32} {f_choir : Int32} {f_voices : Int32} {a_rest : Nat → Int64} {a_wins : Nat → Int32} {f_seed : Int32} {a_other : Nat → Int32} {a_kept : Nat → Int32} {P4 : Int32 → Int32 → (Nat → Int32) → (Nat → Int32) → Prop} {post : Int32 → (Nat → Int32) → (Nat → Int32) → Prop} {x1 : Int32} {x3 : Int32} {y0 : Int32} {ls : Array Slot} {H : Heap} {locs : List Loc}
    (zc : zC p s m args meth c cX11_allBy 4 RX11 (some .int))
    (hK : zK E s)
    (hM : mW E q f_code a_tape a_size a_fault a_faultPlace a_many a_lands a_evenings a_sights a_choirs f_reached f_length f_begins f_sort f_value f_word f_wrongAt f_laterFault f_laterPlace a_told a_read f_farHut f_farSinger f_good f_land f_huts f_singers f_evening a_at a_knows a_climbed a_snow a_level f_begun f_minute f_avalanches a_run a_covers a_routes a_longest a_steep a_laid a_far f_sight a_runs f_choir f_voices a_rest a_wins f_seed a_other a_kept H)
    (hS : va_S (mA q) s.heap H locs)
    (hP4 : ∀ (x2 : Int32) (x3 : Int32) (a_run : Nat → Int32) (a_covers : Nat → Int32) (H : Heap) (locs : List Loc) (ls : Array Slot), P4 x2 x3 a_run a_covers → lv_has ls 4 [(0, .ref q), (1, .int x1), (2, .int x2), (3, .int x3)] → mW E q f_code a_tape a_size a_fault a_faultPlace a_many a_lands a_evenings a_sights a_choirs f_reached f_length f_begins f_sort f_value f_word f_wrongAt f_laterFault f_laterPlace a_told a_read f_farHut f_farSinger f_good f_land f_huts f_singers f_evening a_at a_knows a_climbed a_snow a_level f_begun f_minute f_avalanches a_run a_covers a_routes a_longest a_steep a_laid a_far f_sight a_runs f_choir f_voices a_rest a_wins f_seed a_other a_kept H → va_S (mA q) s.heap H locs → W p l e rm_m_allBy s m args below meth c H locs 0 0 (MQ below (zQi (S := (Nat → Int32) × (Nat → Int32)) (fun r u => post r u.1 u.2) (fun u H => mW E q f_code a_tape a_size a_fault a_faultPlace a_many a_lands a_evenings a_sights a_choirs f_reached f_length f_begins f_sort f_value f_word f_wrongAt f_laterFault f_laterPlace a_told a_read f_farHut f_farSinger f_good f_land f_huts f_singers f_evening a_at a_knows a_climbed a_snow a_level f_begun f_minute f_avalanches u.1 u.2 a_routes a_longest a_steep a_laid a_far f_sight a_runs f_choir f_voices a_rest a_wins f_seed a_other a_kept H) (mA q)) args s 0 0 (mA q)) (F0 m 4 ls []))
    (hl : lv_has ls 4 [(0, .ref q), (1, .int x1), (3, .int x3)])
    (hw : q_m_allBy_52 P4 a_lands f_land f_huts a_run a_covers x1 x3 y0 post) :
    W p l e rm_m_allBy s m args below meth c H locs 0 0 (MQ below (zQi (S := (Nat → Int32) × (Nat → Int32)) (fun r u => post r u.1 u.2) (fun u H => mW E q f_code a_tape a_size a_fault a_faultPlace a_many a_lands a_evenings a_sights a_choirs f_reached f_length f_begins f_sort f_value f_word f_wrongAt f_laterFault f_laterPlace a_told a_read f_farHut f_farSinger f_good f_land f_huts f_singers f_evening a_at a_knows a_climbed a_snow a_level f_begun f_minute f_avalanches u.1 u.2 a_routes a_longest a_steep a_laid a_far f_sight a_runs f_choir f_voices a_rest a_wins f_seed a_other a_kept H) (mA q)) args s 0 0 (mA q)) (F0 m 52 ls [.int y0]) := by
  have hx := zc.1
  have hb := zc.2.1
  refine lv_iconst (v := (0 : Int32)) hx hb dX11_allBy_52 (by decide) ?_
  exact t_m_allBy_53 zc hK hM hS hP4 (lv_sub hl [0, 1, 2] rfl) hw
set_option maxRecDepth 20000 in
theorem t_m_allBy_4 {p : Program} {l : Launch} {e : Env} {s : State} {m : MethodId} {args : Array Value} {below : List Frame} {meth : Method} {c : Code} {E : zE} {q : Nat} {f_code : Int32} {a_tape : Nat → Int32} {a_size : Nat → Int32} {a_fault : Nat → Int32} {a_faultPlace : Nat → Int32} {a_many : Nat → Int32} {a_lands : Nat → Int32} {a_evenings : Nat → Int32} {a_sights : Nat → Int32} {a_choirs : Nat → Int32} {f_reached : Int32} {f_length : Int32} {f_begins : Int32} {f_sort : Int32} {f_value : Int32} {f_word : Int64} {f_wrongAt : Int32} {f_laterFault : Int32} {f_laterPlace : Int32} {a_told : Nat → Int32} {a_read : Nat → Int32} {f_farHut : Int32} {f_farSinger : Int32} {f_good : Int32} {f_land : Int32} {f_huts : Int32} {f_singers : Int32} {f_evening : Int32} {a_at : Nat → Int32} {a_knows : Nat → Int32} {a_climbed : Nat → Int32} {a_snow : Nat → Int32} {a_level : Nat → Int32} {f_begun : Int32} {f_minute : Int32} {f_avalanches : Int32} {a_run : Nat → Int32} {a_covers : Nat → Int32} {a_routes : Nat → Int32} {a_longest : Nat → Int32} {a_steep : Nat → Int32} {a_laid : Nat → Int32} {a_far : Nat → Int32} {f_sight : Int32} {a_runs : Nat → Int32} {f_choir : Int32} {f_voices : Int32} {a_rest : Nat → Int64} {a_wins : Nat → Int32} {f_seed : Int32} {a_other : Nat → Int32} {a_kept : Nat → Int32} {post : Int32 → (Nat → Int32) → (Nat → Int32) → Prop} {x1 : Int32} {x2 : Int32} {x3 : Int32} {ls : Array Slot} {H : Heap} {locs : List Loc}
    (zc : zC p s m args meth c cX11_allBy 4 RX11 (some .int))
    (hK : zK E s)
    (hM : mW E q f_code a_tape a_size a_fault a_faultPlace a_many a_lands a_evenings a_sights a_choirs f_reached f_length f_begins f_sort f_value f_word f_wrongAt f_laterFault f_laterPlace a_told a_read f_farHut f_farSinger f_good f_land f_huts f_singers f_evening a_at a_knows a_climbed a_snow a_level f_begun f_minute f_avalanches a_run a_covers a_routes a_longest a_steep a_laid a_far f_sight a_runs f_choir f_voices a_rest a_wins f_seed a_other a_kept H)
    (hS : va_S (mA q) s.heap H locs)
    (hl : lv_has ls 4 [(0, .ref q), (1, .int x1), (2, .int x2), (3, .int x3)])
    (hw : q_m_allBy_4 a_lands f_land f_huts a_run a_covers x1 x2 x3 post) :
    W p l e rm_m_allBy s m args below meth c H locs 0 0 (MQ below (zQi (S := (Nat → Int32) × (Nat → Int32)) (fun r u => post r u.1 u.2) (fun u H => mW E q f_code a_tape a_size a_fault a_faultPlace a_many a_lands a_evenings a_sights a_choirs f_reached f_length f_begins f_sort f_value f_word f_wrongAt f_laterFault f_laterPlace a_told a_read f_farHut f_farSinger f_good f_land f_huts f_singers f_evening a_at a_knows a_climbed a_snow a_level f_begun f_minute f_avalanches u.1 u.2 a_routes a_longest a_steep a_laid a_far f_sight a_runs f_choir f_voices a_rest a_wins f_seed a_other a_kept H) (mA q)) args s 0 0 (mA q)) (F0 m 4 ls []) := by
  have hx := zc.1
  have hb := zc.2.1
  refine hw (fun x2 x3 a_run a_covers => ∀ (H : Heap) (locs : List Loc) (ls : Array Slot), lv_has ls 4 [(0, .ref q), (1, .int x1), (2, .int x2), (3, .int x3)] → mW E q f_code a_tape a_size a_fault a_faultPlace a_many a_lands a_evenings a_sights a_choirs f_reached f_length f_begins f_sort f_value f_word f_wrongAt f_laterFault f_laterPlace a_told a_read f_farHut f_farSinger f_good f_land f_huts f_singers f_evening a_at a_knows a_climbed a_snow a_level f_begun f_minute f_avalanches a_run a_covers a_routes a_longest a_steep a_laid a_far f_sight a_runs f_choir f_voices a_rest a_wins f_seed a_other a_kept H → va_S (mA q) s.heap H locs → W p l e rm_m_allBy s m args below meth c H locs 0 0 (MQ below (zQi (S := (Nat → Int32) × (Nat → Int32)) (fun r u => post r u.1 u.2) (fun u H => mW E q f_code a_tape a_size a_fault a_faultPlace a_many a_lands a_evenings a_sights a_choirs f_reached f_length f_begins f_sort f_value f_word f_wrongAt f_laterFault f_laterPlace a_told a_read f_farHut f_farSinger f_good f_land f_huts f_singers f_evening a_at a_knows a_climbed a_snow a_level f_begun f_minute f_avalanches u.1 u.2 a_routes a_longest a_steep a_laid a_far f_sight a_runs f_choir f_voices a_rest a_wins f_seed a_other a_kept H) (mA q)) args s 0 0 (mA q)) (F0 m 4 ls [])) ?_ _ _ _ hl hM hS
  intro x2 x3 a_run a_covers hw H locs ls hl hM hS
  refine lv_iload_n hx hb dX11_allBy_4 rfl (lv_at hl 3 rfl) ?_
  refine lv_aload_n hx hb dX11_allBy_5 rfl (lv_at hl 0 rfl) ?_
  refine mg_11_307_0 zc hK hM dX11_allBy_6 ?_
  refine lv_icmp_ge (tgt := 61) hx hb dX11_allBy_9 (by decide) (fun hc => ?_) (fun hc => ?_)
  · have hw := hw.1 hc
    refine lv_iload_n hx hb dX11_allBy_61 rfl (lv_at hl 2 rfl) ?_
    exact zret_iw ⟨a_run, a_covers⟩ zc hS hw hM dX11_allBy_62
  · have hw := hw.2 hc
    refine lv_aload_n hx hb dX11_allBy_12 rfl (lv_at hl 0 rfl) ?_
    refine lv_iload_n hx hb dX11_allBy_13 rfl (lv_at hl 3 rfl) ?_
    refine lv_iconst (v := (0 : Int32)) hx hb dX11_allBy_14 (by decide) ?_
    refine zVw_v [.int x3, .int (0 : Int32)] [] zc ky_X11_findRun kz_X11_findRun km_11_414 (c_m_findRun l hw) (mPreV0 hK hM) hS rfl rfl hl.1 (Nat.le_of_ble_eq_true rfl) ⟨rfl, rfl⟩ ⟨Nat.le_of_ble_eq_true rfl, Nat.le_of_ble_eq_true rfl⟩ ⟨(Nat.zero_le _), (Nat.zero_le _)⟩ dX11_allBy_15 (fun a_run_1 H locs hw hM hS => ?_)
    refine lv_aload_n hx hb dX11_allBy_18 rfl (lv_at hl 0 rfl) ?_
    refine mg_11_62_0 zc hK hM dX11_allBy_19 ?_
    refine lv_iload_n hx hb dX11_allBy_22 rfl (lv_at hl 3 rfl) ?_
    refine lv_aload_n hx hb dX11_allBy_23 rfl (lv_at hl 0 rfl) ?_
    refine lv_iload_n hx hb dX11_allBy_24 rfl (lv_at hl 1 rfl) ?_
    refine zV_i [.int x1] [.int x3, .ref (q + 18)] zc ky_X11_comesBy kz_X11_comesBy km_11_423 (c_m_comesBy l hw) (mPreV0 hK hM) rfl rfl hl.1 (Nat.le_of_ble_eq_true rfl) ⟨rfl, rfl⟩ ⟨Nat.le_of_ble_eq_true rfl, Nat.le_of_ble_eq_true rfl⟩ ⟨(Nat.zero_le _), (Nat.zero_le _)⟩ dX11_allBy_25 (fun r_1 hw => ?_)
    refine mst_18 zc hK hM hS hw.1 dX11_allBy_28 (fun a_covers_1 H locs ea_covers_1 hM hS => ?_)
    have hw := hw.2 a_covers_1 ea_covers_1
    refine lv_iload_n hx hb dX11_allBy_29 rfl (lv_at hl 2 rfl) ?_
    refine lv_aload_n hx hb dX11_allBy_30 rfl (lv_at hl 0 rfl) ?_
    refine lv_iload_n hx hb dX11_allBy_31 rfl (lv_at hl 3 rfl) ?_
    refine zV_i [.int x3] [.int x2] zc ky_X11_isDam kz_X11_isDam km_11_355 (c_m_isDam l hw) (mPreV0 hK hM) rfl rfl hl.1 (Nat.le_of_ble_eq_true rfl) ⟨rfl, rfl⟩ ⟨Nat.le_of_ble_eq_true rfl, Nat.le_of_ble_eq_true rfl⟩ ⟨(Nat.zero_le _), (Nat.zero_le _)⟩ dX11_allBy_32 (fun r_2 hw => ?_)
    refine lv_if_ne (tgt := 52) hx hb dX11_allBy_35 (by decide) (fun hc => ?_) (fun hc => ?_)
    · have hw := hw.1 hc
      exact t_m_allBy_52 zc hK hM hS (fun _ _ _ _ H locs ls h hl hM hS => h H locs ls hl hM hS) (lv_sub hl [0, 1, 3] rfl) hw
    · have hw := hw.2 hc
      refine lv_aload_n hx hb dX11_allBy_38 rfl (lv_at hl 0 rfl) ?_
      refine zV_i [] [.int x2] zc ky_X11_lastVillage kz_X11_lastVillage km_11_426 (c_m_lastVillage l hw) (mPreV0 hK hM) rfl rfl hl.1 (Nat.le_of_ble_eq_true rfl) ⟨rfl, rfl⟩ ⟨Nat.le_of_ble_eq_true rfl, Nat.le_of_ble_eq_true rfl⟩ ⟨(Nat.zero_le _), (Nat.zero_le _)⟩ dX11_allBy_39 (fun r_3 hw => ?_)
      refine lv_iload_n hx hb dX11_allBy_42 rfl (lv_at hl 1 rfl) ?_
      refine lv_icmp_gt (tgt := 52) hx hb dX11_allBy_43 (by decide) (fun hc => ?_) (fun hc => ?_)
      · have hw := hw.1 hc
        exact t_m_allBy_52 zc hK hM hS (fun _ _ _ _ H locs ls h hl hM hS => h H locs ls hl hM hS) (lv_sub hl [0, 1, 3] rfl) hw
      · have hw := hw.2 hc
        refine lv_iconst (v := (1 : Int32)) hx hb dX11_allBy_46 (by decide) ?_
        refine lv_iload_n hx hb dX11_allBy_47 rfl (lv_at hl 3 rfl) ?_
        refine lv_ishl hx hb dX11_allBy_48 ?_
        refine lv_goto (tgt := 53) hx hb dX11_allBy_49 (by decide) ?_
        exact t_m_allBy_53 zc hK hM hS (fun _ _ _ _ H locs ls h hl hM hS => h H locs ls hl hM hS) (lv_sub hl [0, 1, 3] rfl) hw
set_option maxRecDepth 20000 in
theorem t_m_allBy_0 {p : Program} {l : Launch} {e : Env} {s : State} {m : MethodId} {args : Array Value} {below : List Frame} {meth : Method} {c : Code} {E : zE} {q : Nat} {f_code : Int32} {a_tape : Nat → Int32} {a_size : Nat → Int32} {a_fault : Nat → Int32} {a_faultPlace : Nat → Int32} {a_many : Nat → Int32} {a_lands : Nat → Int32} {a_evenings : Nat → Int32} {a_sights : Nat → Int32} {a_choirs : Nat → Int32} {f_reached : Int32} {f_length : Int32} {f_begins : Int32} {f_sort : Int32} {f_value : Int32} {f_word : Int64} {f_wrongAt : Int32} {f_laterFault : Int32} {f_laterPlace : Int32} {a_told : Nat → Int32} {a_read : Nat → Int32} {f_farHut : Int32} {f_farSinger : Int32} {f_good : Int32} {f_land : Int32} {f_huts : Int32} {f_singers : Int32} {f_evening : Int32} {a_at : Nat → Int32} {a_knows : Nat → Int32} {a_climbed : Nat → Int32} {a_snow : Nat → Int32} {a_level : Nat → Int32} {f_begun : Int32} {f_minute : Int32} {f_avalanches : Int32} {a_run : Nat → Int32} {a_covers : Nat → Int32} {a_routes : Nat → Int32} {a_longest : Nat → Int32} {a_steep : Nat → Int32} {a_laid : Nat → Int32} {a_far : Nat → Int32} {f_sight : Int32} {a_runs : Nat → Int32} {f_choir : Int32} {f_voices : Int32} {a_rest : Nat → Int64} {a_wins : Nat → Int32} {f_seed : Int32} {a_other : Nat → Int32} {a_kept : Nat → Int32} {post : Int32 → (Nat → Int32) → (Nat → Int32) → Prop} {x1 : Int32} {ls : Array Slot} {H : Heap} {locs : List Loc}
    (zc : zC p s m args meth c cX11_allBy 4 RX11 (some .int))
    (hK : zK E s)
    (hM : mW E q f_code a_tape a_size a_fault a_faultPlace a_many a_lands a_evenings a_sights a_choirs f_reached f_length f_begins f_sort f_value f_word f_wrongAt f_laterFault f_laterPlace a_told a_read f_farHut f_farSinger f_good f_land f_huts f_singers f_evening a_at a_knows a_climbed a_snow a_level f_begun f_minute f_avalanches a_run a_covers a_routes a_longest a_steep a_laid a_far f_sight a_runs f_choir f_voices a_rest a_wins f_seed a_other a_kept H)
    (hS : va_S (mA q) s.heap H locs)
    (hl : lv_has ls 4 [(0, .ref q), (1, .int x1)])
    (hw : q_m_allBy_0 a_lands f_land f_huts a_run a_covers x1 post) :
    W p l e rm_m_allBy s m args below meth c H locs 0 0 (MQ below (zQi (S := (Nat → Int32) × (Nat → Int32)) (fun r u => post r u.1 u.2) (fun u H => mW E q f_code a_tape a_size a_fault a_faultPlace a_many a_lands a_evenings a_sights a_choirs f_reached f_length f_begins f_sort f_value f_word f_wrongAt f_laterFault f_laterPlace a_told a_read f_farHut f_farSinger f_good f_land f_huts f_singers f_evening a_at a_knows a_climbed a_snow a_level f_begun f_minute f_avalanches u.1 u.2 a_routes a_longest a_steep a_laid a_far f_sight a_runs f_choir f_voices a_rest a_wins f_seed a_other a_kept H) (mA q)) args s 0 0 (mA q)) (F0 m 0 ls []) := by
  have hx := zc.1
  have hb := zc.2.1
  refine lv_iconst (v := (0 : Int32)) hx hb dX11_allBy_0 (by decide) ?_
  refine lv_istore_n (lv' := [(2, .int (0 : Int32)), (0, .ref q), (1, .int x1)]) hx hb dX11_allBy_1 rfl hl (by decide) rfl (fun ls hl => ?_)
  refine lv_iconst (v := (0 : Int32)) hx hb dX11_allBy_2 (by decide) ?_
  refine lv_istore_n (lv' := [(3, .int (0 : Int32)), (2, .int (0 : Int32)), (0, .ref q), (1, .int x1)]) hx hb dX11_allBy_3 rfl hl (by decide) rfl (fun ls hl => ?_)
  exact t_m_allBy_4 zc hK hM hS  (lv_sub hl [2, 3, 1, 0] rfl) hw
set_option maxRecDepth 20000 in
theorem c_m_allBy (l : Launch) {E : zE} {q : Nat} {f_code : Int32} {a_tape : Nat → Int32} {a_size : Nat → Int32} {a_fault : Nat → Int32} {a_faultPlace : Nat → Int32} {a_many : Nat → Int32} {a_lands : Nat → Int32} {a_evenings : Nat → Int32} {a_sights : Nat → Int32} {a_choirs : Nat → Int32} {f_reached : Int32} {f_length : Int32} {f_begins : Int32} {f_sort : Int32} {f_value : Int32} {f_word : Int64} {f_wrongAt : Int32} {f_laterFault : Int32} {f_laterPlace : Int32} {a_told : Nat → Int32} {a_read : Nat → Int32} {f_farHut : Int32} {f_farSinger : Int32} {f_good : Int32} {f_land : Int32} {f_huts : Int32} {f_singers : Int32} {f_evening : Int32} {a_at : Nat → Int32} {a_knows : Nat → Int32} {a_climbed : Nat → Int32} {a_snow : Nat → Int32} {a_level : Nat → Int32} {f_begun : Int32} {f_minute : Int32} {f_avalanches : Int32} {a_run : Nat → Int32} {a_covers : Nat → Int32} {a_routes : Nat → Int32} {a_longest : Nat → Int32} {a_steep : Nat → Int32} {a_laid : Nat → Int32} {a_far : Nat → Int32} {f_sight : Int32} {a_runs : Nat → Int32} {f_choir : Int32} {f_voices : Int32} {a_rest : Nat → Int64} {a_wins : Nat → Int32} {f_seed : Int32} {a_other : Nat → Int32} {a_kept : Nat → Int32} {x1 : Int32} {post : Int32 → (Nat → Int32) → (Nat → Int32) → Prop} (hw : q_m_allBy_0 a_lands f_land f_huts a_run a_covers x1 post) : Met l yX11_allBy (Cond.code yX11_allBy cX11_allBy 4 (some .int) :: zb) rm_m_allBy (va_Pc [.ref q, .int x1] (fun U => mW E q f_code a_tape a_size a_fault a_faultPlace a_many a_lands a_evenings a_sights a_choirs f_reached f_length f_begins f_sort f_value f_word f_wrongAt f_laterFault f_laterPlace a_told a_read f_farHut f_farSinger f_good f_land f_huts f_singers f_evening a_at a_knows a_climbed a_snow a_level f_begun f_minute f_avalanches a_run a_covers a_routes a_longest a_steep a_laid a_far f_sight a_runs f_choir f_voices a_rest a_wins f_seed a_other a_kept U.heap ∧ zK E U)) (zQi (S := (Nat → Int32) × (Nat → Int32)) (fun r u => post r u.1 u.2) (fun u H => mW E q f_code a_tape a_size a_fault a_faultPlace a_many a_lands a_evenings a_sights a_choirs f_reached f_length f_begins f_sort f_value f_word f_wrongAt f_laterFault f_laterPlace a_told a_read f_farHut f_farSinger f_good f_land f_huts f_singers f_evening a_at a_knows a_climbed a_snow a_level f_begun f_minute f_avalanches u.1 u.2 a_routes a_longest a_steep a_laid a_far f_sight a_runs f_choir f_voices a_rest a_wins f_seed a_other a_kept H) (mA q)) 0 0 (mA q) := by
  refine Met.ofW (cc := cX11_allBy) (maxL := 4) (ret := (some .int)) (by decide) rfl ?_
  intro p e s m args below meth c s₁ B hml hv
  obtain ⟨rfl, hM, hK⟩ := hv
  have zc := zc_of B hml
  have hl := lv_entry ([.ref q, .int x1]) (n := 4) (Nat.le_of_ble_eq_true rfl)
  rw [lg_entry_eq]
  generalize (lg_sl ([.ref q, .int x1]) ++ List.replicate (4 - (lg_sl ([.ref q, .int x1])).length) Slot.unset).toArray = ls at hl ⊢
  have hl : lv_has ls 4 [(0, .ref q), (1, .int x1)] := hl
  exact t_m_allBy_0 zc hK hM va_S.rf (lv_sub hl [0, 1] rfl) hw
-- m_fewest
abbrev rm_m_fewest : Room := { frames := 2, cells := 0, slots := 0, locals := 43 }
def q_m_fewest_54 (P5 : Int32 → Int32 → Prop) (P22 : Int32 → Int32 → Prop) (f_huts : Int32) (a_covers : Nat → Int32) (x1 : Int32) (x2 : Int32) (x3 : Int32) (x4 : Int32) (x6 : Int32) (y0 : Int32) (y1 : Int32) (post : Int32 → Prop) : Prop :=
  ∀ v_1 : Int32, v_1 = (y0 ||| y1) → (∀ v_2 : Int32, v_2 = x6 + (1 : Int32) → (P22 v_1 v_2))
def q_m_fewest_116 (P5 : Int32 → Int32 → Prop) (f_huts : Int32) (a_covers : Nat → Int32) (x1 : Int32) (x2 : Int32) (x4 : Int32) (y0 : Int32) (post : Int32 → Prop) : Prop :=
  ∀ v_1 : Int32, v_1 = x4 + (1 : Int32) → (P5 y0 v_1)
def q_m_fewest_110 (P5 : Int32 → Int32 → Prop) (f_huts : Int32) (a_covers : Nat → Int32) (x1 : Int32) (x2 : Int32) (x4 : Int32) (post : Int32 → Prop) : Prop :=
  q_m_fewest_116 P5 f_huts a_covers x1 x2 x4 x4 post
def q_m_fewest_115 (P5 : Int32 → Int32 → Prop) (f_huts : Int32) (a_covers : Nat → Int32) (x1 : Int32) (x2 : Int32) (x3 : Int32) (x4 : Int32) (post : Int32 → Prop) : Prop :=
  q_m_fewest_116 P5 f_huts a_covers x1 x2 x4 x3 post
def q_m_fewest_86 (P5 : Int32 → Int32 → Prop) (f_huts : Int32) (a_covers : Nat → Int32) (x1 : Int32) (x2 : Int32) (x3 : Int32) (x4 : Int32) (y0 : Int32) (post : Int32 → Prop) : Prop :=
  (y0 = 0 → (q_m_fewest_115 P5 f_huts a_covers x1 x2 x3 x4 post)) ∧ (¬ y0 = 0 → ((x3 = (-1 : Int32) → (q_m_fewest_110 P5 f_huts a_covers x1 x2 x4 post)) ∧ (¬ x3 = (-1 : Int32) → (q_m_ones_0 x4 (fun r_1 => q_m_ones_0 x3 (fun r_2 => (r_2 ≤ r_1 → (q_m_fewest_115 P5 f_huts a_covers x1 x2 x3 x4 post)) ∧ (¬ r_2 ≤ r_1 → (q_m_fewest_110 P5 f_huts a_covers x1 x2 x4 post))))))))
def q_m_fewest_85 (P5 : Int32 → Int32 → Prop) (f_huts : Int32) (a_covers : Nat → Int32) (x1 : Int32) (x2 : Int32) (x3 : Int32) (x4 : Int32) (post : Int32 → Prop) : Prop :=
  q_m_fewest_86 P5 f_huts a_covers x1 x2 x3 x4 (0 : Int32) post
def q_m_fewest_22 (P5 : Int32 → Int32 → Prop) (f_huts : Int32) (a_covers : Nat → Int32) (x1 : Int32) (x2 : Int32) (x3 : Int32) (x4 : Int32) (x5 : Int32) (x6 : Int32) (post : Int32 → Prop) : Prop :=
  ∀ P22 : Int32 → Int32 → Prop, (∀ (x5 : Int32) (x6 : Int32), ((f_huts ≤ x6 → ((¬ (x4 &&& (x1 ^^^ (-1 : Int32))) = 0 → (q_m_fewest_85 P5 f_huts a_covers x1 x2 x3 x4 post)) ∧ ((x4 &&& (x1 ^^^ (-1 : Int32))) = 0 → ((¬ (x2 &&& (x5 ^^^ (-1 : Int32))) = 0 → (q_m_fewest_85 P5 f_huts a_covers x1 x2 x3 x4 post)) ∧ ((x2 &&& (x5 ^^^ (-1 : Int32))) = 0 → (q_m_fewest_86 P5 f_huts a_covers x1 x2 x3 x4 (1 : Int32) post)))))) ∧ (¬ f_huts ≤ x6 → (q_m_has_0 x4 x6 (fun r_1 => (r_1 = 0 → (q_m_fewest_54 P5 P22 f_huts a_covers x1 x2 x3 x4 x6 x5 (0 : Int32) post)) ∧ (¬ r_1 = 0 → (vp_in x6 9 ∧ (q_m_fewest_54 P5 P22 f_huts a_covers x1 x2 x3 x4 x6 x5 (a_covers (Int32.toNatClampNeg x6)) post))))))) → P22 x5 x6) → P22 x5 x6
def q_m_fewest_5 (f_huts : Int32) (a_covers : Nat → Int32) (x1 : Int32) (x2 : Int32) (x3 : Int32) (x4 : Int32) (post : Int32 → Prop) : Prop :=
  ∀ P5 : Int32 → Int32 → Prop, (∀ (x3 : Int32) (x4 : Int32), ((((1 : Int32) <<< (f_huts &&& 31)) ≤ x4 → (post x3)) ∧ (¬ ((1 : Int32) <<< (f_huts &&& 31)) ≤ x4 → (q_m_fewest_22 P5 f_huts a_covers x1 x2 x3 x4 (0 : Int32) (0 : Int32) post))) → P5 x3 x4) → P5 x3 x4
def q_m_fewest_0 (f_huts : Int32) (a_covers : Nat → Int32) (x1 : Int32) (x2 : Int32) (post : Int32 → Prop) : Prop :=
  q_m_fewest_5 f_huts a_covers x1 x2 (-1 : Int32) (0 : Int32) post
set_option maxRecDepth 20000 in
theorem t_m_fewest_54 {p : Program} {l : Launch} {e : Env} {s : State} {m : MethodId} {args : Array Value} {below : List Frame} {meth : Method} {c : Code} {E : zE} {q : Nat} {f_code : Int32} {a_tape : Nat → Int32} {a_size : Nat → Int32} {a_fault : Nat → Int32} {a_faultPlace : Nat → Int32} {a_many : Nat → Int32} {a_lands : Nat → Int32} {a_evenings : Nat → Int32} {a_sights : Nat → Int32} {a_choirs : Nat → Int32} {f_reached : Int32} {f_length : Int32} {f_begins : Int32} {f_sort : Int32} {f_value : Int32} {f_word : Int64} {f_wrongAt : Int32} {f_laterFault : Int32} {f_laterPlace : Int32} {a_told : Nat → Int32} {a_read : Nat → Int32} {f_farHut : Int32} {f_farSinger : Int32} {f_good : Int32} {f_land : Int32} {f_huts : Int32} {f_singers : Int32} {f_evening : Int32} {a_at : Nat → Int32} {a_knows : Nat → Int32} {a_climbed : Nat → Int32} {a_snow : Nat → Int32} {a_level : Nat → Int32} {f_begun : Int32} {f_minute : Int32} {f_avalanches : Int32} {a_run : Nat → Int32} {a_covers : Nat → Int32} {a_routes : Nat → Int32} {a_longest : Nat → Int32} {a_steep : Nat → Int32} {a_laid : Nat → Int32} {a_far : Nat → Int32} {f_sight : Int32} {a_runs : Nat → Int32} {f_choir : Int32} {f_voices : Int32} {a_rest : Nat → Int64} {a_wins : Nat → Int32} {f_seed : Int32} {a_other : Nat → Int32} {a_kept : Nat → Int32} {P5 : Int32 → Int32 → Prop} {P22 : Int32 → Int32 → Prop} {post : Int32 → Prop} {x1 : Int32} {x2 : Int32} {x3 : Int32} {x4 : Int32} {x6 : Int32} {y0 : Int32} {y1 : Int32} {ls : Array Slot}
    (zc : zC p s m args meth c cX11_fewest 7 RX11 (some .int))
    (hK : zK E s)
    (hM : mW E q f_code a_tape a_size a_fault a_faultPlace a_many a_lands a_evenings a_sights a_choirs f_reached f_length f_begins f_sort f_value f_word f_wrongAt f_laterFault f_laterPlace a_told a_read f_farHut f_farSinger f_good f_land f_huts f_singers f_evening a_at a_knows a_climbed a_snow a_level f_begun f_minute f_avalanches a_run a_covers a_routes a_longest a_steep a_laid a_far f_sight a_runs f_choir f_voices a_rest a_wins f_seed a_other a_kept s.heap)
    (hP5 : ∀ (x3 : Int32) (x4 : Int32) (ls : Array Slot), P5 x3 x4 → lv_has ls 7 [(0, .ref q), (1, .int x1), (2, .int x2), (3, .int x3), (4, .int x4)] → W p l e rm_m_fewest s m args below meth c s.heap [] 0 0 (MQ below (vp_Si post) args s 0 0 (fun _ => False)) (F0 m 5 ls []))
    (hP22 : ∀ (x5 : Int32) (x6 : Int32) (ls : Array Slot), P22 x5 x6 → lv_has ls 7 [(0, .ref q), (1, .int x1), (2, .int x2), (3, .int x3), (4, .int x4), (5, .int x5), (6, .int x6)] → W p l e rm_m_fewest s m args below meth c s.heap [] 0 0 (MQ below (vp_Si post) args s 0 0 (fun _ => False)) (F0 m 22 ls []))
    (hl : lv_has ls 7 [(0, .ref q), (1, .int x1), (2, .int x2), (3, .int x3), (4, .int x4), (6, .int x6)])
    (hw : q_m_fewest_54 P5 P22 f_huts a_covers x1 x2 x3 x4 x6 y0 y1 post) :
    W p l e rm_m_fewest s m args below meth c s.heap [] 0 0 (MQ below (vp_Si post) args s 0 0 (fun _ => False)) (F0 m 54 ls [.int y1, .int y0]) := by
  have hx := zc.1
  have hb := zc.2.1
  refine lv_ior hx hb dX11_fewest_54 ?_
  refine lv_topi (fun v_1 ev_1 => ?_)
  have hw := hw v_1 ev_1
  refine lv_istore (lv' := [(5, .int v_1), (0, .ref q), (1, .int x1), (2, .int x2), (3, .int x3), (4, .int x4), (6, .int x6)]) hx hb dX11_fewest_55 hl (by decide) rfl (fun ls hl => ?_)
  obtain ⟨v_2, ev_2⟩ : ∃ y : Int32, y = x6 + (1 : Int32) := ⟨_, rfl⟩
  have hw := hw v_2 ev_2
  refine lv_iinc (v := v_2) (k := 6) (lv' := [(6, .int v_2), (5, .int v_1), (0, .ref q), (1, .int x1), (2, .int x2), (3, .int x3), (4, .int x4)]) hx hb dX11_fewest_57 hl rfl (by rw [ev_2]; rfl) (by decide) rfl (fun ls hl => ?_)
  refine lv_goto (tgt := 22) hx hb dX11_fewest_60 (by decide) ?_
  exact hP22 _ _ _ hw (lv_sub hl [2, 3, 4, 5, 6, 1, 0] rfl)
set_option maxRecDepth 20000 in
theorem t_m_fewest_116 {p : Program} {l : Launch} {e : Env} {s : State} {m : MethodId} {args : Array Value} {below : List Frame} {meth : Method} {c : Code} {E : zE} {q : Nat} {f_code : Int32} {a_tape : Nat → Int32} {a_size : Nat → Int32} {a_fault : Nat → Int32} {a_faultPlace : Nat → Int32} {a_many : Nat → Int32} {a_lands : Nat → Int32} {a_evenings : Nat → Int32} {a_sights : Nat → Int32} {a_choirs : Nat → Int32} {f_reached : Int32} {f_length : Int32} {f_begins : Int32} {f_sort : Int32} {f_value : Int32} {f_word : Int64} {f_wrongAt : Int32} {f_laterFault : Int32} {f_laterPlace : Int32} {a_told : Nat → Int32} {a_read : Nat → Int32} {f_farHut : Int32} {f_farSinger : Int32} {f_good : Int32} {f_land : Int32} {f_huts : Int32} {f_singers : Int32} {f_evening : Int32} {a_at : Nat → Int32} {a_knows : Nat → Int32} {a_climbed : Nat → Int32} {a_snow : Nat → Int32} {a_level : Nat → Int32} {f_begun : Int32} {f_minute : Int32} {f_avalanches : Int32} {a_run : Nat → Int32} {a_covers : Nat → Int32} {a_routes : Nat → Int32} {a_longest : Nat → Int32} {a_steep : Nat → Int32} {a_laid : Nat → Int32} {a_far : Nat → Int32} {f_sight : Int32} {a_runs : Nat → Int32} {f_choir : Int32} {f_voices : Int32} {a_rest : Nat → Int64} {a_wins : Nat → Int32} {f_seed : Int32} {a_other : Nat → Int32} {a_kept : Nat → Int32} {P5 : Int32 → Int32 → Prop} {post : Int32 → Prop} {x1 : Int32} {x2 : Int32} {x4 : Int32} {y0 : Int32} {ls : Array Slot}
    (zc : zC p s m args meth c cX11_fewest 7 RX11 (some .int))
    (hK : zK E s)
    (hM : mW E q f_code a_tape a_size a_fault a_faultPlace a_many a_lands a_evenings a_sights a_choirs f_reached f_length f_begins f_sort f_value f_word f_wrongAt f_laterFault f_laterPlace a_told a_read f_farHut f_farSinger f_good f_land f_huts f_singers f_evening a_at a_knows a_climbed a_snow a_level f_begun f_minute f_avalanches a_run a_covers a_routes a_longest a_steep a_laid a_far f_sight a_runs f_choir f_voices a_rest a_wins f_seed a_other a_kept s.heap)
    (hP5 : ∀ (x3 : Int32) (x4 : Int32) (ls : Array Slot), P5 x3 x4 → lv_has ls 7 [(0, .ref q), (1, .int x1), (2, .int x2), (3, .int x3), (4, .int x4)] → W p l e rm_m_fewest s m args below meth c s.heap [] 0 0 (MQ below (vp_Si post) args s 0 0 (fun _ => False)) (F0 m 5 ls []))
    (hl : lv_has ls 7 [(0, .ref q), (1, .int x1), (2, .int x2), (4, .int x4)])
    (hw : q_m_fewest_116 P5 f_huts a_covers x1 x2 x4 y0 post) :
    W p l e rm_m_fewest s m args below meth c s.heap [] 0 0 (MQ below (vp_Si post) args s 0 0 (fun _ => False)) (F0 m 116 ls [.int y0]) := by
  have hx := zc.1
  have hb := zc.2.1
  refine lv_istore_n (lv' := [(3, .int y0), (0, .ref q), (1, .int x1), (2, .int x2), (4, .int x4)]) hx hb dX11_fewest_116 rfl hl (by decide) rfl (fun ls hl => ?_)
  obtain ⟨v_1, ev_1⟩ : ∃ y : Int32, y = x4 + (1 : Int32) := ⟨_, rfl⟩
  have hw := hw v_1 ev_1
  refine lv_iinc (v := v_1) (k := 4) (lv' := [(4, .int v_1), (3, .int y0), (0, .ref q), (1, .int x1), (2, .int x2)]) hx hb dX11_fewest_117 hl rfl (by rw [ev_1]; rfl) (by decide) rfl (fun ls hl => ?_)
  refine lv_goto (tgt := 5) hx hb dX11_fewest_120 (by decide) ?_
  exact hP5 _ _ _ hw (lv_sub hl [2, 3, 4, 1, 0] rfl)
set_option maxRecDepth 20000 in
theorem t_m_fewest_110 {p : Program} {l : Launch} {e : Env} {s : State} {m : MethodId} {args : Array Value} {below : List Frame} {meth : Method} {c : Code} {E : zE} {q : Nat} {f_code : Int32} {a_tape : Nat → Int32} {a_size : Nat → Int32} {a_fault : Nat → Int32} {a_faultPlace : Nat → Int32} {a_many : Nat → Int32} {a_lands : Nat → Int32} {a_evenings : Nat → Int32} {a_sights : Nat → Int32} {a_choirs : Nat → Int32} {f_reached : Int32} {f_length : Int32} {f_begins : Int32} {f_sort : Int32} {f_value : Int32} {f_word : Int64} {f_wrongAt : Int32} {f_laterFault : Int32} {f_laterPlace : Int32} {a_told : Nat → Int32} {a_read : Nat → Int32} {f_farHut : Int32} {f_farSinger : Int32} {f_good : Int32} {f_land : Int32} {f_huts : Int32} {f_singers : Int32} {f_evening : Int32} {a_at : Nat → Int32} {a_knows : Nat → Int32} {a_climbed : Nat → Int32} {a_snow : Nat → Int32} {a_level : Nat → Int32} {f_begun : Int32} {f_minute : Int32} {f_avalanches : Int32} {a_run : Nat → Int32} {a_covers : Nat → Int32} {a_routes : Nat → Int32} {a_longest : Nat → Int32} {a_steep : Nat → Int32} {a_laid : Nat → Int32} {a_far : Nat → Int32} {f_sight : Int32} {a_runs : Nat → Int32} {f_choir : Int32} {f_voices : Int32} {a_rest : Nat → Int64} {a_wins : Nat → Int32} {f_seed : Int32} {a_other : Nat → Int32} {a_kept : Nat → Int32} {P5 : Int32 → Int32 → Prop} {post : Int32 → Prop} {x1 : Int32} {x2 : Int32} {x4 : Int32} {ls : Array Slot}
    (zc : zC p s m args meth c cX11_fewest 7 RX11 (some .int))
    (hK : zK E s)
    (hM : mW E q f_code a_tape a_size a_fault a_faultPlace a_many a_lands a_evenings a_sights a_choirs f_reached f_length f_begins f_sort f_value f_word f_wrongAt f_laterFault f_laterPlace a_told a_read f_farHut f_farSinger f_good f_land f_huts f_singers f_evening a_at a_knows a_climbed a_snow a_level f_begun f_minute f_avalanches a_run a_covers a_routes a_longest a_steep a_laid a_far f_sight a_runs f_choir f_voices a_rest a_wins f_seed a_other a_kept s.heap)
    (hP5 : ∀ (x3 : Int32) (x4 : Int32) (ls : Array Slot), P5 x3 x4 → lv_has ls 7 [(0, .ref q), (1, .int x1), (2, .int x2), (3, .int x3), (4, .int x4)] → W p l e rm_m_fewest s m args below meth c s.heap [] 0 0 (MQ below (vp_Si post) args s 0 0 (fun _ => False)) (F0 m 5 ls []))
    (hl : lv_has ls 7 [(0, .ref q), (1, .int x1), (2, .int x2), (4, .int x4)])
    (hw : q_m_fewest_110 P5 f_huts a_covers x1 x2 x4 post) :
    W p l e rm_m_fewest s m args below meth c s.heap [] 0 0 (MQ below (vp_Si post) args s 0 0 (fun _ => False)) (F0 m 110 ls []) := by
  have hx := zc.1
  have hb := zc.2.1
  refine lv_iload hx hb dX11_fewest_110 (lv_at hl 3 rfl) ?_
  refine lv_goto (tgt := 116) hx hb dX11_fewest_112 (by decide) ?_
  exact t_m_fewest_116 zc hK hM hP5 (lv_sub hl [0, 1, 2, 3] rfl) hw
set_option maxRecDepth 20000 in
theorem t_m_fewest_115 {p : Program} {l : Launch} {e : Env} {s : State} {m : MethodId} {args : Array Value} {below : List Frame} {meth : Method} {c : Code} {E : zE} {q : Nat} {f_code : Int32} {a_tape : Nat → Int32} {a_size : Nat → Int32} {a_fault : Nat → Int32} {a_faultPlace : Nat → Int32} {a_many : Nat → Int32} {a_lands : Nat → Int32} {a_evenings : Nat → Int32} {a_sights : Nat → Int32} {a_choirs : Nat → Int32} {f_reached : Int32} {f_length : Int32} {f_begins : Int32} {f_sort : Int32} {f_value : Int32} {f_word : Int64} {f_wrongAt : Int32} {f_laterFault : Int32} {f_laterPlace : Int32} {a_told : Nat → Int32} {a_read : Nat → Int32} {f_farHut : Int32} {f_farSinger : Int32} {f_good : Int32} {f_land : Int32} {f_huts : Int32} {f_singers : Int32} {f_evening : Int32} {a_at : Nat → Int32} {a_knows : Nat → Int32} {a_climbed : Nat → Int32} {a_snow : Nat → Int32} {a_level : Nat → Int32} {f_begun : Int32} {f_minute : Int32} {f_avalanches : Int32} {a_run : Nat → Int32} {a_covers : Nat → Int32} {a_routes : Nat → Int32} {a_longest : Nat → Int32} {a_steep : Nat → Int32} {a_laid : Nat → Int32} {a_far : Nat → Int32} {f_sight : Int32} {a_runs : Nat → Int32} {f_choir : Int32} {f_voices : Int32} {a_rest : Nat → Int64} {a_wins : Nat → Int32} {f_seed : Int32} {a_other : Nat → Int32} {a_kept : Nat → Int32} {P5 : Int32 → Int32 → Prop} {post : Int32 → Prop} {x1 : Int32} {x2 : Int32} {x3 : Int32} {x4 : Int32} {ls : Array Slot}
    (zc : zC p s m args meth c cX11_fewest 7 RX11 (some .int))
    (hK : zK E s)
    (hM : mW E q f_code a_tape a_size a_fault a_faultPlace a_many a_lands a_evenings a_sights a_choirs f_reached f_length f_begins f_sort f_value f_word f_wrongAt f_laterFault f_laterPlace a_told a_read f_farHut f_farSinger f_good f_land f_huts f_singers f_evening a_at a_knows a_climbed a_snow a_level f_begun f_minute f_avalanches a_run a_covers a_routes a_longest a_steep a_laid a_far f_sight a_runs f_choir f_voices a_rest a_wins f_seed a_other a_kept s.heap)
    (hP5 : ∀ (x3 : Int32) (x4 : Int32) (ls : Array Slot), P5 x3 x4 → lv_has ls 7 [(0, .ref q), (1, .int x1), (2, .int x2), (3, .int x3), (4, .int x4)] → W p l e rm_m_fewest s m args below meth c s.heap [] 0 0 (MQ below (vp_Si post) args s 0 0 (fun _ => False)) (F0 m 5 ls []))
    (hl : lv_has ls 7 [(0, .ref q), (1, .int x1), (2, .int x2), (3, .int x3), (4, .int x4)])
    (hw : q_m_fewest_115 P5 f_huts a_covers x1 x2 x3 x4 post) :
    W p l e rm_m_fewest s m args below meth c s.heap [] 0 0 (MQ below (vp_Si post) args s 0 0 (fun _ => False)) (F0 m 115 ls []) := by
  have hx := zc.1
  have hb := zc.2.1
  refine lv_iload_n hx hb dX11_fewest_115 rfl (lv_at hl 3 rfl) ?_
  exact t_m_fewest_116 zc hK hM hP5 (lv_sub hl [0, 1, 2, 4] rfl) hw
set_option maxRecDepth 20000 in
theorem t_m_fewest_86 {p : Program} {l : Launch} {e : Env} {s : State} {m : MethodId} {args : Array Value} {below : List Frame} {meth : Method} {c : Code} {E : zE} {q : Nat} {f_code : Int32} {a_tape : Nat → Int32} {a_size : Nat → Int32} {a_fault : Nat → Int32} {a_faultPlace : Nat → Int32} {a_many : Nat → Int32} {a_lands : Nat → Int32} {a_evenings : Nat → Int32} {a_sights : Nat → Int32} {a_choirs : Nat → Int32} {f_reached : Int32} {f_length : Int32} {f_begins : Int32} {f_sort : Int32} {f_value : Int32} {f_word : Int64} {f_wrongAt : Int32} {f_laterFault : Int32} {f_laterPlace : Int32} {a_told : Nat → Int32} {a_read : Nat → Int32} {f_farHut : Int32} {f_farSinger : Int32} {f_good : Int32} {f_land : Int32} {f_huts : Int32} {f_singers : Int32} {f_evening : Int32} {a_at : Nat → Int32} {a_knows : Nat → Int32} {a_climbed : Nat → Int32} {a_snow : Nat → Int32} {a_level : Nat → Int32} {f_begun : Int32} {f_minute : Int32} {f_avalanches : Int32} {a_run : Nat → Int32} {a_covers : Nat → Int32} {a_routes : Nat → Int32} {a_longest : Nat → Int32} {a_steep : Nat → Int32} {a_laid : Nat → Int32} {a_far : Nat → Int32} {f_sight : Int32} {a_runs : Nat → Int32} {f_choir : Int32} {f_voices : Int32} {a_rest : Nat → Int64} {a_wins : Nat → Int32} {f_seed : Int32} {a_other : Nat → Int32} {a_kept : Nat → Int32} {P5 : Int32 → Int32 → Prop} {post : Int32 → Prop} {x1 : Int32} {x2 : Int32} {x3 : Int32} {x4 : Int32} {y0 : Int32} {ls : Array Slot}
    (zc : zC p s m args meth c cX11_fewest 7 RX11 (some .int))
    (hK : zK E s)
    (hM : mW E q f_code a_tape a_size a_fault a_faultPlace a_many a_lands a_evenings a_sights a_choirs f_reached f_length f_begins f_sort f_value f_word f_wrongAt f_laterFault f_laterPlace a_told a_read f_farHut f_farSinger f_good f_land f_huts f_singers f_evening a_at a_knows a_climbed a_snow a_level f_begun f_minute f_avalanches a_run a_covers a_routes a_longest a_steep a_laid a_far f_sight a_runs f_choir f_voices a_rest a_wins f_seed a_other a_kept s.heap)
    (hP5 : ∀ (x3 : Int32) (x4 : Int32) (ls : Array Slot), P5 x3 x4 → lv_has ls 7 [(0, .ref q), (1, .int x1), (2, .int x2), (3, .int x3), (4, .int x4)] → W p l e rm_m_fewest s m args below meth c s.heap [] 0 0 (MQ below (vp_Si post) args s 0 0 (fun _ => False)) (F0 m 5 ls []))
    (hl : lv_has ls 7 [(0, .ref q), (1, .int x1), (2, .int x2), (3, .int x3), (4, .int x4)])
    (hw : q_m_fewest_86 P5 f_huts a_covers x1 x2 x3 x4 y0 post) :
    W p l e rm_m_fewest s m args below meth c s.heap [] 0 0 (MQ below (vp_Si post) args s 0 0 (fun _ => False)) (F0 m 86 ls [.int y0]) := by
  have hx := zc.1
  have hb := zc.2.1
  refine lv_istore (lv' := [(6, .int y0), (0, .ref q), (1, .int x1), (2, .int x2), (3, .int x3), (4, .int x4)]) hx hb dX11_fewest_86 hl (by decide) rfl (fun ls hl => ?_)
  refine lv_iload hx hb dX11_fewest_88 (lv_at hl 0 rfl) ?_
  refine lv_if_eq (tgt := 115) hx hb dX11_fewest_90 (by decide) (fun hc => ?_) (fun hc => ?_)
  · have hw := hw.1 hc
    exact t_m_fewest_115 zc hK hM hP5 (lv_sub hl [1, 2, 3, 4, 5] rfl) hw
  · have hw := hw.2 hc
    refine lv_iload_n hx hb dX11_fewest_93 rfl (lv_at hl 4 rfl) ?_
    refine lv_iconst (v := (-1 : Int32)) hx hb dX11_fewest_94 (by decide) ?_
    refine lv_icmp_eq (tgt := 110) hx hb dX11_fewest_95 (by decide) (fun hc => ?_) (fun hc => ?_)
    · have hw := hw.1 hc
      exact t_m_fewest_110 zc hK hM hP5 (lv_sub hl [1, 2, 3, 5] rfl) hw
    · have hw := hw.2 hc
      refine lv_iload hx hb dX11_fewest_98 (lv_at hl 5 rfl) ?_
      refine zS_i [.int x4] [] zc ky_X11_ones kz_X11_ones km_11_429 (c_m_ones l hw) (zPre0 _) rfl rfl hl.1 (Nat.le_of_ble_eq_true rfl) ⟨rfl, rfl⟩ ⟨Nat.le_of_ble_eq_true rfl, Nat.le_of_ble_eq_true rfl⟩ ⟨(Nat.zero_le _), (Nat.zero_le _)⟩ dX11_fewest_100 (fun r_1 hw => ?_)
      refine lv_iload_n hx hb dX11_fewest_103 rfl (lv_at hl 4 rfl) ?_
      refine zS_i [.int x3] [.int r_1] zc ky_X11_ones kz_X11_ones km_11_429 (c_m_ones l hw) (zPre0 _) rfl rfl hl.1 (Nat.le_of_ble_eq_true rfl) ⟨rfl, rfl⟩ ⟨Nat.le_of_ble_eq_true rfl, Nat.le_of_ble_eq_true rfl⟩ ⟨(Nat.zero_le _), (Nat.zero_le _)⟩ dX11_fewest_104 (fun r_2 hw => ?_)
      refine lv_icmp_ge (tgt := 115) hx hb dX11_fewest_107 (by decide) (fun hc => ?_) (fun hc => ?_)
      · have hw := hw.1 hc
        exact t_m_fewest_115 zc hK hM hP5 (lv_sub hl [1, 2, 3, 4, 5] rfl) hw
      · have hw := hw.2 hc
        exact t_m_fewest_110 zc hK hM hP5 (lv_sub hl [1, 2, 3, 5] rfl) hw
set_option maxRecDepth 20000 in
theorem t_m_fewest_85 {p : Program} {l : Launch} {e : Env} {s : State} {m : MethodId} {args : Array Value} {below : List Frame} {meth : Method} {c : Code} {E : zE} {q : Nat} {f_code : Int32} {a_tape : Nat → Int32} {a_size : Nat → Int32} {a_fault : Nat → Int32} {a_faultPlace : Nat → Int32} {a_many : Nat → Int32} {a_lands : Nat → Int32} {a_evenings : Nat → Int32} {a_sights : Nat → Int32} {a_choirs : Nat → Int32} {f_reached : Int32} {f_length : Int32} {f_begins : Int32} {f_sort : Int32} {f_value : Int32} {f_word : Int64} {f_wrongAt : Int32} {f_laterFault : Int32} {f_laterPlace : Int32} {a_told : Nat → Int32} {a_read : Nat → Int32} {f_farHut : Int32} {f_farSinger : Int32} {f_good : Int32} {f_land : Int32} {f_huts : Int32} {f_singers : Int32} {f_evening : Int32} {a_at : Nat → Int32} {a_knows : Nat → Int32} {a_climbed : Nat → Int32} {a_snow : Nat → Int32} {a_level : Nat → Int32} {f_begun : Int32} {f_minute : Int32} {f_avalanches : Int32} {a_run : Nat → Int32} {a_covers : Nat → Int32} {a_routes : Nat → Int32} {a_longest : Nat → Int32} {a_steep : Nat → Int32} {a_laid : Nat → Int32} {a_far : Nat → Int32} {f_sight : Int32} {a_runs : Nat → Int32} {f_choir : Int32} {f_voices : Int32} {a_rest : Nat → Int64} {a_wins : Nat → Int32} {f_seed : Int32} {a_other : Nat → Int32} {a_kept : Nat → Int32} {P5 : Int32 → Int32 → Prop} {post : Int32 → Prop} {x1 : Int32} {x2 : Int32} {x3 : Int32} {x4 : Int32} {ls : Array Slot}
    (zc : zC p s m args meth c cX11_fewest 7 RX11 (some .int))
    (hK : zK E s)
    (hM : mW E q f_code a_tape a_size a_fault a_faultPlace a_many a_lands a_evenings a_sights a_choirs f_reached f_length f_begins f_sort f_value f_word f_wrongAt f_laterFault f_laterPlace a_told a_read f_farHut f_farSinger f_good f_land f_huts f_singers f_evening a_at a_knows a_climbed a_snow a_level f_begun f_minute f_avalanches a_run a_covers a_routes a_longest a_steep a_laid a_far f_sight a_runs f_choir f_voices a_rest a_wins f_seed a_other a_kept s.heap)
    (hP5 : ∀ (x3 : Int32) (x4 : Int32) (ls : Array Slot), P5 x3 x4 → lv_has ls 7 [(0, .ref q), (1, .int x1), (2, .int x2), (3, .int x3), (4, .int x4)] → W p l e rm_m_fewest s m args below meth c s.heap [] 0 0 (MQ below (vp_Si post) args s 0 0 (fun _ => False)) (F0 m 5 ls []))
    (hl : lv_has ls 7 [(0, .ref q), (1, .int x1), (2, .int x2), (3, .int x3), (4, .int x4)])
    (hw : q_m_fewest_85 P5 f_huts a_covers x1 x2 x3 x4 post) :
    W p l e rm_m_fewest s m args below meth c s.heap [] 0 0 (MQ below (vp_Si post) args s 0 0 (fun _ => False)) (F0 m 85 ls []) := by
  have hx := zc.1
  have hb := zc.2.1
  refine lv_iconst (v := (0 : Int32)) hx hb dX11_fewest_85 (by decide) ?_
  exact t_m_fewest_86 zc hK hM hP5 (lv_sub hl [0, 1, 2, 3, 4] rfl) hw
set_option maxRecDepth 20000 in
theorem t_m_fewest_22 {p : Program} {l : Launch} {e : Env} {s : State} {m : MethodId} {args : Array Value} {below : List Frame} {meth : Method} {c : Code} {E : zE} {q : Nat} {f_code : Int32} {a_tape : Nat → Int32} {a_size : Nat → Int32} {a_fault : Nat → Int32} {a_faultPlace : Nat → Int32} {a_many : Nat → Int32} {a_lands : Nat → Int32} {a_evenings : Nat → Int32} {a_sights : Nat → Int32} {a_choirs : Nat → Int32} {f_reached : Int32} {f_length : Int32} {f_begins : Int32} {f_sort : Int32} {f_value : Int32} {f_word : Int64} {f_wrongAt : Int32} {f_laterFault : Int32} {f_laterPlace : Int32} {a_told : Nat → Int32} {a_read : Nat → Int32} {f_farHut : Int32} {f_farSinger : Int32} {f_good : Int32} {f_land : Int32} {f_huts : Int32} {f_singers : Int32} {f_evening : Int32} {a_at : Nat → Int32} {a_knows : Nat → Int32} {a_climbed : Nat → Int32} {a_snow : Nat → Int32} {a_level : Nat → Int32} {f_begun : Int32} {f_minute : Int32} {f_avalanches : Int32} {a_run : Nat → Int32} {a_covers : Nat → Int32} {a_routes : Nat → Int32} {a_longest : Nat → Int32} {a_steep : Nat → Int32} {a_laid : Nat → Int32} {a_far : Nat → Int32} {f_sight : Int32} {a_runs : Nat → Int32} {f_choir : Int32} {f_voices : Int32} {a_rest : Nat → Int64} {a_wins : Nat → Int32} {f_seed : Int32} {a_other : Nat → Int32} {a_kept : Nat → Int32} {P5 : Int32 → Int32 → Prop} {post : Int32 → Prop} {x1 : Int32} {x2 : Int32} {x3 : Int32} {x4 : Int32} {x5 : Int32} {x6 : Int32} {ls : Array Slot}
    (zc : zC p s m args meth c cX11_fewest 7 RX11 (some .int))
    (hK : zK E s)
    (hM : mW E q f_code a_tape a_size a_fault a_faultPlace a_many a_lands a_evenings a_sights a_choirs f_reached f_length f_begins f_sort f_value f_word f_wrongAt f_laterFault f_laterPlace a_told a_read f_farHut f_farSinger f_good f_land f_huts f_singers f_evening a_at a_knows a_climbed a_snow a_level f_begun f_minute f_avalanches a_run a_covers a_routes a_longest a_steep a_laid a_far f_sight a_runs f_choir f_voices a_rest a_wins f_seed a_other a_kept s.heap)
    (hP5 : ∀ (x3 : Int32) (x4 : Int32) (ls : Array Slot), P5 x3 x4 → lv_has ls 7 [(0, .ref q), (1, .int x1), (2, .int x2), (3, .int x3), (4, .int x4)] → W p l e rm_m_fewest s m args below meth c s.heap [] 0 0 (MQ below (vp_Si post) args s 0 0 (fun _ => False)) (F0 m 5 ls []))
    (hl : lv_has ls 7 [(0, .ref q), (1, .int x1), (2, .int x2), (3, .int x3), (4, .int x4), (5, .int x5), (6, .int x6)])
    (hw : q_m_fewest_22 P5 f_huts a_covers x1 x2 x3 x4 x5 x6 post) :
    W p l e rm_m_fewest s m args below meth c s.heap [] 0 0 (MQ below (vp_Si post) args s 0 0 (fun _ => False)) (F0 m 22 ls []) := by
  have hx := zc.1
  have hb := zc.2.1
  refine hw (fun x5 x6 => ∀ (ls : Array Slot), lv_has ls 7 [(0, .ref q), (1, .int x1), (2, .int x2), (3, .int x3), (4, .int x4), (5, .int x5), (6, .int x6)] → W p l e rm_m_fewest s m args below meth c s.heap [] 0 0 (MQ below (vp_Si post) args s 0 0 (fun _ => False)) (F0 m 22 ls [])) ?_ _ hl
  intro x5 x6 hw ls hl
  refine lv_iload hx hb dX11_fewest_22 (lv_at hl 6 rfl) ?_
  refine lv_aload_n hx hb dX11_fewest_24 rfl (lv_at hl 0 rfl) ?_
  refine mg_11_307_0 zc hK hM dX11_fewest_25 ?_
  refine lv_icmp_ge (tgt := 63) hx hb dX11_fewest_28 (by decide) (fun hc => ?_) (fun hc => ?_)
  · have hw := hw.1 hc
    refine lv_iload hx hb dX11_fewest_63 (lv_at hl 4 rfl) ?_
    refine lv_iload_n hx hb dX11_fewest_65 rfl (lv_at hl 1 rfl) ?_
    refine lv_iconst (v := (-1 : Int32)) hx hb dX11_fewest_66 (by decide) ?_
    refine lv_ixor hx hb dX11_fewest_67 ?_
    refine lv_iand hx hb dX11_fewest_68 ?_
    refine lv_if_ne (tgt := 85) hx hb dX11_fewest_69 (by decide) (fun hc => ?_) (fun hc => ?_)
    · have hw := hw.1 hc
      exact t_m_fewest_85 zc hK hM hP5 (lv_sub hl [0, 1, 2, 3, 4] rfl) hw
    · have hw := hw.2 hc
      refine lv_iload_n hx hb dX11_fewest_72 rfl (lv_at hl 2 rfl) ?_
      refine lv_iload hx hb dX11_fewest_73 (lv_at hl 5 rfl) ?_
      refine lv_iconst (v := (-1 : Int32)) hx hb dX11_fewest_75 (by decide) ?_
      refine lv_ixor hx hb dX11_fewest_76 ?_
      refine lv_iand hx hb dX11_fewest_77 ?_
      refine lv_if_ne (tgt := 85) hx hb dX11_fewest_78 (by decide) (fun hc => ?_) (fun hc => ?_)
      · have hw := hw.1 hc
        exact t_m_fewest_85 zc hK hM hP5 (lv_sub hl [0, 1, 2, 3, 4] rfl) hw
      · have hw := hw.2 hc
        refine lv_iconst (v := (1 : Int32)) hx hb dX11_fewest_81 (by decide) ?_
        refine lv_goto (tgt := 86) hx hb dX11_fewest_82 (by decide) ?_
        exact t_m_fewest_86 zc hK hM hP5 (lv_sub hl [0, 1, 2, 3, 4] rfl) hw
  · have hw := hw.2 hc
    refine lv_iload hx hb dX11_fewest_31 (lv_at hl 5 rfl) ?_
    refine lv_iload hx hb dX11_fewest_33 (lv_at hl 4 rfl) ?_
    refine lv_iload hx hb dX11_fewest_35 (lv_at hl 6 rfl) ?_
    refine zS_i [.int x4, .int x6] [.int x5] zc ky_X11_has kz_X11_has km_11_101 (c_m_has l hw) (zPre0 _) rfl rfl hl.1 (Nat.le_of_ble_eq_true rfl) ⟨rfl, rfl⟩ ⟨Nat.le_of_ble_eq_true rfl, Nat.le_of_ble_eq_true rfl⟩ ⟨(Nat.zero_le _), (Nat.zero_le _)⟩ dX11_fewest_37 (fun r_1 hw => ?_)
    refine lv_if_eq (tgt := 53) hx hb dX11_fewest_40 (by decide) (fun hc => ?_) (fun hc => ?_)
    · have hw := hw.1 hc
      refine lv_iconst (v := (0 : Int32)) hx hb dX11_fewest_53 (by decide) ?_
      exact t_m_fewest_54 zc hK hM hP5 (fun _ _ ls h hl => h ls hl) (lv_sub hl [0, 1, 2, 3, 4, 6] rfl) hw
    · have hw := hw.2 hc
      refine lv_aload_n hx hb dX11_fewest_43 rfl (lv_at hl 0 rfl) ?_
      refine mg_11_62_0 zc hK hM dX11_fewest_44 ?_
      refine lv_iload hx hb dX11_fewest_47 (lv_at hl 6 rfl) ?_
      refine mld_18 zc hK hM hw.1 dX11_fewest_49 ?_
      have hw := hw.2
      refine lv_goto (tgt := 54) hx hb dX11_fewest_50 (by decide) ?_
      exact t_m_fewest_54 zc hK hM hP5 (fun _ _ ls h hl => h ls hl) (lv_sub hl [0, 1, 2, 3, 4, 6] rfl) hw
set_option maxRecDepth 20000 in
theorem t_m_fewest_5 {p : Program} {l : Launch} {e : Env} {s : State} {m : MethodId} {args : Array Value} {below : List Frame} {meth : Method} {c : Code} {E : zE} {q : Nat} {f_code : Int32} {a_tape : Nat → Int32} {a_size : Nat → Int32} {a_fault : Nat → Int32} {a_faultPlace : Nat → Int32} {a_many : Nat → Int32} {a_lands : Nat → Int32} {a_evenings : Nat → Int32} {a_sights : Nat → Int32} {a_choirs : Nat → Int32} {f_reached : Int32} {f_length : Int32} {f_begins : Int32} {f_sort : Int32} {f_value : Int32} {f_word : Int64} {f_wrongAt : Int32} {f_laterFault : Int32} {f_laterPlace : Int32} {a_told : Nat → Int32} {a_read : Nat → Int32} {f_farHut : Int32} {f_farSinger : Int32} {f_good : Int32} {f_land : Int32} {f_huts : Int32} {f_singers : Int32} {f_evening : Int32} {a_at : Nat → Int32} {a_knows : Nat → Int32} {a_climbed : Nat → Int32} {a_snow : Nat → Int32} {a_level : Nat → Int32} {f_begun : Int32} {f_minute : Int32} {f_avalanches : Int32} {a_run : Nat → Int32} {a_covers : Nat → Int32} {a_routes : Nat → Int32} {a_longest : Nat → Int32} {a_steep : Nat → Int32} {a_laid : Nat → Int32} {a_far : Nat → Int32} {f_sight : Int32} {a_runs : Nat → Int32} {f_choir : Int32} {f_voices : Int32} {a_rest : Nat → Int64} {a_wins : Nat → Int32} {f_seed : Int32} {a_other : Nat → Int32} {a_kept : Nat → Int32} {post : Int32 → Prop} {x1 : Int32} {x2 : Int32} {x3 : Int32} {x4 : Int32} {ls : Array Slot}
    (zc : zC p s m args meth c cX11_fewest 7 RX11 (some .int))
    (hK : zK E s)
    (hM : mW E q f_code a_tape a_size a_fault a_faultPlace a_many a_lands a_evenings a_sights a_choirs f_reached f_length f_begins f_sort f_value f_word f_wrongAt f_laterFault f_laterPlace a_told a_read f_farHut f_farSinger f_good f_land f_huts f_singers f_evening a_at a_knows a_climbed a_snow a_level f_begun f_minute f_avalanches a_run a_covers a_routes a_longest a_steep a_laid a_far f_sight a_runs f_choir f_voices a_rest a_wins f_seed a_other a_kept s.heap)
    (hl : lv_has ls 7 [(0, .ref q), (1, .int x1), (2, .int x2), (3, .int x3), (4, .int x4)])
    (hw : q_m_fewest_5 f_huts a_covers x1 x2 x3 x4 post) :
    W p l e rm_m_fewest s m args below meth c s.heap [] 0 0 (MQ below (vp_Si post) args s 0 0 (fun _ => False)) (F0 m 5 ls []) := by
  have hx := zc.1
  have hb := zc.2.1
  refine hw (fun x3 x4 => ∀ (ls : Array Slot), lv_has ls 7 [(0, .ref q), (1, .int x1), (2, .int x2), (3, .int x3), (4, .int x4)] → W p l e rm_m_fewest s m args below meth c s.heap [] 0 0 (MQ below (vp_Si post) args s 0 0 (fun _ => False)) (F0 m 5 ls [])) ?_ _ hl
  intro x3 x4 hw ls hl
  refine lv_iload hx hb dX11_fewest_5 (lv_at hl 4 rfl) ?_
  refine lv_iconst (v := (1 : Int32)) hx hb dX11_fewest_7 (by decide) ?_
  refine lv_aload_n hx hb dX11_fewest_8 rfl (lv_at hl 0 rfl) ?_
  refine mg_11_307_0 zc hK hM dX11_fewest_9 ?_
  refine lv_ishl hx hb dX11_fewest_12 ?_
  refine lv_icmp_ge (tgt := 123) hx hb dX11_fewest_13 (by decide) (fun hc => ?_) (fun hc => ?_)
  · have hw := hw.1 hc
    refine lv_iload_n hx hb dX11_fewest_123 rfl (lv_at hl 3 rfl) ?_
    exact zret_i zc hw dX11_fewest_124
  · have hw := hw.2 hc
    refine lv_iconst (v := (0 : Int32)) hx hb dX11_fewest_16 (by decide) ?_
    refine lv_istore (lv' := [(5, .int (0 : Int32)), (0, .ref q), (1, .int x1), (2, .int x2), (3, .int x3), (4, .int x4)]) hx hb dX11_fewest_17 hl (by decide) rfl (fun ls hl => ?_)
    refine lv_iconst (v := (0 : Int32)) hx hb dX11_fewest_19 (by decide) ?_
    refine lv_istore (lv' := [(6, .int (0 : Int32)), (5, .int (0 : Int32)), (0, .ref q), (1, .int x1), (2, .int x2), (3, .int x3), (4, .int x4)]) hx hb dX11_fewest_20 hl (by decide) rfl (fun ls hl => ?_)
    exact t_m_fewest_22 zc hK hM (fun _ _ ls h hl => h ls hl) (lv_sub hl [2, 3, 4, 5, 6, 1, 0] rfl) hw
set_option maxRecDepth 20000 in
theorem t_m_fewest_0 {p : Program} {l : Launch} {e : Env} {s : State} {m : MethodId} {args : Array Value} {below : List Frame} {meth : Method} {c : Code} {E : zE} {q : Nat} {f_code : Int32} {a_tape : Nat → Int32} {a_size : Nat → Int32} {a_fault : Nat → Int32} {a_faultPlace : Nat → Int32} {a_many : Nat → Int32} {a_lands : Nat → Int32} {a_evenings : Nat → Int32} {a_sights : Nat → Int32} {a_choirs : Nat → Int32} {f_reached : Int32} {f_length : Int32} {f_begins : Int32} {f_sort : Int32} {f_value : Int32} {f_word : Int64} {f_wrongAt : Int32} {f_laterFault : Int32} {f_laterPlace : Int32} {a_told : Nat → Int32} {a_read : Nat → Int32} {f_farHut : Int32} {f_farSinger : Int32} {f_good : Int32} {f_land : Int32} {f_huts : Int32} {f_singers : Int32} {f_evening : Int32} {a_at : Nat → Int32} {a_knows : Nat → Int32} {a_climbed : Nat → Int32} {a_snow : Nat → Int32} {a_level : Nat → Int32} {f_begun : Int32} {f_minute : Int32} {f_avalanches : Int32} {a_run : Nat → Int32} {a_covers : Nat → Int32} {a_routes : Nat → Int32} {a_longest : Nat → Int32} {a_steep : Nat → Int32} {a_laid : Nat → Int32} {a_far : Nat → Int32} {f_sight : Int32} {a_runs : Nat → Int32} {f_choir : Int32} {f_voices : Int32} {a_rest : Nat → Int64} {a_wins : Nat → Int32} {f_seed : Int32} {a_other : Nat → Int32} {a_kept : Nat → Int32} {post : Int32 → Prop} {x1 : Int32} {x2 : Int32} {ls : Array Slot}
    (zc : zC p s m args meth c cX11_fewest 7 RX11 (some .int))
    (hK : zK E s)
    (hM : mW E q f_code a_tape a_size a_fault a_faultPlace a_many a_lands a_evenings a_sights a_choirs f_reached f_length f_begins f_sort f_value f_word f_wrongAt f_laterFault f_laterPlace a_told a_read f_farHut f_farSinger f_good f_land f_huts f_singers f_evening a_at a_knows a_climbed a_snow a_level f_begun f_minute f_avalanches a_run a_covers a_routes a_longest a_steep a_laid a_far f_sight a_runs f_choir f_voices a_rest a_wins f_seed a_other a_kept s.heap)
    (hl : lv_has ls 7 [(0, .ref q), (1, .int x1), (2, .int x2)])
    (hw : q_m_fewest_0 f_huts a_covers x1 x2 post) :
    W p l e rm_m_fewest s m args below meth c s.heap [] 0 0 (MQ below (vp_Si post) args s 0 0 (fun _ => False)) (F0 m 0 ls []) := by
  have hx := zc.1
  have hb := zc.2.1
  refine lv_iconst (v := (-1 : Int32)) hx hb dX11_fewest_0 (by decide) ?_
  refine lv_istore_n (lv' := [(3, .int (-1 : Int32)), (0, .ref q), (1, .int x1), (2, .int x2)]) hx hb dX11_fewest_1 rfl hl (by decide) rfl (fun ls hl => ?_)
  refine lv_iconst (v := (0 : Int32)) hx hb dX11_fewest_2 (by decide) ?_
  refine lv_istore (lv' := [(4, .int (0 : Int32)), (3, .int (-1 : Int32)), (0, .ref q), (1, .int x1), (2, .int x2)]) hx hb dX11_fewest_3 hl (by decide) rfl (fun ls hl => ?_)
  exact t_m_fewest_5 zc hK hM  (lv_sub hl [2, 3, 4, 1, 0] rfl) hw
set_option maxRecDepth 20000 in
theorem c_m_fewest (l : Launch) {E : zE} {q : Nat} {f_code : Int32} {a_tape : Nat → Int32} {a_size : Nat → Int32} {a_fault : Nat → Int32} {a_faultPlace : Nat → Int32} {a_many : Nat → Int32} {a_lands : Nat → Int32} {a_evenings : Nat → Int32} {a_sights : Nat → Int32} {a_choirs : Nat → Int32} {f_reached : Int32} {f_length : Int32} {f_begins : Int32} {f_sort : Int32} {f_value : Int32} {f_word : Int64} {f_wrongAt : Int32} {f_laterFault : Int32} {f_laterPlace : Int32} {a_told : Nat → Int32} {a_read : Nat → Int32} {f_farHut : Int32} {f_farSinger : Int32} {f_good : Int32} {f_land : Int32} {f_huts : Int32} {f_singers : Int32} {f_evening : Int32} {a_at : Nat → Int32} {a_knows : Nat → Int32} {a_climbed : Nat → Int32} {a_snow : Nat → Int32} {a_level : Nat → Int32} {f_begun : Int32} {f_minute : Int32} {f_avalanches : Int32} {a_run : Nat → Int32} {a_covers : Nat → Int32} {a_routes : Nat → Int32} {a_longest : Nat → Int32} {a_steep : Nat → Int32} {a_laid : Nat → Int32} {a_far : Nat → Int32} {f_sight : Int32} {a_runs : Nat → Int32} {f_choir : Int32} {f_voices : Int32} {a_rest : Nat → Int64} {a_wins : Nat → Int32} {f_seed : Int32} {a_other : Nat → Int32} {a_kept : Nat → Int32} {x1 : Int32} {x2 : Int32} {post : Int32 → Prop} (hw : q_m_fewest_0 f_huts a_covers x1 x2 post) : Met l yX11_fewest (Cond.code yX11_fewest cX11_fewest 7 (some .int) :: zb) rm_m_fewest (va_Pc [.ref q, .int x1, .int x2] (fun U => mW E q f_code a_tape a_size a_fault a_faultPlace a_many a_lands a_evenings a_sights a_choirs f_reached f_length f_begins f_sort f_value f_word f_wrongAt f_laterFault f_laterPlace a_told a_read f_farHut f_farSinger f_good f_land f_huts f_singers f_evening a_at a_knows a_climbed a_snow a_level f_begun f_minute f_avalanches a_run a_covers a_routes a_longest a_steep a_laid a_far f_sight a_runs f_choir f_voices a_rest a_wins f_seed a_other a_kept U.heap ∧ zK E U)) (vp_Si post) 0 0 (fun _ => False) := by
  refine Met.ofW (cc := cX11_fewest) (maxL := 7) (ret := (some .int)) (by decide) rfl ?_
  intro p e s m args below meth c s₁ B hml hv
  obtain ⟨rfl, hM, hK⟩ := hv
  have zc := zc_of B hml
  have hl := lv_entry ([.ref q, .int x1, .int x2]) (n := 7) (Nat.le_of_ble_eq_true rfl)
  rw [lg_entry_eq]
  generalize (lg_sl ([.ref q, .int x1, .int x2]) ++ List.replicate (7 - (lg_sl ([.ref q, .int x1, .int x2])).length) Slot.unset).toArray = ls at hl ⊢
  have hl : lv_has ls 7 [(0, .ref q), (1, .int x1), (2, .int x2)] := hl
  exact t_m_fewest_0 zc hK hM (lv_sub hl [0, 1, 2] rfl) hw
-- m_noDams
abbrev rm_m_noDams : Room := { frames := 1, cells := 0, slots := 0, locals := 21 }
def q_m_noDams_0 (a_lands : Nat → Int32) (f_land : Int32) (f_huts : Int32) (post : Int32 → Prop) : Prop :=
  q_m_of_0 a_lands f_land (3 : Int32) (fun r_1 => post ((((1 : Int32) <<< (f_huts &&& 31)) - (1 : Int32)) &&& (r_1 ^^^ (-1 : Int32))))
set_option maxRecDepth 20000 in
theorem t_m_noDams_0 {p : Program} {l : Launch} {e : Env} {s : State} {m : MethodId} {args : Array Value} {below : List Frame} {meth : Method} {c : Code} {E : zE} {q : Nat} {f_code : Int32} {a_tape : Nat → Int32} {a_size : Nat → Int32} {a_fault : Nat → Int32} {a_faultPlace : Nat → Int32} {a_many : Nat → Int32} {a_lands : Nat → Int32} {a_evenings : Nat → Int32} {a_sights : Nat → Int32} {a_choirs : Nat → Int32} {f_reached : Int32} {f_length : Int32} {f_begins : Int32} {f_sort : Int32} {f_value : Int32} {f_word : Int64} {f_wrongAt : Int32} {f_laterFault : Int32} {f_laterPlace : Int32} {a_told : Nat → Int32} {a_read : Nat → Int32} {f_farHut : Int32} {f_farSinger : Int32} {f_good : Int32} {f_land : Int32} {f_huts : Int32} {f_singers : Int32} {f_evening : Int32} {a_at : Nat → Int32} {a_knows : Nat → Int32} {a_climbed : Nat → Int32} {a_snow : Nat → Int32} {a_level : Nat → Int32} {f_begun : Int32} {f_minute : Int32} {f_avalanches : Int32} {a_run : Nat → Int32} {a_covers : Nat → Int32} {a_routes : Nat → Int32} {a_longest : Nat → Int32} {a_steep : Nat → Int32} {a_laid : Nat → Int32} {a_far : Nat → Int32} {f_sight : Int32} {a_runs : Nat → Int32} {f_choir : Int32} {f_voices : Int32} {a_rest : Nat → Int64} {a_wins : Nat → Int32} {f_seed : Int32} {a_other : Nat → Int32} {a_kept : Nat → Int32} {post : Int32 → Prop} {ls : Array Slot}
    (zc : zC p s m args meth c cX11_noDams 1 RX11 (some .int))
    (hK : zK E s)
    (hM : mW E q f_code a_tape a_size a_fault a_faultPlace a_many a_lands a_evenings a_sights a_choirs f_reached f_length f_begins f_sort f_value f_word f_wrongAt f_laterFault f_laterPlace a_told a_read f_farHut f_farSinger f_good f_land f_huts f_singers f_evening a_at a_knows a_climbed a_snow a_level f_begun f_minute f_avalanches a_run a_covers a_routes a_longest a_steep a_laid a_far f_sight a_runs f_choir f_voices a_rest a_wins f_seed a_other a_kept s.heap)
    (hl : lv_has ls 1 [(0, .ref q)])
    (hw : q_m_noDams_0 a_lands f_land f_huts post) :
    W p l e rm_m_noDams s m args below meth c s.heap [] 0 0 (MQ below (vp_Si post) args s 0 0 (fun _ => False)) (F0 m 0 ls []) := by
  have hx := zc.1
  have hb := zc.2.1
  refine lv_iconst (v := (1 : Int32)) hx hb dX11_noDams_0 (by decide) ?_
  refine lv_aload_n hx hb dX11_noDams_1 rfl (lv_at hl 0 rfl) ?_
  refine mg_11_307_0 zc hK hM dX11_noDams_2 ?_
  refine lv_ishl hx hb dX11_noDams_5 ?_
  refine lv_iconst (v := (1 : Int32)) hx hb dX11_noDams_6 (by decide) ?_
  refine lv_isub hx hb dX11_noDams_7 ?_
  refine lv_aload_n hx hb dX11_noDams_8 rfl (lv_at hl 0 rfl) ?_
  refine lv_iconst (v := (3 : Int32)) hx hb dX11_noDams_9 (by decide) ?_
  refine zV_i [.int (3 : Int32)] [.int (((1 : Int32) <<< (f_huts &&& 31)) - (1 : Int32))] zc ky_X11_of kz_X11_of km_11_303 (c_m_of l hw) (mPreV0 hK hM) rfl rfl hl.1 (Nat.le_of_ble_eq_true rfl) ⟨rfl, rfl⟩ ⟨Nat.le_of_ble_eq_true rfl, Nat.le_of_ble_eq_true rfl⟩ ⟨(Nat.zero_le _), (Nat.zero_le _)⟩ dX11_noDams_10 (fun r_1 hw => ?_)
  refine lv_iconst (v := (-1 : Int32)) hx hb dX11_noDams_13 (by decide) ?_
  refine lv_ixor hx hb dX11_noDams_14 ?_
  refine lv_iand hx hb dX11_noDams_15 ?_
  exact zret_i zc hw dX11_noDams_16
set_option maxRecDepth 20000 in
theorem c_m_noDams (l : Launch) {E : zE} {q : Nat} {f_code : Int32} {a_tape : Nat → Int32} {a_size : Nat → Int32} {a_fault : Nat → Int32} {a_faultPlace : Nat → Int32} {a_many : Nat → Int32} {a_lands : Nat → Int32} {a_evenings : Nat → Int32} {a_sights : Nat → Int32} {a_choirs : Nat → Int32} {f_reached : Int32} {f_length : Int32} {f_begins : Int32} {f_sort : Int32} {f_value : Int32} {f_word : Int64} {f_wrongAt : Int32} {f_laterFault : Int32} {f_laterPlace : Int32} {a_told : Nat → Int32} {a_read : Nat → Int32} {f_farHut : Int32} {f_farSinger : Int32} {f_good : Int32} {f_land : Int32} {f_huts : Int32} {f_singers : Int32} {f_evening : Int32} {a_at : Nat → Int32} {a_knows : Nat → Int32} {a_climbed : Nat → Int32} {a_snow : Nat → Int32} {a_level : Nat → Int32} {f_begun : Int32} {f_minute : Int32} {f_avalanches : Int32} {a_run : Nat → Int32} {a_covers : Nat → Int32} {a_routes : Nat → Int32} {a_longest : Nat → Int32} {a_steep : Nat → Int32} {a_laid : Nat → Int32} {a_far : Nat → Int32} {f_sight : Int32} {a_runs : Nat → Int32} {f_choir : Int32} {f_voices : Int32} {a_rest : Nat → Int64} {a_wins : Nat → Int32} {f_seed : Int32} {a_other : Nat → Int32} {a_kept : Nat → Int32} {post : Int32 → Prop} (hw : q_m_noDams_0 a_lands f_land f_huts post) : Met l yX11_noDams (Cond.code yX11_noDams cX11_noDams 1 (some .int) :: zb) rm_m_noDams (va_Pc [.ref q] (fun U => mW E q f_code a_tape a_size a_fault a_faultPlace a_many a_lands a_evenings a_sights a_choirs f_reached f_length f_begins f_sort f_value f_word f_wrongAt f_laterFault f_laterPlace a_told a_read f_farHut f_farSinger f_good f_land f_huts f_singers f_evening a_at a_knows a_climbed a_snow a_level f_begun f_minute f_avalanches a_run a_covers a_routes a_longest a_steep a_laid a_far f_sight a_runs f_choir f_voices a_rest a_wins f_seed a_other a_kept U.heap ∧ zK E U)) (vp_Si post) 0 0 (fun _ => False) := by
  refine Met.ofW (cc := cX11_noDams) (maxL := 1) (ret := (some .int)) (by decide) rfl ?_
  intro p e s m args below meth c s₁ B hml hv
  obtain ⟨rfl, hM, hK⟩ := hv
  have zc := zc_of B hml
  have hl := lv_entry ([.ref q]) (n := 1) (Nat.le_of_ble_eq_true rfl)
  rw [lg_entry_eq]
  generalize (lg_sl ([.ref q]) ++ List.replicate (1 - (lg_sl ([.ref q])).length) Slot.unset).toArray = ls at hl ⊢
  have hl : lv_has ls 1 [(0, .ref q)] := hl
  exact t_m_noDams_0 zc hK hM (lv_sub hl [0] rfl) hw
-- m_villages
abbrev rm_m_villages : Room := { frames := 4, cells := 0, slots := 0, locals := 93 }
def q_m_villages_0 (f_code : Int32) (a_many : Nat → Int32) (a_lands : Nat → Int32) (f_land : Int32) (f_huts : Int32) (f_singers : Int32) (a_run : Nat → Int32) (a_covers : Nat → Int32) (x1 : Int32) (x2 : Int32) (x3 : Int32) (post : Int32 → (Int32) → (Int32) → (Int32) → (Int32) → (Nat → Int32) → (Nat → Int32) → Prop) : Prop :=
  q_m_hand_0 a_many a_lands f_land f_huts f_singers x1 (fun r_1 f_land_1 f_huts_1 f_singers_1 => (r_1 = 0 → (post (-2 : Int32) (0 : Int32) f_land_1 f_huts_1 f_singers_1 a_run a_covers)) ∧ (¬ r_1 = 0 → (q_m_in_0 x2 (0 : Int32) (99 : Int32) (fun r_2 => (r_2 = 0 → (post (-2 : Int32) (0 : Int32) f_land_1 f_huts_1 f_singers_1 a_run a_covers)) ∧ (¬ r_2 = 0 → (q_m_in_0 x3 (0 : Int32) (1 : Int32) (fun r_3 => (¬ r_3 = 0 → (q_m_allBy_0 a_lands f_land_1 f_huts_1 a_run a_covers x2 (fun r_4 a_run_1 a_covers_1 => (¬ x3 = 0 → (q_m_noDams_0 a_lands f_land_1 f_huts_1 (fun r_5 => q_m_wanted_0 a_lands f_land_1 (fun r_6 => q_m_fewest_0 f_huts_1 a_covers_1 r_5 r_6 (fun r_7 => post r_7 (0 : Int32) f_land_1 f_huts_1 f_singers_1 a_run_1 a_covers_1))))) ∧ (x3 = 0 → (post r_4 (0 : Int32) f_land_1 f_huts_1 f_singers_1 a_run_1 a_covers_1))))) ∧ (r_3 = 0 → (post (-2 : Int32) (0 : Int32) f_land_1 f_huts_1 f_singers_1 a_run a_covers)))))))))
set_option maxRecDepth 20000 in
theorem t_m_villages_0 {p : Program} {l : Launch} {e : Env} {s : State} {m : MethodId} {args : Array Value} {below : List Frame} {meth : Method} {c : Code} {E : zE} {q : Nat} {f_code : Int32} {a_tape : Nat → Int32} {a_size : Nat → Int32} {a_fault : Nat → Int32} {a_faultPlace : Nat → Int32} {a_many : Nat → Int32} {a_lands : Nat → Int32} {a_evenings : Nat → Int32} {a_sights : Nat → Int32} {a_choirs : Nat → Int32} {f_reached : Int32} {f_length : Int32} {f_begins : Int32} {f_sort : Int32} {f_value : Int32} {f_word : Int64} {f_wrongAt : Int32} {f_laterFault : Int32} {f_laterPlace : Int32} {a_told : Nat → Int32} {a_read : Nat → Int32} {f_farHut : Int32} {f_farSinger : Int32} {f_good : Int32} {f_land : Int32} {f_huts : Int32} {f_singers : Int32} {f_evening : Int32} {a_at : Nat → Int32} {a_knows : Nat → Int32} {a_climbed : Nat → Int32} {a_snow : Nat → Int32} {a_level : Nat → Int32} {f_begun : Int32} {f_minute : Int32} {f_avalanches : Int32} {a_run : Nat → Int32} {a_covers : Nat → Int32} {a_routes : Nat → Int32} {a_longest : Nat → Int32} {a_steep : Nat → Int32} {a_laid : Nat → Int32} {a_far : Nat → Int32} {f_sight : Int32} {a_runs : Nat → Int32} {f_choir : Int32} {f_voices : Int32} {a_rest : Nat → Int64} {a_wins : Nat → Int32} {f_seed : Int32} {a_other : Nat → Int32} {a_kept : Nat → Int32} {post : Int32 → (Int32) → (Int32) → (Int32) → (Int32) → (Nat → Int32) → (Nat → Int32) → Prop} {x1 : Int32} {x2 : Int32} {x3 : Int32} {ls : Array Slot} {H : Heap} {locs : List Loc}
    (zc : zC p s m args meth c cX11_villages 5 RX11 (some .int))
    (hK : zK E s)
    (hM : mW E q f_code a_tape a_size a_fault a_faultPlace a_many a_lands a_evenings a_sights a_choirs f_reached f_length f_begins f_sort f_value f_word f_wrongAt f_laterFault f_laterPlace a_told a_read f_farHut f_farSinger f_good f_land f_huts f_singers f_evening a_at a_knows a_climbed a_snow a_level f_begun f_minute f_avalanches a_run a_covers a_routes a_longest a_steep a_laid a_far f_sight a_runs f_choir f_voices a_rest a_wins f_seed a_other a_kept H)
    (hS : va_S (mA q) s.heap H locs)
    (hl : lv_has ls 5 [(0, .ref q), (1, .int x1), (2, .int x2), (3, .int x3)])
    (hw : q_m_villages_0 f_code a_many a_lands f_land f_huts f_singers a_run a_covers x1 x2 x3 post) :
    W p l e rm_m_villages s m args below meth c H locs 0 0 (MQ below (zQi (S := (Int32) × (Int32) × (Int32) × (Int32) × (Nat → Int32) × (Nat → Int32)) (fun r u => post r u.1 u.2.1 u.2.2.1 u.2.2.2.1 u.2.2.2.2.1 u.2.2.2.2.2) (fun u H => mW E q u.1 a_tape a_size a_fault a_faultPlace a_many a_lands a_evenings a_sights a_choirs f_reached f_length f_begins f_sort f_value f_word f_wrongAt f_laterFault f_laterPlace a_told a_read f_farHut f_farSinger f_good u.2.1 u.2.2.1 u.2.2.2.1 f_evening a_at a_knows a_climbed a_snow a_level f_begun f_minute f_avalanches u.2.2.2.2.1 u.2.2.2.2.2 a_routes a_longest a_steep a_laid a_far f_sight a_runs f_choir f_voices a_rest a_wins f_seed a_other a_kept H) (mA q)) args s 0 0 (mA q)) (F0 m 0 ls []) := by
  have hx := zc.1
  have hb := zc.2.1
  refine lv_aload_n hx hb dX11_villages_0 rfl (lv_at hl 0 rfl) ?_
  refine lv_iconst (v := (0 : Int32)) hx hb dX11_villages_1 (by decide) ?_
  refine mp_11_97_0 zc hK hM hS dX11_villages_2 (fun H locs hM hS => ?_)
  refine lv_aload_n hx hb dX11_villages_5 rfl (lv_at hl 0 rfl) ?_
  refine lv_iload_n hx hb dX11_villages_6 rfl (lv_at hl 1 rfl) ?_
  refine zVw_i [.int x1] [] zc ky_X11_hand kz_X11_hand km_11_313 (c_m_hand l hw) (mPreV0 hK hM) hS rfl rfl hl.1 (Nat.le_of_ble_eq_true rfl) ⟨rfl, rfl⟩ ⟨Nat.le_of_ble_eq_true rfl, Nat.le_of_ble_eq_true rfl⟩ ⟨(Nat.zero_le _), (Nat.zero_le _)⟩ dX11_villages_7 (fun r_1 u H locs hw hM hS => ?_)
  obtain ⟨f_land_1, f_huts_1, f_singers_1⟩ := u
  refine lv_if_eq (tgt := 32) hx hb dX11_villages_10 (by decide) (fun hc => ?_) (fun hc => ?_)
  · have hw := hw.1 hc
    refine lv_bipush (v := (-2 : Int32)) hx hb dX11_villages_32 (by decide) ?_
    exact zret_iw ⟨(0 : Int32), f_land_1, f_huts_1, f_singers_1, a_run, a_covers⟩ zc hS hw hM dX11_villages_34
  · have hw := hw.2 hc
    refine lv_iload_n hx hb dX11_villages_13 rfl (lv_at hl 2 rfl) ?_
    refine lv_iconst (v := (0 : Int32)) hx hb dX11_villages_14 (by decide) ?_
    refine lv_bipush (v := (99 : Int32)) hx hb dX11_villages_15 (by decide) ?_
    refine zS_i [.int x2, .int (0 : Int32), .int (99 : Int32)] [] zc ky_X11_in kz_X11_in km_11_109 (c_m_in l hw) (zPre0 _) rfl rfl hl.1 (Nat.le_of_ble_eq_true rfl) ⟨rfl, rfl⟩ ⟨Nat.le_of_ble_eq_true rfl, Nat.le_of_ble_eq_true rfl⟩ ⟨(Nat.zero_le _), (Nat.zero_le _)⟩ dX11_villages_17 (fun r_2 hw => ?_)
    refine lv_if_eq (tgt := 32) hx hb dX11_villages_20 (by decide) (fun hc => ?_) (fun hc => ?_)
    · have hw := hw.1 hc
      refine lv_bipush (v := (-2 : Int32)) hx hb dX11_villages_32 (by decide) ?_
      exact zret_iw ⟨(0 : Int32), f_land_1, f_huts_1, f_singers_1, a_run, a_covers⟩ zc hS hw hM dX11_villages_34
    · have hw := hw.2 hc
      refine lv_iload_n hx hb dX11_villages_23 rfl (lv_at hl 3 rfl) ?_
      refine lv_iconst (v := (0 : Int32)) hx hb dX11_villages_24 (by decide) ?_
      refine lv_iconst (v := (1 : Int32)) hx hb dX11_villages_25 (by decide) ?_
      refine zS_i [.int x3, .int (0 : Int32), .int (1 : Int32)] [] zc ky_X11_in kz_X11_in km_11_109 (c_m_in l hw) (zPre0 _) rfl rfl hl.1 (Nat.le_of_ble_eq_true rfl) ⟨rfl, rfl⟩ ⟨Nat.le_of_ble_eq_true rfl, Nat.le_of_ble_eq_true rfl⟩ ⟨(Nat.zero_le _), (Nat.zero_le _)⟩ dX11_villages_26 (fun r_3 hw => ?_)
      refine lv_if_ne (tgt := 35) hx hb dX11_villages_29 (by decide) (fun hc => ?_) (fun hc => ?_)
      · have hw := hw.1 hc
        refine lv_aload_n hx hb dX11_villages_35 rfl (lv_at hl 0 rfl) ?_
        refine lv_iload_n hx hb dX11_villages_36 rfl (lv_at hl 2 rfl) ?_
        refine zVw_i [.int x2] [] zc ky_X11_allBy kz_X11_allBy km_11_432 (c_m_allBy l hw) (mPreV0 hK hM) hS rfl rfl hl.1 (Nat.le_of_ble_eq_true rfl) ⟨rfl, rfl⟩ ⟨Nat.le_of_ble_eq_true rfl, Nat.le_of_ble_eq_true rfl⟩ ⟨(Nat.zero_le _), (Nat.zero_le _)⟩ dX11_villages_37 (fun r_4 u H locs hw hM hS => ?_)
        obtain ⟨a_run_1, a_covers_1⟩ := u
        refine lv_istore (lv' := [(4, .int r_4), (0, .ref q), (1, .int x1), (2, .int x2), (3, .int x3)]) hx hb dX11_villages_40 hl (by decide) rfl (fun ls hl => ?_)
        refine lv_iload_n hx hb dX11_villages_42 rfl (lv_at hl 4 rfl) ?_
        refine lv_if_ne (tgt := 51) hx hb dX11_villages_43 (by decide) (fun hc => ?_) (fun hc => ?_)
        · have hw := hw.1 hc
          refine lv_aload_n hx hb dX11_villages_51 rfl (lv_at hl 1 rfl) ?_
          refine lv_aload_n hx hb dX11_villages_52 rfl (lv_at hl 1 rfl) ?_
          refine zV_i [] [.ref q] zc ky_X11_noDams kz_X11_noDams km_11_435 (c_m_noDams l hw) (mPreV0 hK hM) rfl rfl hl.1 (Nat.le_of_ble_eq_true rfl) ⟨rfl, rfl⟩ ⟨Nat.le_of_ble_eq_true rfl, Nat.le_of_ble_eq_true rfl⟩ ⟨(Nat.zero_le _), (Nat.zero_le _)⟩ dX11_villages_53 (fun r_5 hw => ?_)
          refine lv_aload_n hx hb dX11_villages_56 rfl (lv_at hl 1 rfl) ?_
          refine zV_i [] [.int r_5, .ref q] zc ky_X11_wanted kz_X11_wanted km_11_420 (c_m_wanted l hw) (mPreV0 hK hM) rfl rfl hl.1 (Nat.le_of_ble_eq_true rfl) ⟨rfl, rfl⟩ ⟨Nat.le_of_ble_eq_true rfl, Nat.le_of_ble_eq_true rfl⟩ ⟨(Nat.zero_le _), (Nat.zero_le _)⟩ dX11_villages_57 (fun r_6 hw => ?_)
          refine zV_i [.int r_5, .int r_6] [] zc ky_X11_fewest kz_X11_fewest km_11_438 (c_m_fewest l hw) (mPreV0 hK hM) rfl rfl hl.1 (Nat.le_of_ble_eq_true rfl) ⟨rfl, rfl⟩ ⟨Nat.le_of_ble_eq_true rfl, Nat.le_of_ble_eq_true rfl⟩ ⟨(Nat.zero_le _), (Nat.zero_le _)⟩ dX11_villages_60 (fun r_7 hw => ?_)
          exact zret_iw ⟨(0 : Int32), f_land_1, f_huts_1, f_singers_1, a_run_1, a_covers_1⟩ zc hS hw hM dX11_villages_63
        · have hw := hw.2 hc
          refine lv_iload hx hb dX11_villages_46 (lv_at hl 0 rfl) ?_
          refine lv_goto (tgt := 63) hx hb dX11_villages_48 (by decide) ?_
          exact zret_iw ⟨(0 : Int32), f_land_1, f_huts_1, f_singers_1, a_run_1, a_covers_1⟩ zc hS hw hM dX11_villages_63
      · have hw := hw.2 hc
        refine lv_bipush (v := (-2 : Int32)) hx hb dX11_villages_32 (by decide) ?_
        exact zret_iw ⟨(0 : Int32), f_land_1, f_huts_1, f_singers_1, a_run, a_covers⟩ zc hS hw hM dX11_villages_34
set_option maxRecDepth 20000 in
theorem c_m_villages (l : Launch) {E : zE} {q : Nat} {f_code : Int32} {a_tape : Nat → Int32} {a_size : Nat → Int32} {a_fault : Nat → Int32} {a_faultPlace : Nat → Int32} {a_many : Nat → Int32} {a_lands : Nat → Int32} {a_evenings : Nat → Int32} {a_sights : Nat → Int32} {a_choirs : Nat → Int32} {f_reached : Int32} {f_length : Int32} {f_begins : Int32} {f_sort : Int32} {f_value : Int32} {f_word : Int64} {f_wrongAt : Int32} {f_laterFault : Int32} {f_laterPlace : Int32} {a_told : Nat → Int32} {a_read : Nat → Int32} {f_farHut : Int32} {f_farSinger : Int32} {f_good : Int32} {f_land : Int32} {f_huts : Int32} {f_singers : Int32} {f_evening : Int32} {a_at : Nat → Int32} {a_knows : Nat → Int32} {a_climbed : Nat → Int32} {a_snow : Nat → Int32} {a_level : Nat → Int32} {f_begun : Int32} {f_minute : Int32} {f_avalanches : Int32} {a_run : Nat → Int32} {a_covers : Nat → Int32} {a_routes : Nat → Int32} {a_longest : Nat → Int32} {a_steep : Nat → Int32} {a_laid : Nat → Int32} {a_far : Nat → Int32} {f_sight : Int32} {a_runs : Nat → Int32} {f_choir : Int32} {f_voices : Int32} {a_rest : Nat → Int64} {a_wins : Nat → Int32} {f_seed : Int32} {a_other : Nat → Int32} {a_kept : Nat → Int32} {x1 : Int32} {x2 : Int32} {x3 : Int32} {post : Int32 → (Int32) → (Int32) → (Int32) → (Int32) → (Nat → Int32) → (Nat → Int32) → Prop} (hw : q_m_villages_0 f_code a_many a_lands f_land f_huts f_singers a_run a_covers x1 x2 x3 post) : Met l yX11_villages (Cond.code yX11_villages cX11_villages 5 (some .int) :: zb) rm_m_villages (va_Pc [.ref q, .int x1, .int x2, .int x3] (fun U => mW E q f_code a_tape a_size a_fault a_faultPlace a_many a_lands a_evenings a_sights a_choirs f_reached f_length f_begins f_sort f_value f_word f_wrongAt f_laterFault f_laterPlace a_told a_read f_farHut f_farSinger f_good f_land f_huts f_singers f_evening a_at a_knows a_climbed a_snow a_level f_begun f_minute f_avalanches a_run a_covers a_routes a_longest a_steep a_laid a_far f_sight a_runs f_choir f_voices a_rest a_wins f_seed a_other a_kept U.heap ∧ zK E U)) (zQi (S := (Int32) × (Int32) × (Int32) × (Int32) × (Nat → Int32) × (Nat → Int32)) (fun r u => post r u.1 u.2.1 u.2.2.1 u.2.2.2.1 u.2.2.2.2.1 u.2.2.2.2.2) (fun u H => mW E q u.1 a_tape a_size a_fault a_faultPlace a_many a_lands a_evenings a_sights a_choirs f_reached f_length f_begins f_sort f_value f_word f_wrongAt f_laterFault f_laterPlace a_told a_read f_farHut f_farSinger f_good u.2.1 u.2.2.1 u.2.2.2.1 f_evening a_at a_knows a_climbed a_snow a_level f_begun f_minute f_avalanches u.2.2.2.2.1 u.2.2.2.2.2 a_routes a_longest a_steep a_laid a_far f_sight a_runs f_choir f_voices a_rest a_wins f_seed a_other a_kept H) (mA q)) 0 0 (mA q) := by
  refine Met.ofW (cc := cX11_villages) (maxL := 5) (ret := (some .int)) (by decide) rfl ?_
  intro p e s m args below meth c s₁ B hml hv
  obtain ⟨rfl, hM, hK⟩ := hv
  have zc := zc_of B hml
  have hl := lv_entry ([.ref q, .int x1, .int x2, .int x3]) (n := 5) (Nat.le_of_ble_eq_true rfl)
  rw [lg_entry_eq]
  generalize (lg_sl ([.ref q, .int x1, .int x2, .int x3]) ++ List.replicate (5 - (lg_sl ([.ref q, .int x1, .int x2, .int x3])).length) Slot.unset).toArray = ls at hl ⊢
  have hl : lv_has ls 5 [(0, .ref q), (1, .int x1), (2, .int x2), (3, .int x3)] := hl
  exact t_m_villages_0 zc hK hM va_S.rf (lv_sub hl [0, 1, 2, 3] rfl) hw
-- m_best
abbrev rm_m_best : Room := { frames := 3, cells := 0, slots := 0, locals := 70 }
def q_m_best_100 (f_code : Int32) (a_many : Nat → Int32) (a_lands : Nat → Int32) (f_land : Int32) (f_huts : Int32) (f_singers : Int32) (a_run : Nat → Int32) (x3 : Int32) (post : Int32 → (Int32) → (Int32) → (Int32) → (Int32) → (Nat → Int32) → Prop) : Prop :=
  post x3 f_code f_land f_huts f_singers a_run
def q_m_best_75 (P25 : Int32 → Int32 → Int32 → (Nat → Int32) → Prop) (f_code : Int32) (a_many : Nat → Int32) (a_lands : Nat → Int32) (f_land : Int32) (f_huts : Int32) (f_singers : Int32) (a_run : Nat → Int32) (x2 : Int32) (x4 : Int32) (x5 : Int32) (x6 : Int32) (y0 : Int32) (post : Int32 → (Int32) → (Int32) → (Int32) → (Int32) → (Nat → Int32) → Prop) : Prop :=
  q_m_lesser_0 x4 x6 (fun r_1 => ∀ v_1 : Int32, v_1 = x5 + (1 : Int32) → (P25 y0 r_1 v_1 a_run))
def q_m_best_60 (P25 : Int32 → Int32 → Int32 → (Nat → Int32) → Prop) (f_code : Int32) (a_many : Nat → Int32) (a_lands : Nat → Int32) (f_land : Int32) (f_huts : Int32) (f_singers : Int32) (a_run : Nat → Int32) (x2 : Int32) (x3 : Int32) (x4 : Int32) (x5 : Int32) (y0 : Int32) (post : Int32 → (Int32) → (Int32) → (Int32) → (Int32) → (Nat → Int32) → Prop) : Prop :=
  (x4 ≤ y0 → (q_m_best_75 P25 f_code a_many a_lands f_land f_huts f_singers a_run x2 x4 x5 y0 x3 post)) ∧ (¬ x4 ≤ y0 → (q_m_best_75 P25 f_code a_many a_lands f_land f_huts f_singers a_run x2 x4 x5 y0 x5 post))
def q_m_best_25 (f_code : Int32) (a_many : Nat → Int32) (a_lands : Nat → Int32) (f_land : Int32) (f_huts : Int32) (f_singers : Int32) (a_run : Nat → Int32) (x2 : Int32) (x3 : Int32) (x4 : Int32) (x5 : Int32) (post : Int32 → (Int32) → (Int32) → (Int32) → (Int32) → (Nat → Int32) → Prop) : Prop :=
  ∀ P25 : Int32 → Int32 → Int32 → (Nat → Int32) → Prop, (∀ (x3 : Int32) (x4 : Int32) (x5 : Int32) (a_run : Nat → Int32), ((f_huts ≤ x5 → ((x3 = (-1 : Int32) → (q_m_best_100 f_code a_many a_lands f_land f_huts f_singers a_run x3 post)) ∧ (¬ x3 = (-1 : Int32) → ((¬ x2 = 0 → (post x4 f_code f_land f_huts f_singers a_run)) ∧ (x2 = 0 → (q_m_best_100 f_code a_many a_lands f_land f_huts f_singers a_run x3 post)))))) ∧ (¬ f_huts ≤ x5 → (q_m_findRun_0 a_lands f_land f_huts a_run x5 (0 : Int32) (fun a_run_1 => q_m_isDam_0 a_lands f_land x5 (fun r_1 => (r_1 = 0 → (q_m_lastVillage_0 a_lands f_land f_huts a_run_1 (fun r_2 => q_m_best_60 P25 f_code a_many a_lands f_land f_huts f_singers a_run_1 x2 x3 x4 x5 r_2 post))) ∧ (¬ r_1 = 0 → (q_m_best_60 P25 f_code a_many a_lands f_land f_huts f_singers a_run_1 x2 x3 x4 x5 (1000000 : Int32) post))))))) → P25 x3 x4 x5 a_run) → P25 x3 x4 x5 a_run
def q_m_best_0 (f_code : Int32) (a_many : Nat → Int32) (a_lands : Nat → Int32) (f_land : Int32) (f_huts : Int32) (f_singers : Int32) (a_run : Nat → Int32) (x1 : Int32) (x2 : Int32) (post : Int32 → (Int32) → (Int32) → (Int32) → (Int32) → (Nat → Int32) → Prop) : Prop :=
  q_m_hand_0 a_many a_lands f_land f_huts f_singers x1 (fun r_1 f_land_1 f_huts_1 f_singers_1 => (¬ r_1 = 0 → (q_m_best_25 (0 : Int32) a_many a_lands f_land_1 f_huts_1 f_singers_1 a_run x2 (-1 : Int32) (1000000 : Int32) (0 : Int32) post)) ∧ (r_1 = 0 → (post (-1 : Int32) (0 : Int32) f_land_1 f_huts_1 f_singers_1 a_run)))
set_option maxRecDepth 20000 in
theorem t_m_best_100 {p : Program} {l : Launch} {e : Env} {s : State} {m : MethodId} {args : Array Value} {below : List Frame} {meth : Method} {c : Code} {E : zE} {q : Nat} {f_code : Int32} {a_tape : Nat → Int32} {a_size : Nat → Int32} {a_fault : Nat → Int32} {a_faultPlace : Nat → Int32} {a_many : Nat → Int32} {a_lands : Nat → Int32} {a_evenings : Nat → Int32} {a_sights : Nat → Int32} {a_choirs : Nat → Int32} {f_reached : Int32} {f_length : Int32} {f_begins : Int32} {f_sort : Int32} {f_value : Int32} {f_word : Int64} {f_wrongAt : Int32} {f_laterFault : Int32} {f_laterPlace : Int32} {a_told : Nat → Int32} {a_read : Nat → Int32} {f_farHut : Int32} {f_farSinger : Int32} {f_good : Int32} {f_land : Int32} {f_huts : Int32} {f_singers : Int32} {f_evening : Int32} {a_at : Nat → Int32} {a_knows : Nat → Int32} {a_climbed : Nat → Int32} {a_snow : Nat → Int32} {a_level : Nat → Int32} {f_begun : Int32} {f_minute : Int32} {f_avalanches : Int32} {a_run : Nat → Int32} {a_covers : Nat → Int32} {a_routes : Nat → Int32} {a_longest : Nat → Int32} {a_steep : Nat → Int32} {a_laid : Nat → Int32} {a_far : Nat → Int32} {f_sight : Int32} {a_runs : Nat → Int32} {f_choir : Int32} {f_voices : Int32} {a_rest : Nat → Int64} {a_wins : Nat → Int32} {f_seed : Int32} {a_other : Nat → Int32} {a_kept : Nat → Int32} {post : Int32 → (Int32) → (Int32) → (Int32) → (Int32) → (Nat → Int32) → Prop} {x3 : Int32} {ls : Array Slot} {H : Heap} {locs : List Loc}
    (zc : zC p s m args meth c cX11_best 7 RX11 (some .int))
    (hK : zK E s)
    (hM : mW E q f_code a_tape a_size a_fault a_faultPlace a_many a_lands a_evenings a_sights a_choirs f_reached f_length f_begins f_sort f_value f_word f_wrongAt f_laterFault f_laterPlace a_told a_read f_farHut f_farSinger f_good f_land f_huts f_singers f_evening a_at a_knows a_climbed a_snow a_level f_begun f_minute f_avalanches a_run a_covers a_routes a_longest a_steep a_laid a_far f_sight a_runs f_choir f_voices a_rest a_wins f_seed a_other a_kept H)
    (hS : va_S (mA q) s.heap H locs)
    (hl : lv_has ls 7 [(3, .int x3)])
    (hw : q_m_best_100 f_code a_many a_lands f_land f_huts f_singers a_run x3 post) :
    W p l e rm_m_best s m args below meth c H locs 0 0 (MQ below (zQi (S := (Int32) × (Int32) × (Int32) × (Int32) × (Nat → Int32)) (fun r u => post r u.1 u.2.1 u.2.2.1 u.2.2.2.1 u.2.2.2.2) (fun u H => mW E q u.1 a_tape a_size a_fault a_faultPlace a_many a_lands a_evenings a_sights a_choirs f_reached f_length f_begins f_sort f_value f_word f_wrongAt f_laterFault f_laterPlace a_told a_read f_farHut f_farSinger f_good u.2.1 u.2.2.1 u.2.2.2.1 f_evening a_at a_knows a_climbed a_snow a_level f_begun f_minute f_avalanches u.2.2.2.2 a_covers a_routes a_longest a_steep a_laid a_far f_sight a_runs f_choir f_voices a_rest a_wins f_seed a_other a_kept H) (mA q)) args s 0 0 (mA q)) (F0 m 100 ls []) := by
  have hx := zc.1
  have hb := zc.2.1
  refine lv_iload_n hx hb dX11_best_100 rfl (lv_at hl 0 rfl) ?_
  refine lv_goto (tgt := 106) hx hb dX11_best_101 (by decide) ?_
  exact zret_iw ⟨f_code, f_land, f_huts, f_singers, a_run⟩ zc hS hw hM dX11_best_106
set_option maxRecDepth 20000 in
theorem t_m_best_75 {p : Program} {l : Launch} {e : Env} {s : State} {m : MethodId} {args : Array Value} {below : List Frame} {meth : Method} {c : Code} {E : zE} {q : Nat} {f_code : Int32} {a_tape : Nat → Int32} {a_size : Nat → Int32} {a_fault : Nat → Int32} {a_faultPlace : Nat → Int32} {a_many : Nat → Int32} {a_lands : Nat → Int32} {a_evenings : Nat → Int32} {a_sights : Nat → Int32} {a_choirs : Nat → Int32} {f_reached : Int32} {f_length : Int32} {f_begins : Int32} {f_sort : Int32} {f_value : Int32} {f_word : Int64} {f_wrongAt : Int32} {f_laterFault : Int32} {f_laterPlace : Int32} {a_told : Nat → Int32} {a_read : Nat → Int32} {f_farHut : Int32} {f_farSinger : Int32} {f_good : Int32} {f_land : Int32} {f_huts : Int32} {f_singers : Int32} {f_evening : Int32} {a_at : Nat → Int32} {a_knows : Nat → Int32} {a_climbed : Nat → Int32} {a_snow : Nat → Int32} {a_level : Nat → Int32} {f_begun : Int32} {f_minute : Int32} {f_avalanches : Int32} {a_run : Nat → Int32} {a_covers : Nat → Int32} {a_routes : Nat → Int32} {a_longest : Nat → Int32} {a_steep : Nat → Int32} {a_laid : Nat → Int32} {a_far : Nat → Int32} {f_sight : Int32} {a_runs : Nat → Int32} {f_choir : Int32} {f_voices : Int32} {a_rest : Nat → Int64} {a_wins : Nat → Int32} {f_seed : Int32} {a_other : Nat → Int32} {a_kept : Nat → Int32} {P25 : Int32 → Int32 → Int32 → (Nat → Int32) → Prop} {post : Int32 → (Int32) → (Int32) → (Int32) → (Int32) → (Nat → Int32) → Prop} {x2 : Int32} {x4 : Int32} {x5 : Int32} {x6 : Int32} {y0 : Int32} {ls : Array Slot} {H : Heap} {locs : List Loc}
    (zc : zC p s m args meth c cX11_best 7 RX11 (some .int))
    (hK : zK E s)
    (hM : mW E q f_code a_tape a_size a_fault a_faultPlace a_many a_lands a_evenings a_sights a_choirs f_reached f_length f_begins f_sort f_value f_word f_wrongAt f_laterFault f_laterPlace a_told a_read f_farHut f_farSinger f_good f_land f_huts f_singers f_evening a_at a_knows a_climbed a_snow a_level f_begun f_minute f_avalanches a_run a_covers a_routes a_longest a_steep a_laid a_far f_sight a_runs f_choir f_voices a_rest a_wins f_seed a_other a_kept H)
    (hS : va_S (mA q) s.heap H locs)
    (hP25 : ∀ (x3 : Int32) (x4 : Int32) (x5 : Int32) (a_run : Nat → Int32) (H : Heap) (locs : List Loc) (ls : Array Slot), P25 x3 x4 x5 a_run → lv_has ls 7 [(0, .ref q), (2, .int x2), (3, .int x3), (4, .int x4), (5, .int x5)] → mW E q f_code a_tape a_size a_fault a_faultPlace a_many a_lands a_evenings a_sights a_choirs f_reached f_length f_begins f_sort f_value f_word f_wrongAt f_laterFault f_laterPlace a_told a_read f_farHut f_farSinger f_good f_land f_huts f_singers f_evening a_at a_knows a_climbed a_snow a_level f_begun f_minute f_avalanches a_run a_covers a_routes a_longest a_steep a_laid a_far f_sight a_runs f_choir f_voices a_rest a_wins f_seed a_other a_kept H → va_S (mA q) s.heap H locs → W p l e rm_m_best s m args below meth c H locs 0 0 (MQ below (zQi (S := (Int32) × (Int32) × (Int32) × (Int32) × (Nat → Int32)) (fun r u => post r u.1 u.2.1 u.2.2.1 u.2.2.2.1 u.2.2.2.2) (fun u H => mW E q u.1 a_tape a_size a_fault a_faultPlace a_many a_lands a_evenings a_sights a_choirs f_reached f_length f_begins f_sort f_value f_word f_wrongAt f_laterFault f_laterPlace a_told a_read f_farHut f_farSinger f_good u.2.1 u.2.2.1 u.2.2.2.1 f_evening a_at a_knows a_climbed a_snow a_level f_begun f_minute f_avalanches u.2.2.2.2 a_covers a_routes a_longest a_steep a_laid a_far f_sight a_runs f_choir f_voices a_rest a_wins f_seed a_other a_kept H) (mA q)) args s 0 0 (mA q)) (F0 m 25 ls []))
    (hl : lv_has ls 7 [(0, .ref q), (2, .int x2), (4, .int x4), (5, .int x5), (6, .int x6)])
    (hw : q_m_best_75 P25 f_code a_many a_lands f_land f_huts f_singers a_run x2 x4 x5 x6 y0 post) :
    W p l e rm_m_best s m args below meth c H locs 0 0 (MQ below (zQi (S := (Int32) × (Int32) × (Int32) × (Int32) × (Nat → Int32)) (fun r u => post r u.1 u.2.1 u.2.2.1 u.2.2.2.1 u.2.2.2.2) (fun u H => mW E q u.1 a_tape a_size a_fault a_faultPlace a_many a_lands a_evenings a_sights a_choirs f_reached f_length f_begins f_sort f_value f_word f_wrongAt f_laterFault f_laterPlace a_told a_read f_farHut f_farSinger f_good u.2.1 u.2.2.1 u.2.2.2.1 f_evening a_at a_knows a_climbed a_snow a_level f_begun f_minute f_avalanches u.2.2.2.2 a_covers a_routes a_longest a_steep a_laid a_far f_sight a_runs f_choir f_voices a_rest a_wins f_seed a_other a_kept H) (mA q)) args s 0 0 (mA q)) (F0 m 75 ls [.int y0]) := by
  have hx := zc.1
  have hb := zc.2.1
  refine lv_istore_n (lv' := [(3, .int y0), (0, .ref q), (2, .int x2), (4, .int x4), (5, .int x5), (6, .int x6)]) hx hb dX11_best_75 rfl hl (by decide) rfl (fun ls hl => ?_)
  refine lv_iload hx hb dX11_best_76 (lv_at hl 3 rfl) ?_
  refine lv_iload hx hb dX11_best_78 (lv_at hl 5 rfl) ?_
  refine zS_i [.int x4, .int x6] [] zc ky_X11_lesser kz_X11_lesser km_11_411 (c_m_lesser l hw) (zPre0 _) rfl rfl hl.1 (Nat.le_of_ble_eq_true rfl) ⟨rfl, rfl⟩ ⟨Nat.le_of_ble_eq_true rfl, Nat.le_of_ble_eq_true rfl⟩ ⟨(Nat.zero_le _), (Nat.zero_le _)⟩ dX11_best_80 (fun r_1 hw => ?_)
  refine lv_istore (lv' := [(4, .int r_1), (3, .int y0), (0, .ref q), (2, .int x2), (5, .int x5), (6, .int x6)]) hx hb dX11_best_83 hl (by decide) rfl (fun ls hl => ?_)
  obtain ⟨v_1, ev_1⟩ : ∃ y : Int32, y = x5 + (1 : Int32) := ⟨_, rfl⟩
  have hw := hw v_1 ev_1
  refine lv_iinc (v := v_1) (k := 4) (lv' := [(5, .int v_1), (4, .int r_1), (3, .int y0), (0, .ref q), (2, .int x2), (6, .int x6)]) hx hb dX11_best_85 hl rfl (by rw [ev_1]; rfl) (by decide) rfl (fun ls hl => ?_)
  refine lv_goto (tgt := 25) hx hb dX11_best_88 (by decide) ?_
  exact hP25 _ _ _ _ _ _ _ hw (lv_sub hl [3, 4, 2, 1, 0] rfl) hM hS
set_option maxRecDepth 20000 in
theorem t_m_best_60 {p : Program} {l : Launch} {e : Env} {s : State} {m : MethodId} {args : Array Value} {below : List Frame} {meth : Method} {c : Code} {E : zE} {q : Nat} {f_code : Int32} {a_tape : Nat → Int32} {a_size : Nat → Int32} {a_fault : Nat → Int32} {a_faultPlace : Nat → Int32} {a_many : Nat → Int32} {a_lands : Nat → Int32} {a_evenings : Nat → Int32} {a_sights : Nat → Int32} {a_choirs : Nat → Int32} {f_reached : Int32} {f_length : Int32} {f_begins : Int32} {f_sort : Int32} {f_value : Int32} {f_word : Int64} {f_wrongAt : Int32} {f_laterFault : Int32} {f_laterPlace : Int32} {a_told : Nat → Int32} {a_read : Nat → Int32} {f_farHut : Int32} {f_farSinger : Int32} {f_good : Int32} {f_land : Int32} {f_huts : Int32} {f_singers : Int32} {f_evening : Int32} {a_at : Nat → Int32} {a_knows : Nat → Int32} {a_climbed : Nat → Int32} {a_snow : Nat → Int32} {a_level : Nat → Int32} {f_begun : Int32} {f_minute : Int32} {f_avalanches : Int32} {a_run : Nat → Int32} {a_covers : Nat → Int32} {a_routes : Nat → Int32} {a_longest : Nat → Int32} {a_steep : Nat → Int32} {a_laid : Nat → Int32} {a_far : Nat → Int32} {f_sight : Int32} {a_runs : Nat → Int32} {f_choir : Int32} {f_voices : Int32} {a_rest : Nat → Int64} {a_wins : Nat → Int32} {f_seed : Int32} {a_other : Nat → Int32} {a_kept : Nat → Int32} {P25 : Int32 → Int32 → Int32 → (Nat → Int32) → Prop} {post : Int32 → (Int32) → (Int32) → (Int32) → (Int32) → (Nat → Int32) → Prop} {x2 : Int32} {x3 : Int32} {x4 : Int32} {x5 : Int32} {y0 : Int32} {ls : Array Slot} {H : Heap} {locs : List Loc}
    (zc : zC p s m args meth c cX11_best 7 RX11 (some .int))
    (hK : zK E s)
    (hM : mW E q f_code a_tape a_size a_fault a_faultPlace a_many a_lands a_evenings a_sights a_choirs f_reached f_length f_begins f_sort f_value f_word f_wrongAt f_laterFault f_laterPlace a_told a_read f_farHut f_farSinger f_good f_land f_huts f_singers f_evening a_at a_knows a_climbed a_snow a_level f_begun f_minute f_avalanches a_run a_covers a_routes a_longest a_steep a_laid a_far f_sight a_runs f_choir f_voices a_rest a_wins f_seed a_other a_kept H)
    (hS : va_S (mA q) s.heap H locs)
    (hP25 : ∀ (x3 : Int32) (x4 : Int32) (x5 : Int32) (a_run : Nat → Int32) (H : Heap) (locs : List Loc) (ls : Array Slot), P25 x3 x4 x5 a_run → lv_has ls 7 [(0, .ref q), (2, .int x2), (3, .int x3), (4, .int x4), (5, .int x5)] → mW E q f_code a_tape a_size a_fault a_faultPlace a_many a_lands a_evenings a_sights a_choirs f_reached f_length f_begins f_sort f_value f_word f_wrongAt f_laterFault f_laterPlace a_told a_read f_farHut f_farSinger f_good f_land f_huts f_singers f_evening a_at a_knows a_climbed a_snow a_level f_begun f_minute f_avalanches a_run a_covers a_routes a_longest a_steep a_laid a_far f_sight a_runs f_choir f_voices a_rest a_wins f_seed a_other a_kept H → va_S (mA q) s.heap H locs → W p l e rm_m_best s m args below meth c H locs 0 0 (MQ below (zQi (S := (Int32) × (Int32) × (Int32) × (Int32) × (Nat → Int32)) (fun r u => post r u.1 u.2.1 u.2.2.1 u.2.2.2.1 u.2.2.2.2) (fun u H => mW E q u.1 a_tape a_size a_fault a_faultPlace a_many a_lands a_evenings a_sights a_choirs f_reached f_length f_begins f_sort f_value f_word f_wrongAt f_laterFault f_laterPlace a_told a_read f_farHut f_farSinger f_good u.2.1 u.2.2.1 u.2.2.2.1 f_evening a_at a_knows a_climbed a_snow a_level f_begun f_minute f_avalanches u.2.2.2.2 a_covers a_routes a_longest a_steep a_laid a_far f_sight a_runs f_choir f_voices a_rest a_wins f_seed a_other a_kept H) (mA q)) args s 0 0 (mA q)) (F0 m 25 ls []))
    (hl : lv_has ls 7 [(0, .ref q), (2, .int x2), (3, .int x3), (4, .int x4), (5, .int x5)])
    (hw : q_m_best_60 P25 f_code a_many a_lands f_land f_huts f_singers a_run x2 x3 x4 x5 y0 post) :
    W p l e rm_m_best s m args below meth c H locs 0 0 (MQ below (zQi (S := (Int32) × (Int32) × (Int32) × (Int32) × (Nat → Int32)) (fun r u => post r u.1 u.2.1 u.2.2.1 u.2.2.2.1 u.2.2.2.2) (fun u H => mW E q u.1 a_tape a_size a_fault a_faultPlace a_many a_lands a_evenings a_sights a_choirs f_reached f_length f_begins f_sort f_value f_word f_wrongAt f_laterFault f_laterPlace a_told a_read f_farHut f_farSinger f_good u.2.1 u.2.2.1 u.2.2.2.1 f_evening a_at a_knows a_climbed a_snow a_level f_begun f_minute f_avalanches u.2.2.2.2 a_covers a_routes a_longest a_steep a_laid a_far f_sight a_runs f_choir f_voices a_rest a_wins f_seed a_other a_kept H) (mA q)) args s 0 0 (mA q)) (F0 m 60 ls [.int y0]) := by
  have hx := zc.1
  have hb := zc.2.1
  refine lv_istore (lv' := [(6, .int y0), (0, .ref q), (2, .int x2), (3, .int x3), (4, .int x4), (5, .int x5)]) hx hb dX11_best_60 hl (by decide) rfl (fun ls hl => ?_)
  refine lv_iload hx hb dX11_best_62 (lv_at hl 0 rfl) ?_
  refine lv_iload hx hb dX11_best_64 (lv_at hl 4 rfl) ?_
  refine lv_icmp_ge (tgt := 74) hx hb dX11_best_66 (by decide) (fun hc => ?_) (fun hc => ?_)
  · have hw := hw.1 hc
    refine lv_iload_n hx hb dX11_best_74 rfl (lv_at hl 3 rfl) ?_
    exact t_m_best_75 zc hK hM hS hP25 (lv_sub hl [1, 2, 4, 5, 0] rfl) hw
  · have hw := hw.2 hc
    refine lv_iload hx hb dX11_best_69 (lv_at hl 5 rfl) ?_
    refine lv_goto (tgt := 75) hx hb dX11_best_71 (by decide) ?_
    exact t_m_best_75 zc hK hM hS hP25 (lv_sub hl [1, 2, 4, 5, 0] rfl) hw
set_option maxRecDepth 20000 in
theorem t_m_best_25 {p : Program} {l : Launch} {e : Env} {s : State} {m : MethodId} {args : Array Value} {below : List Frame} {meth : Method} {c : Code} {E : zE} {q : Nat} {f_code : Int32} {a_tape : Nat → Int32} {a_size : Nat → Int32} {a_fault : Nat → Int32} {a_faultPlace : Nat → Int32} {a_many : Nat → Int32} {a_lands : Nat → Int32} {a_evenings : Nat → Int32} {a_sights : Nat → Int32} {a_choirs : Nat → Int32} {f_reached : Int32} {f_length : Int32} {f_begins : Int32} {f_sort : Int32} {f_value : Int32} {f_word : Int64} {f_wrongAt : Int32} {f_laterFault : Int32} {f_laterPlace : Int32} {a_told : Nat → Int32} {a_read : Nat → Int32} {f_farHut : Int32} {f_farSinger : Int32} {f_good : Int32} {f_land : Int32} {f_huts : Int32} {f_singers : Int32} {f_evening : Int32} {a_at : Nat → Int32} {a_knows : Nat → Int32} {a_climbed : Nat → Int32} {a_snow : Nat → Int32} {a_level : Nat → Int32} {f_begun : Int32} {f_minute : Int32} {f_avalanches : Int32} {a_run : Nat → Int32} {a_covers : Nat → Int32} {a_routes : Nat → Int32} {a_longest : Nat → Int32} {a_steep : Nat → Int32} {a_laid : Nat → Int32} {a_far : Nat → Int32} {f_sight : Int32} {a_runs : Nat → Int32} {f_choir : Int32} {f_voices : Int32} {a_rest : Nat → Int64} {a_wins : Nat → Int32} {f_seed : Int32} {a_other : Nat → Int32} {a_kept : Nat → Int32} {post : Int32 → (Int32) → (Int32) → (Int32) → (Int32) → (Nat → Int32) → Prop} {x2 : Int32} {x3 : Int32} {x4 : Int32} {x5 : Int32} {ls : Array Slot} {H : Heap} {locs : List Loc}
    (zc : zC p s m args meth c cX11_best 7 RX11 (some .int))
    (hK : zK E s)
    (hM : mW E q f_code a_tape a_size a_fault a_faultPlace a_many a_lands a_evenings a_sights a_choirs f_reached f_length f_begins f_sort f_value f_word f_wrongAt f_laterFault f_laterPlace a_told a_read f_farHut f_farSinger f_good f_land f_huts f_singers f_evening a_at a_knows a_climbed a_snow a_level f_begun f_minute f_avalanches a_run a_covers a_routes a_longest a_steep a_laid a_far f_sight a_runs f_choir f_voices a_rest a_wins f_seed a_other a_kept H)
    (hS : va_S (mA q) s.heap H locs)
    (hl : lv_has ls 7 [(0, .ref q), (2, .int x2), (3, .int x3), (4, .int x4), (5, .int x5)])
    (hw : q_m_best_25 f_code a_many a_lands f_land f_huts f_singers a_run x2 x3 x4 x5 post) :
    W p l e rm_m_best s m args below meth c H locs 0 0 (MQ below (zQi (S := (Int32) × (Int32) × (Int32) × (Int32) × (Nat → Int32)) (fun r u => post r u.1 u.2.1 u.2.2.1 u.2.2.2.1 u.2.2.2.2) (fun u H => mW E q u.1 a_tape a_size a_fault a_faultPlace a_many a_lands a_evenings a_sights a_choirs f_reached f_length f_begins f_sort f_value f_word f_wrongAt f_laterFault f_laterPlace a_told a_read f_farHut f_farSinger f_good u.2.1 u.2.2.1 u.2.2.2.1 f_evening a_at a_knows a_climbed a_snow a_level f_begun f_minute f_avalanches u.2.2.2.2 a_covers a_routes a_longest a_steep a_laid a_far f_sight a_runs f_choir f_voices a_rest a_wins f_seed a_other a_kept H) (mA q)) args s 0 0 (mA q)) (F0 m 25 ls []) := by
  have hx := zc.1
  have hb := zc.2.1
  refine hw (fun x3 x4 x5 a_run => ∀ (H : Heap) (locs : List Loc) (ls : Array Slot), lv_has ls 7 [(0, .ref q), (2, .int x2), (3, .int x3), (4, .int x4), (5, .int x5)] → mW E q f_code a_tape a_size a_fault a_faultPlace a_many a_lands a_evenings a_sights a_choirs f_reached f_length f_begins f_sort f_value f_word f_wrongAt f_laterFault f_laterPlace a_told a_read f_farHut f_farSinger f_good f_land f_huts f_singers f_evening a_at a_knows a_climbed a_snow a_level f_begun f_minute f_avalanches a_run a_covers a_routes a_longest a_steep a_laid a_far f_sight a_runs f_choir f_voices a_rest a_wins f_seed a_other a_kept H → va_S (mA q) s.heap H locs → W p l e rm_m_best s m args below meth c H locs 0 0 (MQ below (zQi (S := (Int32) × (Int32) × (Int32) × (Int32) × (Nat → Int32)) (fun r u => post r u.1 u.2.1 u.2.2.1 u.2.2.2.1 u.2.2.2.2) (fun u H => mW E q u.1 a_tape a_size a_fault a_faultPlace a_many a_lands a_evenings a_sights a_choirs f_reached f_length f_begins f_sort f_value f_word f_wrongAt f_laterFault f_laterPlace a_told a_read f_farHut f_farSinger f_good u.2.1 u.2.2.1 u.2.2.2.1 f_evening a_at a_knows a_climbed a_snow a_level f_begun f_minute f_avalanches u.2.2.2.2 a_covers a_routes a_longest a_steep a_laid a_far f_sight a_runs f_choir f_voices a_rest a_wins f_seed a_other a_kept H) (mA q)) args s 0 0 (mA q)) (F0 m 25 ls [])) ?_ _ _ _ hl hM hS
  intro x3 x4 x5 a_run hw H locs ls hl hM hS
  refine lv_iload hx hb dX11_best_25 (lv_at hl 4 rfl) ?_
  refine lv_aload_n hx hb dX11_best_27 rfl (lv_at hl 0 rfl) ?_
  refine mg_11_307_0 zc hK hM dX11_best_28 ?_
  refine lv_icmp_ge (tgt := 91) hx hb dX11_best_31 (by decide) (fun hc => ?_) (fun hc => ?_)
  · have hw := hw.1 hc
    refine lv_iload_n hx hb dX11_best_91 rfl (lv_at hl 2 rfl) ?_
    refine lv_iconst (v := (-1 : Int32)) hx hb dX11_best_92 (by decide) ?_
    refine lv_icmp_eq (tgt := 100) hx hb dX11_best_93 (by decide) (fun hc => ?_) (fun hc => ?_)
    · have hw := hw.1 hc
      exact t_m_best_100 zc hK hM hS  (lv_sub hl [2] rfl) hw
    · have hw := hw.2 hc
      refine lv_iload_n hx hb dX11_best_96 rfl (lv_at hl 1 rfl) ?_
      refine lv_if_ne (tgt := 104) hx hb dX11_best_97 (by decide) (fun hc => ?_) (fun hc => ?_)
      · have hw := hw.1 hc
        refine lv_iload hx hb dX11_best_104 (lv_at hl 3 rfl) ?_
        exact zret_iw ⟨f_code, f_land, f_huts, f_singers, a_run⟩ zc hS hw hM dX11_best_106
      · have hw := hw.2 hc
        exact t_m_best_100 zc hK hM hS  (lv_sub hl [2] rfl) hw
  · have hw := hw.2 hc
    refine lv_aload_n hx hb dX11_best_34 rfl (lv_at hl 0 rfl) ?_
    refine lv_iload hx hb dX11_best_35 (lv_at hl 4 rfl) ?_
    refine lv_iconst (v := (0 : Int32)) hx hb dX11_best_37 (by decide) ?_
    refine zVw_v [.int x5, .int (0 : Int32)] [] zc ky_X11_findRun kz_X11_findRun km_11_414 (c_m_findRun l hw) (mPreV0 hK hM) hS rfl rfl hl.1 (Nat.le_of_ble_eq_true rfl) ⟨rfl, rfl⟩ ⟨Nat.le_of_ble_eq_true rfl, Nat.le_of_ble_eq_true rfl⟩ ⟨(Nat.zero_le _), (Nat.zero_le _)⟩ dX11_best_38 (fun a_run_1 H locs hw hM hS => ?_)
    refine lv_aload_n hx hb dX11_best_41 rfl (lv_at hl 0 rfl) ?_
    refine lv_iload hx hb dX11_best_42 (lv_at hl 4 rfl) ?_
    refine zV_i [.int x5] [] zc ky_X11_isDam kz_X11_isDam km_11_355 (c_m_isDam l hw) (mPreV0 hK hM) rfl rfl hl.1 (Nat.le_of_ble_eq_true rfl) ⟨rfl, rfl⟩ ⟨Nat.le_of_ble_eq_true rfl, Nat.le_of_ble_eq_true rfl⟩ ⟨(Nat.zero_le _), (Nat.zero_le _)⟩ dX11_best_44 (fun r_1 hw => ?_)
    refine lv_if_eq (tgt := 56) hx hb dX11_best_47 (by decide) (fun hc => ?_) (fun hc => ?_)
    · have hw := hw.1 hc
      refine lv_aload_n hx hb dX11_best_56 rfl (lv_at hl 0 rfl) ?_
      refine zV_i [] [] zc ky_X11_lastVillage kz_X11_lastVillage km_11_426 (c_m_lastVillage l hw) (mPreV0 hK hM) rfl rfl hl.1 (Nat.le_of_ble_eq_true rfl) ⟨rfl, rfl⟩ ⟨Nat.le_of_ble_eq_true rfl, Nat.le_of_ble_eq_true rfl⟩ ⟨(Nat.zero_le _), (Nat.zero_le _)⟩ dX11_best_57 (fun r_2 hw => ?_)
      exact t_m_best_60 zc hK hM hS (fun _ _ _ _ H locs ls h hl hM hS => h H locs ls hl hM hS) (lv_sub hl [0, 1, 2, 3, 4] rfl) hw
    · have hw := hw.2 hc
      refine lv_ldcw (v := (1000000 : Int32)) hx hb zc.2.2.2.1 (zc.2.2.2.2.1 _ kc_11_410) dX11_best_50 ?_
      refine lv_goto (tgt := 60) hx hb dX11_best_53 (by decide) ?_
      exact t_m_best_60 zc hK hM hS (fun _ _ _ _ H locs ls h hl hM hS => h H locs ls hl hM hS) (lv_sub hl [0, 1, 2, 3, 4] rfl) hw
set_option maxRecDepth 20000 in
theorem t_m_best_0 {p : Program} {l : Launch} {e : Env} {s : State} {m : MethodId} {args : Array Value} {below : List Frame} {meth : Method} {c : Code} {E : zE} {q : Nat} {f_code : Int32} {a_tape : Nat → Int32} {a_size : Nat → Int32} {a_fault : Nat → Int32} {a_faultPlace : Nat → Int32} {a_many : Nat → Int32} {a_lands : Nat → Int32} {a_evenings : Nat → Int32} {a_sights : Nat → Int32} {a_choirs : Nat → Int32} {f_reached : Int32} {f_length : Int32} {f_begins : Int32} {f_sort : Int32} {f_value : Int32} {f_word : Int64} {f_wrongAt : Int32} {f_laterFault : Int32} {f_laterPlace : Int32} {a_told : Nat → Int32} {a_read : Nat → Int32} {f_farHut : Int32} {f_farSinger : Int32} {f_good : Int32} {f_land : Int32} {f_huts : Int32} {f_singers : Int32} {f_evening : Int32} {a_at : Nat → Int32} {a_knows : Nat → Int32} {a_climbed : Nat → Int32} {a_snow : Nat → Int32} {a_level : Nat → Int32} {f_begun : Int32} {f_minute : Int32} {f_avalanches : Int32} {a_run : Nat → Int32} {a_covers : Nat → Int32} {a_routes : Nat → Int32} {a_longest : Nat → Int32} {a_steep : Nat → Int32} {a_laid : Nat → Int32} {a_far : Nat → Int32} {f_sight : Int32} {a_runs : Nat → Int32} {f_choir : Int32} {f_voices : Int32} {a_rest : Nat → Int64} {a_wins : Nat → Int32} {f_seed : Int32} {a_other : Nat → Int32} {a_kept : Nat → Int32} {post : Int32 → (Int32) → (Int32) → (Int32) → (Int32) → (Nat → Int32) → Prop} {x1 : Int32} {x2 : Int32} {ls : Array Slot} {H : Heap} {locs : List Loc}
    (zc : zC p s m args meth c cX11_best 7 RX11 (some .int))
    (hK : zK E s)
    (hM : mW E q f_code a_tape a_size a_fault a_faultPlace a_many a_lands a_evenings a_sights a_choirs f_reached f_length f_begins f_sort f_value f_word f_wrongAt f_laterFault f_laterPlace a_told a_read f_farHut f_farSinger f_good f_land f_huts f_singers f_evening a_at a_knows a_climbed a_snow a_level f_begun f_minute f_avalanches a_run a_covers a_routes a_longest a_steep a_laid a_far f_sight a_runs f_choir f_voices a_rest a_wins f_seed a_other a_kept H)
    (hS : va_S (mA q) s.heap H locs)
    (hl : lv_has ls 7 [(0, .ref q), (1, .int x1), (2, .int x2)])
    (hw : q_m_best_0 f_code a_many a_lands f_land f_huts f_singers a_run x1 x2 post) :
    W p l e rm_m_best s m args below meth c H locs 0 0 (MQ below (zQi (S := (Int32) × (Int32) × (Int32) × (Int32) × (Nat → Int32)) (fun r u => post r u.1 u.2.1 u.2.2.1 u.2.2.2.1 u.2.2.2.2) (fun u H => mW E q u.1 a_tape a_size a_fault a_faultPlace a_many a_lands a_evenings a_sights a_choirs f_reached f_length f_begins f_sort f_value f_word f_wrongAt f_laterFault f_laterPlace a_told a_read f_farHut f_farSinger f_good u.2.1 u.2.2.1 u.2.2.2.1 f_evening a_at a_knows a_climbed a_snow a_level f_begun f_minute f_avalanches u.2.2.2.2 a_covers a_routes a_longest a_steep a_laid a_far f_sight a_runs f_choir f_voices a_rest a_wins f_seed a_other a_kept H) (mA q)) args s 0 0 (mA q)) (F0 m 0 ls []) := by
  have hx := zc.1
  have hb := zc.2.1
  refine lv_aload_n hx hb dX11_best_0 rfl (lv_at hl 0 rfl) ?_
  refine lv_iconst (v := (0 : Int32)) hx hb dX11_best_1 (by decide) ?_
  refine mp_11_97_0 zc hK hM hS dX11_best_2 (fun H locs hM hS => ?_)
  refine lv_aload_n hx hb dX11_best_5 rfl (lv_at hl 0 rfl) ?_
  refine lv_iload_n hx hb dX11_best_6 rfl (lv_at hl 1 rfl) ?_
  refine zVw_i [.int x1] [] zc ky_X11_hand kz_X11_hand km_11_313 (c_m_hand l hw) (mPreV0 hK hM) hS rfl rfl hl.1 (Nat.le_of_ble_eq_true rfl) ⟨rfl, rfl⟩ ⟨Nat.le_of_ble_eq_true rfl, Nat.le_of_ble_eq_true rfl⟩ ⟨(Nat.zero_le _), (Nat.zero_le _)⟩ dX11_best_7 (fun r_1 u H locs hw hM hS => ?_)
  obtain ⟨f_land_1, f_huts_1, f_singers_1⟩ := u
  refine lv_if_ne (tgt := 15) hx hb dX11_best_10 (by decide) (fun hc => ?_) (fun hc => ?_)
  · have hw := hw.1 hc
    refine lv_iconst (v := (-1 : Int32)) hx hb dX11_best_15 (by decide) ?_
    refine lv_istore_n (lv' := [(3, .int (-1 : Int32)), (0, .ref q), (1, .int x1), (2, .int x2)]) hx hb dX11_best_16 rfl hl (by decide) rfl (fun ls hl => ?_)
    refine lv_ldcw (v := (1000000 : Int32)) hx hb zc.2.2.2.1 (zc.2.2.2.2.1 _ kc_11_410) dX11_best_17 ?_
    refine lv_istore (lv' := [(4, .int (1000000 : Int32)), (3, .int (-1 : Int32)), (0, .ref q), (1, .int x1), (2, .int x2)]) hx hb dX11_best_20 hl (by decide) rfl (fun ls hl => ?_)
    refine lv_iconst (v := (0 : Int32)) hx hb dX11_best_22 (by decide) ?_
    refine lv_istore (lv' := [(5, .int (0 : Int32)), (4, .int (1000000 : Int32)), (3, .int (-1 : Int32)), (0, .ref q), (1, .int x1), (2, .int x2)]) hx hb dX11_best_23 hl (by decide) rfl (fun ls hl => ?_)
    exact t_m_best_25 zc hK hM hS  (lv_sub hl [3, 5, 2, 1, 0] rfl) hw
  · have hw := hw.2 hc
    refine lv_iconst (v := (-1 : Int32)) hx hb dX11_best_13 (by decide) ?_
    exact zret_iw ⟨(0 : Int32), f_land_1, f_huts_1, f_singers_1, a_run⟩ zc hS hw hM dX11_best_14
set_option maxRecDepth 20000 in
theorem c_m_best (l : Launch) {E : zE} {q : Nat} {f_code : Int32} {a_tape : Nat → Int32} {a_size : Nat → Int32} {a_fault : Nat → Int32} {a_faultPlace : Nat → Int32} {a_many : Nat → Int32} {a_lands : Nat → Int32} {a_evenings : Nat → Int32} {a_sights : Nat → Int32} {a_choirs : Nat → Int32} {f_reached : Int32} {f_length : Int32} {f_begins : Int32} {f_sort : Int32} {f_value : Int32} {f_word : Int64} {f_wrongAt : Int32} {f_laterFault : Int32} {f_laterPlace : Int32} {a_told : Nat → Int32} {a_read : Nat → Int32} {f_farHut : Int32} {f_farSinger : Int32} {f_good : Int32} {f_land : Int32} {f_huts : Int32} {f_singers : Int32} {f_evening : Int32} {a_at : Nat → Int32} {a_knows : Nat → Int32} {a_climbed : Nat → Int32} {a_snow : Nat → Int32} {a_level : Nat → Int32} {f_begun : Int32} {f_minute : Int32} {f_avalanches : Int32} {a_run : Nat → Int32} {a_covers : Nat → Int32} {a_routes : Nat → Int32} {a_longest : Nat → Int32} {a_steep : Nat → Int32} {a_laid : Nat → Int32} {a_far : Nat → Int32} {f_sight : Int32} {a_runs : Nat → Int32} {f_choir : Int32} {f_voices : Int32} {a_rest : Nat → Int64} {a_wins : Nat → Int32} {f_seed : Int32} {a_other : Nat → Int32} {a_kept : Nat → Int32} {x1 : Int32} {x2 : Int32} {post : Int32 → (Int32) → (Int32) → (Int32) → (Int32) → (Nat → Int32) → Prop} (hw : q_m_best_0 f_code a_many a_lands f_land f_huts f_singers a_run x1 x2 post) : Met l yX11_best (Cond.code yX11_best cX11_best 7 (some .int) :: zb) rm_m_best (va_Pc [.ref q, .int x1, .int x2] (fun U => mW E q f_code a_tape a_size a_fault a_faultPlace a_many a_lands a_evenings a_sights a_choirs f_reached f_length f_begins f_sort f_value f_word f_wrongAt f_laterFault f_laterPlace a_told a_read f_farHut f_farSinger f_good f_land f_huts f_singers f_evening a_at a_knows a_climbed a_snow a_level f_begun f_minute f_avalanches a_run a_covers a_routes a_longest a_steep a_laid a_far f_sight a_runs f_choir f_voices a_rest a_wins f_seed a_other a_kept U.heap ∧ zK E U)) (zQi (S := (Int32) × (Int32) × (Int32) × (Int32) × (Nat → Int32)) (fun r u => post r u.1 u.2.1 u.2.2.1 u.2.2.2.1 u.2.2.2.2) (fun u H => mW E q u.1 a_tape a_size a_fault a_faultPlace a_many a_lands a_evenings a_sights a_choirs f_reached f_length f_begins f_sort f_value f_word f_wrongAt f_laterFault f_laterPlace a_told a_read f_farHut f_farSinger f_good u.2.1 u.2.2.1 u.2.2.2.1 f_evening a_at a_knows a_climbed a_snow a_level f_begun f_minute f_avalanches u.2.2.2.2 a_covers a_routes a_longest a_steep a_laid a_far f_sight a_runs f_choir f_voices a_rest a_wins f_seed a_other a_kept H) (mA q)) 0 0 (mA q) := by
  refine Met.ofW (cc := cX11_best) (maxL := 7) (ret := (some .int)) (by decide) rfl ?_
  intro p e s m args below meth c s₁ B hml hv
  obtain ⟨rfl, hM, hK⟩ := hv
  have zc := zc_of B hml
  have hl := lv_entry ([.ref q, .int x1, .int x2]) (n := 7) (Nat.le_of_ble_eq_true rfl)
  rw [lg_entry_eq]
  generalize (lg_sl ([.ref q, .int x1, .int x2]) ++ List.replicate (7 - (lg_sl ([.ref q, .int x1, .int x2])).length) Slot.unset).toArray = ls at hl ⊢
  have hl : lv_has ls 7 [(0, .ref q), (1, .int x1), (2, .int x2)] := hl
  exact t_m_best_0 zc hK hM va_S.rf (lv_sub hl [0, 1, 2] rfl) hw
-- m_nextDown
abbrev rm_m_nextDown : Room := { frames := 2, cells := 0, slots := 0, locals := 42 }
def q_m_nextDown_44 (P4 : Int32 → Int32 → Prop) (a_lands : Nat → Int32) (f_land : Int32) (f_huts : Int32) (a_laid : Nat → Int32) (x2 : Int32) (y0 : Int32) (post : Int32 → Prop) : Prop :=
  ∀ v_1 : Int32, v_1 = x2 + (1 : Int32) → (P4 y0 v_1)
def q_m_nextDown_39 (P4 : Int32 → Int32 → Prop) (a_lands : Nat → Int32) (f_land : Int32) (f_huts : Int32) (a_laid : Nat → Int32) (x2 : Int32) (post : Int32 → Prop) : Prop :=
  q_m_nextDown_44 P4 a_lands f_land f_huts a_laid x2 x2 post
def q_m_nextDown_43 (P4 : Int32 → Int32 → Prop) (a_lands : Nat → Int32) (f_land : Int32) (f_huts : Int32) (a_laid : Nat → Int32) (x1 : Int32) (x2 : Int32) (post : Int32 → Prop) : Prop :=
  q_m_nextDown_44 P4 a_lands f_land f_huts a_laid x2 x1 post
def q_m_nextDown_4 (a_lands : Nat → Int32) (f_land : Int32) (f_huts : Int32) (a_laid : Nat → Int32) (x1 : Int32) (x2 : Int32) (post : Int32 → Prop) : Prop :=
  ∀ P4 : Int32 → Int32 → Prop, (∀ (x1 : Int32) (x2 : Int32), ((f_huts ≤ x2 → (post x1)) ∧ (¬ f_huts ≤ x2 → (vp_in x2 9 ∧ ((¬ (a_laid (Int32.toNatClampNeg x2)) = 0 → (q_m_nextDown_43 P4 a_lands f_land f_huts a_laid x1 x2 post)) ∧ ((a_laid (Int32.toNatClampNeg x2)) = 0 → ((x1 = (-1 : Int32) → (q_m_nextDown_39 P4 a_lands f_land f_huts a_laid x2 post)) ∧ (¬ x1 = (-1 : Int32) → (q_m_height_0 a_lands f_land x2 (fun r_1 => q_m_height_0 a_lands f_land x1 (fun r_2 => (r_1 ≤ r_2 → (q_m_nextDown_43 P4 a_lands f_land f_huts a_laid x1 x2 post)) ∧ (¬ r_1 ≤ r_2 → (q_m_nextDown_39 P4 a_lands f_land f_huts a_laid x2 post)))))))))))) → P4 x1 x2) → P4 x1 x2
def q_m_nextDown_0 (a_lands : Nat → Int32) (f_land : Int32) (f_huts : Int32) (a_laid : Nat → Int32) (post : Int32 → Prop) : Prop :=
  q_m_nextDown_4 a_lands f_land f_huts a_laid (-1 : Int32) (0 : Int32) post
set_option maxRecDepth 20000 in
theorem t_m_nextDown_44 {p : Program} {l : Launch} {e : Env} {s : State} {m : MethodId} {args : Array Value} {below : List Frame} {meth : Method} {c : Code} {E : zE} {q : Nat} {f_code : Int32} {a_tape : Nat → Int32} {a_size : Nat → Int32} {a_fault : Nat → Int32} {a_faultPlace : Nat → Int32} {a_many : Nat → Int32} {a_lands : Nat → Int32} {a_evenings : Nat → Int32} {a_sights : Nat → Int32} {a_choirs : Nat → Int32} {f_reached : Int32} {f_length : Int32} {f_begins : Int32} {f_sort : Int32} {f_value : Int32} {f_word : Int64} {f_wrongAt : Int32} {f_laterFault : Int32} {f_laterPlace : Int32} {a_told : Nat → Int32} {a_read : Nat → Int32} {f_farHut : Int32} {f_farSinger : Int32} {f_good : Int32} {f_land : Int32} {f_huts : Int32} {f_singers : Int32} {f_evening : Int32} {a_at : Nat → Int32} {a_knows : Nat → Int32} {a_climbed : Nat → Int32} {a_snow : Nat → Int32} {a_level : Nat → Int32} {f_begun : Int32} {f_minute : Int32} {f_avalanches : Int32} {a_run : Nat → Int32} {a_covers : Nat → Int32} {a_routes : Nat → Int32} {a_longest : Nat → Int32} {a_steep : Nat → Int32} {a_laid : Nat → Int32} {a_far : Nat → Int32} {f_sight : Int32} {a_runs : Nat → Int32} {f_choir : Int32} {f_voices : Int32} {a_rest : Nat → Int64} {a_wins : Nat → Int32} {f_seed : Int32} {a_other : Nat → Int32} {a_kept : Nat → Int32} {P4 : Int32 → Int32 → Prop} {post : Int32 → Prop} {x2 : Int32} {y0 : Int32} {ls : Array Slot}
    (zc : zC p s m args meth c cX11_nextDown 3 RX11 (some .int))
    (hK : zK E s)
    (hM : mW E q f_code a_tape a_size a_fault a_faultPlace a_many a_lands a_evenings a_sights a_choirs f_reached f_length f_begins f_sort f_value f_word f_wrongAt f_laterFault f_laterPlace a_told a_read f_farHut f_farSinger f_good f_land f_huts f_singers f_evening a_at a_knows a_climbed a_snow a_level f_begun f_minute f_avalanches a_run a_covers a_routes a_longest a_steep a_laid a_far f_sight a_runs f_choir f_voices a_rest a_wins f_seed a_other a_kept s.heap)
    (hP4 : ∀ (x1 : Int32) (x2 : Int32) (ls : Array Slot), P4 x1 x2 → lv_has ls 3 [(0, .ref q), (1, .int x1), (2, .int x2)] → W p l e rm_m_nextDown s m args below meth c s.heap [] 0 0 (MQ below (vp_Si post) args s 0 0 (fun _ => False)) (F0 m 4 ls []))
    (hl : lv_has ls 3 [(0, .ref q), (2, .int x2)])
    (hw : q_m_nextDown_44 P4 a_lands f_land f_huts a_laid x2 y0 post) :
    W p l e rm_m_nextDown s m args below meth c s.heap [] 0 0 (MQ below (vp_Si post) args s 0 0 (fun _ => False)) (F0 m 44 ls [.int y0]) := by
  have hx := zc.1
  have hb := zc.2.1
  refine lv_istore_n (lv' := [(1, .int y0), (0, .ref q), (2, .int x2)]) hx hb dX11_nextDown_44 rfl hl (by decide) rfl (fun ls hl => ?_)
  obtain ⟨v_1, ev_1⟩ : ∃ y : Int32, y = x2 + (1 : Int32) := ⟨_, rfl⟩
  have hw := hw v_1 ev_1
  refine lv_iinc (v := v_1) (k := 2) (lv' := [(2, .int v_1), (1, .int y0), (0, .ref q)]) hx hb dX11_nextDown_45 hl rfl (by rw [ev_1]; rfl) (by decide) rfl (fun ls hl => ?_)
  refine lv_goto (tgt := 4) hx hb dX11_nextDown_48 (by decide) ?_
  exact hP4 _ _ _ hw (lv_sub hl [2, 1, 0] rfl)
set_option maxRecDepth 20000 in
theorem t_m_nextDown_39 {p : Program} {l : Launch} {e : Env} {s : State} {m : MethodId} {args : Array Value} {below : List Frame} {meth : Method} {c : Code} {E : zE} {q : Nat} {f_code : Int32} {a_tape : Nat → Int32} {a_size : Nat → Int32} {a_fault : Nat → Int32} {a_faultPlace : Nat → Int32} {a_many : Nat → Int32} {a_lands : Nat → Int32} {a_evenings : Nat → Int32} {a_sights : Nat → Int32} {a_choirs : Nat → Int32} {f_reached : Int32} {f_length : Int32} {f_begins : Int32} {f_sort : Int32} {f_value : Int32} {f_word : Int64} {f_wrongAt : Int32} {f_laterFault : Int32} {f_laterPlace : Int32} {a_told : Nat → Int32} {a_read : Nat → Int32} {f_farHut : Int32} {f_farSinger : Int32} {f_good : Int32} {f_land : Int32} {f_huts : Int32} {f_singers : Int32} {f_evening : Int32} {a_at : Nat → Int32} {a_knows : Nat → Int32} {a_climbed : Nat → Int32} {a_snow : Nat → Int32} {a_level : Nat → Int32} {f_begun : Int32} {f_minute : Int32} {f_avalanches : Int32} {a_run : Nat → Int32} {a_covers : Nat → Int32} {a_routes : Nat → Int32} {a_longest : Nat → Int32} {a_steep : Nat → Int32} {a_laid : Nat → Int32} {a_far : Nat → Int32} {f_sight : Int32} {a_runs : Nat → Int32} {f_choir : Int32} {f_voices : Int32} {a_rest : Nat → Int64} {a_wins : Nat → Int32} {f_seed : Int32} {a_other : Nat → Int32} {a_kept : Nat → Int32} {P4 : Int32 → Int32 → Prop} {post : Int32 → Prop} {x2 : Int32} {ls : Array Slot}
    (zc : zC p s m args meth c cX11_nextDown 3 RX11 (some .int))
    (hK : zK E s)
    (hM : mW E q f_code a_tape a_size a_fault a_faultPlace a_many a_lands a_evenings a_sights a_choirs f_reached f_length f_begins f_sort f_value f_word f_wrongAt f_laterFault f_laterPlace a_told a_read f_farHut f_farSinger f_good f_land f_huts f_singers f_evening a_at a_knows a_climbed a_snow a_level f_begun f_minute f_avalanches a_run a_covers a_routes a_longest a_steep a_laid a_far f_sight a_runs f_choir f_voices a_rest a_wins f_seed a_other a_kept s.heap)
    (hP4 : ∀ (x1 : Int32) (x2 : Int32) (ls : Array Slot), P4 x1 x2 → lv_has ls 3 [(0, .ref q), (1, .int x1), (2, .int x2)] → W p l e rm_m_nextDown s m args below meth c s.heap [] 0 0 (MQ below (vp_Si post) args s 0 0 (fun _ => False)) (F0 m 4 ls []))
    (hl : lv_has ls 3 [(0, .ref q), (2, .int x2)])
    (hw : q_m_nextDown_39 P4 a_lands f_land f_huts a_laid x2 post) :
    W p l e rm_m_nextDown s m args below meth c s.heap [] 0 0 (MQ below (vp_Si post) args s 0 0 (fun _ => False)) (F0 m 39 ls []) := by
  have hx := zc.1
  have hb := zc.2.1
  refine lv_iload_n hx hb dX11_nextDown_39 rfl (lv_at hl 1 rfl) ?_
  refine lv_goto (tgt := 44) hx hb dX11_nextDown_40 (by decide) ?_
  exact t_m_nextDown_44 zc hK hM hP4 (lv_sub hl [0, 1] rfl) hw
set_option maxRecDepth 20000 in
theorem t_m_nextDown_43 {p : Program} {l : Launch} {e : Env} {s : State} {m : MethodId} {args : Array Value} {below : List Frame} {meth : Method} {c : Code} {E : zE} {q : Nat} {f_code : Int32} {a_tape : Nat → Int32} {a_size : Nat → Int32} {a_fault : Nat → Int32} {a_faultPlace : Nat → Int32} {a_many : Nat → Int32} {a_lands : Nat → Int32} {a_evenings : Nat → Int32} {a_sights : Nat → Int32} {a_choirs : Nat → Int32} {f_reached : Int32} {f_length : Int32} {f_begins : Int32} {f_sort : Int32} {f_value : Int32} {f_word : Int64} {f_wrongAt : Int32} {f_laterFault : Int32} {f_laterPlace : Int32} {a_told : Nat → Int32} {a_read : Nat → Int32} {f_farHut : Int32} {f_farSinger : Int32} {f_good : Int32} {f_land : Int32} {f_huts : Int32} {f_singers : Int32} {f_evening : Int32} {a_at : Nat → Int32} {a_knows : Nat → Int32} {a_climbed : Nat → Int32} {a_snow : Nat → Int32} {a_level : Nat → Int32} {f_begun : Int32} {f_minute : Int32} {f_avalanches : Int32} {a_run : Nat → Int32} {a_covers : Nat → Int32} {a_routes : Nat → Int32} {a_longest : Nat → Int32} {a_steep : Nat → Int32} {a_laid : Nat → Int32} {a_far : Nat → Int32} {f_sight : Int32} {a_runs : Nat → Int32} {f_choir : Int32} {f_voices : Int32} {a_rest : Nat → Int64} {a_wins : Nat → Int32} {f_seed : Int32} {a_other : Nat → Int32} {a_kept : Nat → Int32} {P4 : Int32 → Int32 → Prop} {post : Int32 → Prop} {x1 : Int32} {x2 : Int32} {ls : Array Slot}
    (zc : zC p s m args meth c cX11_nextDown 3 RX11 (some .int))
    (hK : zK E s)
    (hM : mW E q f_code a_tape a_size a_fault a_faultPlace a_many a_lands a_evenings a_sights a_choirs f_reached f_length f_begins f_sort f_value f_word f_wrongAt f_laterFault f_laterPlace a_told a_read f_farHut f_farSinger f_good f_land f_huts f_singers f_evening a_at a_knows a_climbed a_snow a_level f_begun f_minute f_avalanches a_run a_covers a_routes a_longest a_steep a_laid a_far f_sight a_runs f_choir f_voices a_rest a_wins f_seed a_other a_kept s.heap)
    (hP4 : ∀ (x1 : Int32) (x2 : Int32) (ls : Array Slot), P4 x1 x2 → lv_has ls 3 [(0, .ref q), (1, .int x1), (2, .int x2)] → W p l e rm_m_nextDown s m args below meth c s.heap [] 0 0 (MQ below (vp_Si post) args s 0 0 (fun _ => False)) (F0 m 4 ls []))
    (hl : lv_has ls 3 [(0, .ref q), (1, .int x1), (2, .int x2)])
    (hw : q_m_nextDown_43 P4 a_lands f_land f_huts a_laid x1 x2 post) :
    W p l e rm_m_nextDown s m args below meth c s.heap [] 0 0 (MQ below (vp_Si post) args s 0 0 (fun _ => False)) (F0 m 43 ls []) := by
  have hx := zc.1
  have hb := zc.2.1
  refine lv_iload_n hx hb dX11_nextDown_43 rfl (lv_at hl 1 rfl) ?_
  exact t_m_nextDown_44 zc hK hM hP4 (lv_sub hl [0, 2] rfl) hw
set_option maxRecDepth 20000 in
theorem t_m_nextDown_4 {p : Program} {l : Launch} {e : Env} {s : State} {m : MethodId} {args : Array Value} {below : List Frame} {meth : Method} {c : Code} {E : zE} {q : Nat} {f_code : Int32} {a_tape : Nat → Int32} {a_size : Nat → Int32} {a_fault : Nat → Int32} {a_faultPlace : Nat → Int32} {a_many : Nat → Int32} {a_lands : Nat → Int32} {a_evenings : Nat → Int32} {a_sights : Nat → Int32} {a_choirs : Nat → Int32} {f_reached : Int32} {f_length : Int32} {f_begins : Int32} {f_sort : Int32} {f_value : Int32} {f_word : Int64} {f_wrongAt : Int32} {f_laterFault : Int32} {f_laterPlace : Int32} {a_told : Nat → Int32} {a_read : Nat → Int32} {f_farHut : Int32} {f_farSinger : Int32} {f_good : Int32} {f_land : Int32} {f_huts : Int32} {f_singers : Int32} {f_evening : Int32} {a_at : Nat → Int32} {a_knows : Nat → Int32} {a_climbed : Nat → Int32} {a_snow : Nat → Int32} {a_level : Nat → Int32} {f_begun : Int32} {f_minute : Int32} {f_avalanches : Int32} {a_run : Nat → Int32} {a_covers : Nat → Int32} {a_routes : Nat → Int32} {a_longest : Nat → Int32} {a_steep : Nat → Int32} {a_laid : Nat → Int32} {a_far : Nat → Int32} {f_sight : Int32} {a_runs : Nat → Int32} {f_choir : Int32} {f_voices : Int32} {a_rest : Nat → Int64} {a_wins : Nat → Int32} {f_seed : Int32} {a_other : Nat → Int32} {a_kept : Nat → Int32} {post : Int32 → Prop} {x1 : Int32} {x2 : Int32} {ls : Array Slot}
    (zc : zC p s m args meth c cX11_nextDown 3 RX11 (some .int))
    (hK : zK E s)
    (hM : mW E q f_code a_tape a_size a_fault a_faultPlace a_many a_lands a_evenings a_sights a_choirs f_reached f_length f_begins f_sort f_value f_word f_wrongAt f_laterFault f_laterPlace a_told a_read f_farHut f_farSinger f_good f_land f_huts f_singers f_evening a_at a_knows a_climbed a_snow a_level f_begun f_minute f_avalanches a_run a_covers a_routes a_longest a_steep a_laid a_far f_sight a_runs f_choir f_voices a_rest a_wins f_seed a_other a_kept s.heap)
    (hl : lv_has ls 3 [(0, .ref q), (1, .int x1), (2, .int x2)])
    (hw : q_m_nextDown_4 a_lands f_land f_huts a_laid x1 x2 post) :
    W p l e rm_m_nextDown s m args below meth c s.heap [] 0 0 (MQ below (vp_Si post) args s 0 0 (fun _ => False)) (F0 m 4 ls []) := by
  have hx := zc.1
  have hb := zc.2.1
  refine hw (fun x1 x2 => ∀ (ls : Array Slot), lv_has ls 3 [(0, .ref q), (1, .int x1), (2, .int x2)] → W p l e rm_m_nextDown s m args below meth c s.heap [] 0 0 (MQ below (vp_Si post) args s 0 0 (fun _ => False)) (F0 m 4 ls [])) ?_ _ hl
  intro x1 x2 hw ls hl
  refine lv_iload_n hx hb dX11_nextDown_4 rfl (lv_at hl 2 rfl) ?_
  refine lv_aload_n hx hb dX11_nextDown_5 rfl (lv_at hl 0 rfl) ?_
  refine mg_11_307_0 zc hK hM dX11_nextDown_6 ?_
  refine lv_icmp_ge (tgt := 51) hx hb dX11_nextDown_9 (by decide) (fun hc => ?_) (fun hc => ?_)
  · have hw := hw.1 hc
    refine lv_iload_n hx hb dX11_nextDown_51 rfl (lv_at hl 1 rfl) ?_
    exact zret_i zc hw dX11_nextDown_52
  · have hw := hw.2 hc
    refine lv_aload_n hx hb dX11_nextDown_12 rfl (lv_at hl 0 rfl) ?_
    refine mg_11_74_0 zc hK hM dX11_nextDown_13 ?_
    refine lv_iload_n hx hb dX11_nextDown_16 rfl (lv_at hl 2 rfl) ?_
    refine mld_22 zc hK hM hw.1 dX11_nextDown_17 ?_
    have hw := hw.2
    refine lv_if_ne (tgt := 43) hx hb dX11_nextDown_18 (by decide) (fun hc => ?_) (fun hc => ?_)
    · have hw := hw.1 hc
      exact t_m_nextDown_43 zc hK hM (fun _ _ ls h hl => h ls hl) (lv_sub hl [0, 1, 2] rfl) hw
    · have hw := hw.2 hc
      refine lv_iload_n hx hb dX11_nextDown_21 rfl (lv_at hl 1 rfl) ?_
      refine lv_iconst (v := (-1 : Int32)) hx hb dX11_nextDown_22 (by decide) ?_
      refine lv_icmp_eq (tgt := 39) hx hb dX11_nextDown_23 (by decide) (fun hc => ?_) (fun hc => ?_)
      · have hw := hw.1 hc
        exact t_m_nextDown_39 zc hK hM (fun _ _ ls h hl => h ls hl) (lv_sub hl [0, 2] rfl) hw
      · have hw := hw.2 hc
        refine lv_aload_n hx hb dX11_nextDown_26 rfl (lv_at hl 0 rfl) ?_
        refine lv_iload_n hx hb dX11_nextDown_27 rfl (lv_at hl 2 rfl) ?_
        refine zV_i [.int x2] [] zc ky_X11_height kz_X11_height km_11_322 (c_m_height l hw) (mPreV0 hK hM) rfl rfl hl.1 (Nat.le_of_ble_eq_true rfl) ⟨rfl, rfl⟩ ⟨Nat.le_of_ble_eq_true rfl, Nat.le_of_ble_eq_true rfl⟩ ⟨(Nat.zero_le _), (Nat.zero_le _)⟩ dX11_nextDown_28 (fun r_1 hw => ?_)
        refine lv_aload_n hx hb dX11_nextDown_31 rfl (lv_at hl 0 rfl) ?_
        refine lv_iload_n hx hb dX11_nextDown_32 rfl (lv_at hl 1 rfl) ?_
        refine zV_i [.int x1] [.int r_1] zc ky_X11_height kz_X11_height km_11_322 (c_m_height l hw) (mPreV0 hK hM) rfl rfl hl.1 (Nat.le_of_ble_eq_true rfl) ⟨rfl, rfl⟩ ⟨Nat.le_of_ble_eq_true rfl, Nat.le_of_ble_eq_true rfl⟩ ⟨(Nat.zero_le _), (Nat.zero_le _)⟩ dX11_nextDown_33 (fun r_2 hw => ?_)
        refine lv_icmp_le (tgt := 43) hx hb dX11_nextDown_36 (by decide) (fun hc => ?_) (fun hc => ?_)
        · have hw := hw.1 hc
          exact t_m_nextDown_43 zc hK hM (fun _ _ ls h hl => h ls hl) (lv_sub hl [0, 1, 2] rfl) hw
        · have hw := hw.2 hc
          exact t_m_nextDown_39 zc hK hM (fun _ _ ls h hl => h ls hl) (lv_sub hl [0, 2] rfl) hw
set_option maxRecDepth 20000 in
theorem t_m_nextDown_0 {p : Program} {l : Launch} {e : Env} {s : State} {m : MethodId} {args : Array Value} {below : List Frame} {meth : Method} {c : Code} {E : zE} {q : Nat} {f_code : Int32} {a_tape : Nat → Int32} {a_size : Nat → Int32} {a_fault : Nat → Int32} {a_faultPlace : Nat → Int32} {a_many : Nat → Int32} {a_lands : Nat → Int32} {a_evenings : Nat → Int32} {a_sights : Nat → Int32} {a_choirs : Nat → Int32} {f_reached : Int32} {f_length : Int32} {f_begins : Int32} {f_sort : Int32} {f_value : Int32} {f_word : Int64} {f_wrongAt : Int32} {f_laterFault : Int32} {f_laterPlace : Int32} {a_told : Nat → Int32} {a_read : Nat → Int32} {f_farHut : Int32} {f_farSinger : Int32} {f_good : Int32} {f_land : Int32} {f_huts : Int32} {f_singers : Int32} {f_evening : Int32} {a_at : Nat → Int32} {a_knows : Nat → Int32} {a_climbed : Nat → Int32} {a_snow : Nat → Int32} {a_level : Nat → Int32} {f_begun : Int32} {f_minute : Int32} {f_avalanches : Int32} {a_run : Nat → Int32} {a_covers : Nat → Int32} {a_routes : Nat → Int32} {a_longest : Nat → Int32} {a_steep : Nat → Int32} {a_laid : Nat → Int32} {a_far : Nat → Int32} {f_sight : Int32} {a_runs : Nat → Int32} {f_choir : Int32} {f_voices : Int32} {a_rest : Nat → Int64} {a_wins : Nat → Int32} {f_seed : Int32} {a_other : Nat → Int32} {a_kept : Nat → Int32} {post : Int32 → Prop} {ls : Array Slot}
    (zc : zC p s m args meth c cX11_nextDown 3 RX11 (some .int))
    (hK : zK E s)
    (hM : mW E q f_code a_tape a_size a_fault a_faultPlace a_many a_lands a_evenings a_sights a_choirs f_reached f_length f_begins f_sort f_value f_word f_wrongAt f_laterFault f_laterPlace a_told a_read f_farHut f_farSinger f_good f_land f_huts f_singers f_evening a_at a_knows a_climbed a_snow a_level f_begun f_minute f_avalanches a_run a_covers a_routes a_longest a_steep a_laid a_far f_sight a_runs f_choir f_voices a_rest a_wins f_seed a_other a_kept s.heap)
    (hl : lv_has ls 3 [(0, .ref q)])
    (hw : q_m_nextDown_0 a_lands f_land f_huts a_laid post) :
    W p l e rm_m_nextDown s m args below meth c s.heap [] 0 0 (MQ below (vp_Si post) args s 0 0 (fun _ => False)) (F0 m 0 ls []) := by
  have hx := zc.1
  have hb := zc.2.1
  refine lv_iconst (v := (-1 : Int32)) hx hb dX11_nextDown_0 (by decide) ?_
  refine lv_istore_n (lv' := [(1, .int (-1 : Int32)), (0, .ref q)]) hx hb dX11_nextDown_1 rfl hl (by decide) rfl (fun ls hl => ?_)
  refine lv_iconst (v := (0 : Int32)) hx hb dX11_nextDown_2 (by decide) ?_
  refine lv_istore_n (lv' := [(2, .int (0 : Int32)), (1, .int (-1 : Int32)), (0, .ref q)]) hx hb dX11_nextDown_3 rfl hl (by decide) rfl (fun ls hl => ?_)
  exact t_m_nextDown_4 zc hK hM  (lv_sub hl [2, 1, 0] rfl) hw
set_option maxRecDepth 20000 in
theorem c_m_nextDown (l : Launch) {E : zE} {q : Nat} {f_code : Int32} {a_tape : Nat → Int32} {a_size : Nat → Int32} {a_fault : Nat → Int32} {a_faultPlace : Nat → Int32} {a_many : Nat → Int32} {a_lands : Nat → Int32} {a_evenings : Nat → Int32} {a_sights : Nat → Int32} {a_choirs : Nat → Int32} {f_reached : Int32} {f_length : Int32} {f_begins : Int32} {f_sort : Int32} {f_value : Int32} {f_word : Int64} {f_wrongAt : Int32} {f_laterFault : Int32} {f_laterPlace : Int32} {a_told : Nat → Int32} {a_read : Nat → Int32} {f_farHut : Int32} {f_farSinger : Int32} {f_good : Int32} {f_land : Int32} {f_huts : Int32} {f_singers : Int32} {f_evening : Int32} {a_at : Nat → Int32} {a_knows : Nat → Int32} {a_climbed : Nat → Int32} {a_snow : Nat → Int32} {a_level : Nat → Int32} {f_begun : Int32} {f_minute : Int32} {f_avalanches : Int32} {a_run : Nat → Int32} {a_covers : Nat → Int32} {a_routes : Nat → Int32} {a_longest : Nat → Int32} {a_steep : Nat → Int32} {a_laid : Nat → Int32} {a_far : Nat → Int32} {f_sight : Int32} {a_runs : Nat → Int32} {f_choir : Int32} {f_voices : Int32} {a_rest : Nat → Int64} {a_wins : Nat → Int32} {f_seed : Int32} {a_other : Nat → Int32} {a_kept : Nat → Int32} {post : Int32 → Prop} (hw : q_m_nextDown_0 a_lands f_land f_huts a_laid post) : Met l yX11_nextDown (Cond.code yX11_nextDown cX11_nextDown 3 (some .int) :: zb) rm_m_nextDown (va_Pc [.ref q] (fun U => mW E q f_code a_tape a_size a_fault a_faultPlace a_many a_lands a_evenings a_sights a_choirs f_reached f_length f_begins f_sort f_value f_word f_wrongAt f_laterFault f_laterPlace a_told a_read f_farHut f_farSinger f_good f_land f_huts f_singers f_evening a_at a_knows a_climbed a_snow a_level f_begun f_minute f_avalanches a_run a_covers a_routes a_longest a_steep a_laid a_far f_sight a_runs f_choir f_voices a_rest a_wins f_seed a_other a_kept U.heap ∧ zK E U)) (vp_Si post) 0 0 (fun _ => False) := by
  refine Met.ofW (cc := cX11_nextDown) (maxL := 3) (ret := (some .int)) (by decide) rfl ?_
  intro p e s m args below meth c s₁ B hml hv
  obtain ⟨rfl, hM, hK⟩ := hv
  have zc := zc_of B hml
  have hl := lv_entry ([.ref q]) (n := 3) (Nat.le_of_ble_eq_true rfl)
  rw [lg_entry_eq]
  generalize (lg_sl ([.ref q]) ++ List.replicate (3 - (lg_sl ([.ref q])).length) Slot.unset).toArray = ls at hl ⊢
  have hl : lv_has ls 3 [(0, .ref q)] := hl
  exact t_m_nextDown_0 zc hK hM (lv_sub hl [0] rfl) hw
-- m_goesDown
abbrev rm_m_goesDown : Room := { frames := 2, cells := 0, slots := 0, locals := 43 }
def q_m_goesDown_132 (a_lands : Nat → Int32) (f_land : Int32) (a_routes : Nat → Int32) (a_longest : Nat → Int32) (a_steep : Nat → Int32) (x1 : Int32) (x2 : Int32) (y0 : Int32) (y1 : Int32) (post : (Nat → Int32) → (Nat → Int32) → (Nat → Int32) → Prop) : Prop :=
  vp_in y0 9 ∧ (∀ a_longest_1 : Nat → Int32, a_longest_1 = upd a_longest (Int32.toNatClampNeg y0) y1 → (vp_in x2 9 ∧ (vp_in x1 9 ∧ (∀ v_1 : Int32, v_1 = ((a_routes (Int32.toNatClampNeg x2)) + (a_routes (Int32.toNatClampNeg x1))) → (vp_in x2 9 ∧ (∀ a_routes_1 : Nat → Int32, a_routes_1 = upd a_routes (Int32.toNatClampNeg x2) v_1 → (post a_routes_1 a_longest_1 a_steep)))))))
def q_m_goesDown_89 (a_lands : Nat → Int32) (f_land : Int32) (a_routes : Nat → Int32) (a_longest : Nat → Int32) (a_steep : Nat → Int32) (x1 : Int32) (x2 : Int32) (y0 : Int32) (y1 : Int32) (post : (Nat → Int32) → (Nat → Int32) → (Nat → Int32) → Prop) : Prop :=
  vp_in y0 9 ∧ (∀ a_steep_1 : Nat → Int32, a_steep_1 = upd a_steep (Int32.toNatClampNeg y0) y1 → (vp_in x2 9 ∧ ((¬ (a_routes (Int32.toNatClampNeg x2)) = 0 → (vp_in x2 9 ∧ (vp_in x1 9 ∧ (q_m_greater_0 (a_longest (Int32.toNatClampNeg x2)) ((a_longest (Int32.toNatClampNeg x1)) + (1 : Int32)) (fun r_1 => q_m_goesDown_132 a_lands f_land a_routes a_longest a_steep_1 x1 x2 x2 r_1 post))))) ∧ ((a_routes (Int32.toNatClampNeg x2)) = 0 → (vp_in x1 9 ∧ (q_m_goesDown_132 a_lands f_land a_routes a_longest a_steep_1 x1 x2 x2 ((a_longest (Int32.toNatClampNeg x1)) + (1 : Int32)) post))))))
def q_m_goesDown_0 (a_lands : Nat → Int32) (f_land : Int32) (a_routes : Nat → Int32) (a_longest : Nat → Int32) (a_steep : Nat → Int32) (x1 : Int32) (x2 : Int32) (post : (Nat → Int32) → (Nat → Int32) → (Nat → Int32) → Prop) : Prop :=
  q_m_way_0 a_lands f_land x1 x2 (fun r_1 => (r_1 = 0 → (post a_routes a_longest a_steep)) ∧ (¬ r_1 = 0 → (q_m_height_0 a_lands f_land x2 (fun r_2 => q_m_height_0 a_lands f_land x1 (fun r_3 => (r_3 ≤ r_2 → (post a_routes a_longest a_steep)) ∧ (¬ r_3 ≤ r_2 → (q_m_isDam_0 a_lands f_land x2 (fun r_4 => (¬ r_4 = 0 → (post a_routes a_longest a_steep)) ∧ (r_4 = 0 → (vp_in x1 9 ∧ ((¬ (a_routes (Int32.toNatClampNeg x1)) = 0 → (vp_in x1 9 ∧ (q_m_height_0 a_lands f_land x1 (fun r_5 => q_m_height_0 a_lands f_land x2 (fun r_6 => q_m_greater_0 (a_steep (Int32.toNatClampNeg x1)) (r_5 - r_6) (fun r_7 => vp_in x2 9 ∧ ((¬ (a_routes (Int32.toNatClampNeg x2)) = 0 → (vp_in x2 9 ∧ (q_m_lesser_0 (a_steep (Int32.toNatClampNeg x2)) r_7 (fun r_8 => q_m_goesDown_89 a_lands f_land a_routes a_longest a_steep x1 x2 x2 r_8 post)))) ∧ ((a_routes (Int32.toNatClampNeg x2)) = 0 → (q_m_goesDown_89 a_lands f_land a_routes a_longest a_steep x1 x2 x2 r_7 post))))))))) ∧ ((a_routes (Int32.toNatClampNeg x1)) = 0 → (post a_routes a_longest a_steep)))))))))))))
set_option maxRecDepth 20000 in
theorem t_m_goesDown_132 {p : Program} {l : Launch} {e : Env} {s : State} {m : MethodId} {args : Array Value} {below : List Frame} {meth : Method} {c : Code} {E : zE} {q : Nat} {f_code : Int32} {a_tape : Nat → Int32} {a_size : Nat → Int32} {a_fault : Nat → Int32} {a_faultPlace : Nat → Int32} {a_many : Nat → Int32} {a_lands : Nat → Int32} {a_evenings : Nat → Int32} {a_sights : Nat → Int32} {a_choirs : Nat → Int32} {f_reached : Int32} {f_length : Int32} {f_begins : Int32} {f_sort : Int32} {f_value : Int32} {f_word : Int64} {f_wrongAt : Int32} {f_laterFault : Int32} {f_laterPlace : Int32} {a_told : Nat → Int32} {a_read : Nat → Int32} {f_farHut : Int32} {f_farSinger : Int32} {f_good : Int32} {f_land : Int32} {f_huts : Int32} {f_singers : Int32} {f_evening : Int32} {a_at : Nat → Int32} {a_knows : Nat → Int32} {a_climbed : Nat → Int32} {a_snow : Nat → Int32} {a_level : Nat → Int32} {f_begun : Int32} {f_minute : Int32} {f_avalanches : Int32} {a_run : Nat → Int32} {a_covers : Nat → Int32} {a_routes : Nat → Int32} {a_longest : Nat → Int32} {a_steep : Nat → Int32} {a_laid : Nat → Int32} {a_far : Nat → Int32} {f_sight : Int32} {a_runs : Nat → Int32} {f_choir : Int32} {f_voices : Int32} {a_rest : Nat → Int64} {a_wins : Nat → Int32} {f_seed : Int32} {a_other : Nat → Int32} {a_kept : Nat → Int32} {post : (Nat → Int32) → (Nat → Int32) → (Nat → Int32) → Prop} {x1 : Int32} {x2 : Int32} {y0 : Int32} {y1 : Int32} {ls : Array Slot} {H : Heap} {locs : List Loc}
    (zc : zC p s m args meth c cX11_goesDown 4 RX11 none)
    (hK : zK E s)
    (hM : mW E q f_code a_tape a_size a_fault a_faultPlace a_many a_lands a_evenings a_sights a_choirs f_reached f_length f_begins f_sort f_value f_word f_wrongAt f_laterFault f_laterPlace a_told a_read f_farHut f_farSinger f_good f_land f_huts f_singers f_evening a_at a_knows a_climbed a_snow a_level f_begun f_minute f_avalanches a_run a_covers a_routes a_longest a_steep a_laid a_far f_sight a_runs f_choir f_voices a_rest a_wins f_seed a_other a_kept H)
    (hS : va_S (mA q) s.heap H locs)
    (hl : lv_has ls 4 [(0, .ref q), (1, .int x1), (2, .int x2)])
    (hw : q_m_goesDown_132 a_lands f_land a_routes a_longest a_steep x1 x2 y0 y1 post) :
    W p l e rm_m_goesDown s m args below meth c H locs 0 0 (MQ below (zQv (S := (Nat → Int32) × (Nat → Int32) × (Nat → Int32)) (fun u => post u.1 u.2.1 u.2.2) (fun u H => mW E q f_code a_tape a_size a_fault a_faultPlace a_many a_lands a_evenings a_sights a_choirs f_reached f_length f_begins f_sort f_value f_word f_wrongAt f_laterFault f_laterPlace a_told a_read f_farHut f_farSinger f_good f_land f_huts f_singers f_evening a_at a_knows a_climbed a_snow a_level f_begun f_minute f_avalanches a_run a_covers u.1 u.2.1 u.2.2 a_laid a_far f_sight a_runs f_choir f_voices a_rest a_wins f_seed a_other a_kept H) (mA q)) args s 0 0 (mA q)) (F0 m 132 ls [.int y1, .int y0, .ref (q + 20)]) := by
  have hx := zc.1
  have hb := zc.2.1
  refine mst_20 zc hK hM hS hw.1 dX11_goesDown_132 (fun a_longest_1 H locs ea_longest_1 hM hS => ?_)
  have hw := hw.2 a_longest_1 ea_longest_1
  refine lv_aload_n hx hb dX11_goesDown_133 rfl (lv_at hl 0 rfl) ?_
  refine mg_11_65_0 zc hK hM dX11_goesDown_134 ?_
  refine lv_iload_n hx hb dX11_goesDown_137 rfl (lv_at hl 2 rfl) ?_
  refine lv_dup2_11 hx hb dX11_goesDown_138 rfl rfl ?_
  refine mld_19 zc hK hM hw.1 dX11_goesDown_139 ?_
  have hw := hw.2
  refine lv_aload_n hx hb dX11_goesDown_140 rfl (lv_at hl 0 rfl) ?_
  refine mg_11_65_0 zc hK hM dX11_goesDown_141 ?_
  refine lv_iload_n hx hb dX11_goesDown_144 rfl (lv_at hl 1 rfl) ?_
  refine mld_19 zc hK hM hw.1 dX11_goesDown_145 ?_
  have hw := hw.2
  refine lv_iadd hx hb dX11_goesDown_146 ?_
  refine lv_topi (fun v_1 ev_1 => ?_)
  have hw := hw v_1 ev_1
  refine mst_19 zc hK hM hS hw.1 dX11_goesDown_147 (fun a_routes_1 H locs ea_routes_1 hM hS => ?_)
  have hw := hw.2 a_routes_1 ea_routes_1
  exact zret_vw ⟨a_routes_1, a_longest_1, a_steep⟩ zc hS hw hM dX11_goesDown_148
set_option maxRecDepth 20000 in
theorem t_m_goesDown_89 {p : Program} {l : Launch} {e : Env} {s : State} {m : MethodId} {args : Array Value} {below : List Frame} {meth : Method} {c : Code} {E : zE} {q : Nat} {f_code : Int32} {a_tape : Nat → Int32} {a_size : Nat → Int32} {a_fault : Nat → Int32} {a_faultPlace : Nat → Int32} {a_many : Nat → Int32} {a_lands : Nat → Int32} {a_evenings : Nat → Int32} {a_sights : Nat → Int32} {a_choirs : Nat → Int32} {f_reached : Int32} {f_length : Int32} {f_begins : Int32} {f_sort : Int32} {f_value : Int32} {f_word : Int64} {f_wrongAt : Int32} {f_laterFault : Int32} {f_laterPlace : Int32} {a_told : Nat → Int32} {a_read : Nat → Int32} {f_farHut : Int32} {f_farSinger : Int32} {f_good : Int32} {f_land : Int32} {f_huts : Int32} {f_singers : Int32} {f_evening : Int32} {a_at : Nat → Int32} {a_knows : Nat → Int32} {a_climbed : Nat → Int32} {a_snow : Nat → Int32} {a_level : Nat → Int32} {f_begun : Int32} {f_minute : Int32} {f_avalanches : Int32} {a_run : Nat → Int32} {a_covers : Nat → Int32} {a_routes : Nat → Int32} {a_longest : Nat → Int32} {a_steep : Nat → Int32} {a_laid : Nat → Int32} {a_far : Nat → Int32} {f_sight : Int32} {a_runs : Nat → Int32} {f_choir : Int32} {f_voices : Int32} {a_rest : Nat → Int64} {a_wins : Nat → Int32} {f_seed : Int32} {a_other : Nat → Int32} {a_kept : Nat → Int32} {post : (Nat → Int32) → (Nat → Int32) → (Nat → Int32) → Prop} {x1 : Int32} {x2 : Int32} {y0 : Int32} {y1 : Int32} {ls : Array Slot} {H : Heap} {locs : List Loc}
    (zc : zC p s m args meth c cX11_goesDown 4 RX11 none)
    (hK : zK E s)
    (hM : mW E q f_code a_tape a_size a_fault a_faultPlace a_many a_lands a_evenings a_sights a_choirs f_reached f_length f_begins f_sort f_value f_word f_wrongAt f_laterFault f_laterPlace a_told a_read f_farHut f_farSinger f_good f_land f_huts f_singers f_evening a_at a_knows a_climbed a_snow a_level f_begun f_minute f_avalanches a_run a_covers a_routes a_longest a_steep a_laid a_far f_sight a_runs f_choir f_voices a_rest a_wins f_seed a_other a_kept H)
    (hS : va_S (mA q) s.heap H locs)
    (hl : lv_has ls 4 [(0, .ref q), (1, .int x1), (2, .int x2)])
    (hw : q_m_goesDown_89 a_lands f_land a_routes a_longest a_steep x1 x2 y0 y1 post) :
    W p l e rm_m_goesDown s m args below meth c H locs 0 0 (MQ below (zQv (S := (Nat → Int32) × (Nat → Int32) × (Nat → Int32)) (fun u => post u.1 u.2.1 u.2.2) (fun u H => mW E q f_code a_tape a_size a_fault a_faultPlace a_many a_lands a_evenings a_sights a_choirs f_reached f_length f_begins f_sort f_value f_word f_wrongAt f_laterFault f_laterPlace a_told a_read f_farHut f_farSinger f_good f_land f_huts f_singers f_evening a_at a_knows a_climbed a_snow a_level f_begun f_minute f_avalanches a_run a_covers u.1 u.2.1 u.2.2 a_laid a_far f_sight a_runs f_choir f_voices a_rest a_wins f_seed a_other a_kept H) (mA q)) args s 0 0 (mA q)) (F0 m 89 ls [.int y1, .int y0, .ref (q + 21)]) := by
  have hx := zc.1
  have hb := zc.2.1
  refine mst_21 zc hK hM hS hw.1 dX11_goesDown_89 (fun a_steep_1 H locs ea_steep_1 hM hS => ?_)
  have hw := hw.2 a_steep_1 ea_steep_1
  refine lv_aload_n hx hb dX11_goesDown_90 rfl (lv_at hl 0 rfl) ?_
  refine mg_11_68_0 zc hK hM dX11_goesDown_91 ?_
  refine lv_iload_n hx hb dX11_goesDown_94 rfl (lv_at hl 2 rfl) ?_
  refine lv_aload_n hx hb dX11_goesDown_95 rfl (lv_at hl 0 rfl) ?_
  refine mg_11_65_0 zc hK hM dX11_goesDown_96 ?_
  refine lv_iload_n hx hb dX11_goesDown_99 rfl (lv_at hl 2 rfl) ?_
  refine mld_19 zc hK hM hw.1 dX11_goesDown_100 ?_
  have hw := hw.2
  refine lv_if_ne (tgt := 115) hx hb dX11_goesDown_101 (by decide) (fun hc => ?_) (fun hc => ?_)
  · have hw := hw.1 hc
    refine lv_aload_n hx hb dX11_goesDown_115 rfl (lv_at hl 0 rfl) ?_
    refine mg_11_68_0 zc hK hM dX11_goesDown_116 ?_
    refine lv_iload_n hx hb dX11_goesDown_119 rfl (lv_at hl 2 rfl) ?_
    refine mld_20 zc hK hM hw.1 dX11_goesDown_120 ?_
    have hw := hw.2
    refine lv_aload_n hx hb dX11_goesDown_121 rfl (lv_at hl 0 rfl) ?_
    refine mg_11_68_0 zc hK hM dX11_goesDown_122 ?_
    refine lv_iload_n hx hb dX11_goesDown_125 rfl (lv_at hl 1 rfl) ?_
    refine mld_20 zc hK hM hw.1 dX11_goesDown_126 ?_
    have hw := hw.2
    refine lv_iconst (v := (1 : Int32)) hx hb dX11_goesDown_127 (by decide) ?_
    refine lv_iadd hx hb dX11_goesDown_128 ?_
    refine zS_i [.int (a_longest (Int32.toNatClampNeg x2)), .int ((a_longest (Int32.toNatClampNeg x1)) + (1 : Int32))] [.int x2, .ref (q + 20)] zc ky_X11_greater kz_X11_greater km_11_171 (c_m_greater l hw) (zPre0 _) rfl rfl hl.1 (Nat.le_of_ble_eq_true rfl) ⟨rfl, rfl⟩ ⟨Nat.le_of_ble_eq_true rfl, Nat.le_of_ble_eq_true rfl⟩ ⟨(Nat.zero_le _), (Nat.zero_le _)⟩ dX11_goesDown_129 (fun r_1 hw => ?_)
    exact t_m_goesDown_132 zc hK hM hS  (lv_sub hl [0, 1, 2] rfl) hw
  · have hw := hw.2 hc
    refine lv_aload_n hx hb dX11_goesDown_104 rfl (lv_at hl 0 rfl) ?_
    refine mg_11_68_0 zc hK hM dX11_goesDown_105 ?_
    refine lv_iload_n hx hb dX11_goesDown_108 rfl (lv_at hl 1 rfl) ?_
    refine mld_20 zc hK hM hw.1 dX11_goesDown_109 ?_
    have hw := hw.2
    refine lv_iconst (v := (1 : Int32)) hx hb dX11_goesDown_110 (by decide) ?_
    refine lv_iadd hx hb dX11_goesDown_111 ?_
    refine lv_goto (tgt := 132) hx hb dX11_goesDown_112 (by decide) ?_
    exact t_m_goesDown_132 zc hK hM hS  (lv_sub hl [0, 1, 2] rfl) hw
set_option maxRecDepth 20000 in
theorem t_m_goesDown_0 {p : Program} {l : Launch} {e : Env} {s : State} {m : MethodId} {args : Array Value} {below : List Frame} {meth : Method} {c : Code} {E : zE} {q : Nat} {f_code : Int32} {a_tape : Nat → Int32} {a_size : Nat → Int32} {a_fault : Nat → Int32} {a_faultPlace : Nat → Int32} {a_many : Nat → Int32} {a_lands : Nat → Int32} {a_evenings : Nat → Int32} {a_sights : Nat → Int32} {a_choirs : Nat → Int32} {f_reached : Int32} {f_length : Int32} {f_begins : Int32} {f_sort : Int32} {f_value : Int32} {f_word : Int64} {f_wrongAt : Int32} {f_laterFault : Int32} {f_laterPlace : Int32} {a_told : Nat → Int32} {a_read : Nat → Int32} {f_farHut : Int32} {f_farSinger : Int32} {f_good : Int32} {f_land : Int32} {f_huts : Int32} {f_singers : Int32} {f_evening : Int32} {a_at : Nat → Int32} {a_knows : Nat → Int32} {a_climbed : Nat → Int32} {a_snow : Nat → Int32} {a_level : Nat → Int32} {f_begun : Int32} {f_minute : Int32} {f_avalanches : Int32} {a_run : Nat → Int32} {a_covers : Nat → Int32} {a_routes : Nat → Int32} {a_longest : Nat → Int32} {a_steep : Nat → Int32} {a_laid : Nat → Int32} {a_far : Nat → Int32} {f_sight : Int32} {a_runs : Nat → Int32} {f_choir : Int32} {f_voices : Int32} {a_rest : Nat → Int64} {a_wins : Nat → Int32} {f_seed : Int32} {a_other : Nat → Int32} {a_kept : Nat → Int32} {post : (Nat → Int32) → (Nat → Int32) → (Nat → Int32) → Prop} {x1 : Int32} {x2 : Int32} {ls : Array Slot} {H : Heap} {locs : List Loc}
    (zc : zC p s m args meth c cX11_goesDown 4 RX11 none)
    (hK : zK E s)
    (hM : mW E q f_code a_tape a_size a_fault a_faultPlace a_many a_lands a_evenings a_sights a_choirs f_reached f_length f_begins f_sort f_value f_word f_wrongAt f_laterFault f_laterPlace a_told a_read f_farHut f_farSinger f_good f_land f_huts f_singers f_evening a_at a_knows a_climbed a_snow a_level f_begun f_minute f_avalanches a_run a_covers a_routes a_longest a_steep a_laid a_far f_sight a_runs f_choir f_voices a_rest a_wins f_seed a_other a_kept H)
    (hS : va_S (mA q) s.heap H locs)
    (hl : lv_has ls 4 [(0, .ref q), (1, .int x1), (2, .int x2)])
    (hw : q_m_goesDown_0 a_lands f_land a_routes a_longest a_steep x1 x2 post) :
    W p l e rm_m_goesDown s m args below meth c H locs 0 0 (MQ below (zQv (S := (Nat → Int32) × (Nat → Int32) × (Nat → Int32)) (fun u => post u.1 u.2.1 u.2.2) (fun u H => mW E q f_code a_tape a_size a_fault a_faultPlace a_many a_lands a_evenings a_sights a_choirs f_reached f_length f_begins f_sort f_value f_word f_wrongAt f_laterFault f_laterPlace a_told a_read f_farHut f_farSinger f_good f_land f_huts f_singers f_evening a_at a_knows a_climbed a_snow a_level f_begun f_minute f_avalanches a_run a_covers u.1 u.2.1 u.2.2 a_laid a_far f_sight a_runs f_choir f_voices a_rest a_wins f_seed a_other a_kept H) (mA q)) args s 0 0 (mA q)) (F0 m 0 ls []) := by
  have hx := zc.1
  have hb := zc.2.1
  refine lv_aload_n hx hb dX11_goesDown_0 rfl (lv_at hl 0 rfl) ?_
  refine lv_iload_n hx hb dX11_goesDown_1 rfl (lv_at hl 1 rfl) ?_
  refine lv_iload_n hx hb dX11_goesDown_2 rfl (lv_at hl 2 rfl) ?_
  refine zV_i [.int x1, .int x2] [] zc ky_X11_way kz_X11_way km_11_319 (c_m_way l hw) (mPreV0 hK hM) rfl rfl hl.1 (Nat.le_of_ble_eq_true rfl) ⟨rfl, rfl⟩ ⟨Nat.le_of_ble_eq_true rfl, Nat.le_of_ble_eq_true rfl⟩ ⟨(Nat.zero_le _), (Nat.zero_le _)⟩ dX11_goesDown_3 (fun r_1 hw => ?_)
  refine lv_if_eq (tgt := 39) hx hb dX11_goesDown_6 (by decide) (fun hc => ?_) (fun hc => ?_)
  · have hw := hw.1 hc
    exact zret_vw ⟨a_routes, a_longest, a_steep⟩ zc hS hw hM dX11_goesDown_39
  · have hw := hw.2 hc
    refine lv_aload_n hx hb dX11_goesDown_9 rfl (lv_at hl 0 rfl) ?_
    refine lv_iload_n hx hb dX11_goesDown_10 rfl (lv_at hl 2 rfl) ?_
    refine zV_i [.int x2] [] zc ky_X11_height kz_X11_height km_11_322 (c_m_height l hw) (mPreV0 hK hM) rfl rfl hl.1 (Nat.le_of_ble_eq_true rfl) ⟨rfl, rfl⟩ ⟨Nat.le_of_ble_eq_true rfl, Nat.le_of_ble_eq_true rfl⟩ ⟨(Nat.zero_le _), (Nat.zero_le _)⟩ dX11_goesDown_11 (fun r_2 hw => ?_)
    refine lv_aload_n hx hb dX11_goesDown_14 rfl (lv_at hl 0 rfl) ?_
    refine lv_iload_n hx hb dX11_goesDown_15 rfl (lv_at hl 1 rfl) ?_
    refine zV_i [.int x1] [.int r_2] zc ky_X11_height kz_X11_height km_11_322 (c_m_height l hw) (mPreV0 hK hM) rfl rfl hl.1 (Nat.le_of_ble_eq_true rfl) ⟨rfl, rfl⟩ ⟨Nat.le_of_ble_eq_true rfl, Nat.le_of_ble_eq_true rfl⟩ ⟨(Nat.zero_le _), (Nat.zero_le _)⟩ dX11_goesDown_16 (fun r_3 hw => ?_)
    refine lv_icmp_ge (tgt := 39) hx hb dX11_goesDown_19 (by decide) (fun hc => ?_) (fun hc => ?_)
    · have hw := hw.1 hc
      exact zret_vw ⟨a_routes, a_longest, a_steep⟩ zc hS hw hM dX11_goesDown_39
    · have hw := hw.2 hc
      refine lv_aload_n hx hb dX11_goesDown_22 rfl (lv_at hl 0 rfl) ?_
      refine lv_iload_n hx hb dX11_goesDown_23 rfl (lv_at hl 2 rfl) ?_
      refine zV_i [.int x2] [] zc ky_X11_isDam kz_X11_isDam km_11_355 (c_m_isDam l hw) (mPreV0 hK hM) rfl rfl hl.1 (Nat.le_of_ble_eq_true rfl) ⟨rfl, rfl⟩ ⟨Nat.le_of_ble_eq_true rfl, Nat.le_of_ble_eq_true rfl⟩ ⟨(Nat.zero_le _), (Nat.zero_le _)⟩ dX11_goesDown_24 (fun r_4 hw => ?_)
      refine lv_if_ne (tgt := 39) hx hb dX11_goesDown_27 (by decide) (fun hc => ?_) (fun hc => ?_)
      · have hw := hw.1 hc
        exact zret_vw ⟨a_routes, a_longest, a_steep⟩ zc hS hw hM dX11_goesDown_39
      · have hw := hw.2 hc
        refine lv_aload_n hx hb dX11_goesDown_30 rfl (lv_at hl 0 rfl) ?_
        refine mg_11_65_0 zc hK hM dX11_goesDown_31 ?_
        refine lv_iload_n hx hb dX11_goesDown_34 rfl (lv_at hl 1 rfl) ?_
        refine mld_19 zc hK hM hw.1 dX11_goesDown_35 ?_
        have hw := hw.2
        refine lv_if_ne (tgt := 40) hx hb dX11_goesDown_36 (by decide) (fun hc => ?_) (fun hc => ?_)
        · have hw := hw.1 hc
          refine lv_aload_n hx hb dX11_goesDown_40 rfl (lv_at hl 0 rfl) ?_
          refine mg_11_71_0 zc hK hM dX11_goesDown_41 ?_
          refine lv_iload_n hx hb dX11_goesDown_44 rfl (lv_at hl 1 rfl) ?_
          refine mld_21 zc hK hM hw.1 dX11_goesDown_45 ?_
          have hw := hw.2
          refine lv_aload_n hx hb dX11_goesDown_46 rfl (lv_at hl 0 rfl) ?_
          refine lv_iload_n hx hb dX11_goesDown_47 rfl (lv_at hl 1 rfl) ?_
          refine zV_i [.int x1] [.int (a_steep (Int32.toNatClampNeg x1))] zc ky_X11_height kz_X11_height km_11_322 (c_m_height l hw) (mPreV0 hK hM) rfl rfl hl.1 (Nat.le_of_ble_eq_true rfl) ⟨rfl, rfl⟩ ⟨Nat.le_of_ble_eq_true rfl, Nat.le_of_ble_eq_true rfl⟩ ⟨(Nat.zero_le _), (Nat.zero_le _)⟩ dX11_goesDown_48 (fun r_5 hw => ?_)
          refine lv_aload_n hx hb dX11_goesDown_51 rfl (lv_at hl 0 rfl) ?_
          refine lv_iload_n hx hb dX11_goesDown_52 rfl (lv_at hl 2 rfl) ?_
          refine zV_i [.int x2] [.int r_5, .int (a_steep (Int32.toNatClampNeg x1))] zc ky_X11_height kz_X11_height km_11_322 (c_m_height l hw) (mPreV0 hK hM) rfl rfl hl.1 (Nat.le_of_ble_eq_true rfl) ⟨rfl, rfl⟩ ⟨Nat.le_of_ble_eq_true rfl, Nat.le_of_ble_eq_true rfl⟩ ⟨(Nat.zero_le _), (Nat.zero_le _)⟩ dX11_goesDown_53 (fun r_6 hw => ?_)
          refine lv_isub hx hb dX11_goesDown_56 ?_
          refine zS_i [.int (a_steep (Int32.toNatClampNeg x1)), .int (r_5 - r_6)] [] zc ky_X11_greater kz_X11_greater km_11_171 (c_m_greater l hw) (zPre0 _) rfl rfl hl.1 (Nat.le_of_ble_eq_true rfl) ⟨rfl, rfl⟩ ⟨Nat.le_of_ble_eq_true rfl, Nat.le_of_ble_eq_true rfl⟩ ⟨(Nat.zero_le _), (Nat.zero_le _)⟩ dX11_goesDown_57 (fun r_7 hw => ?_)
          refine lv_istore_n (lv' := [(3, .int r_7), (0, .ref q), (1, .int x1), (2, .int x2)]) hx hb dX11_goesDown_60 rfl hl (by decide) rfl (fun ls hl => ?_)
          refine lv_aload_n hx hb dX11_goesDown_61 rfl (lv_at hl 1 rfl) ?_
          refine mg_11_71_0 zc hK hM dX11_goesDown_62 ?_
          refine lv_iload_n hx hb dX11_goesDown_65 rfl (lv_at hl 3 rfl) ?_
          refine lv_aload_n hx hb dX11_goesDown_66 rfl (lv_at hl 1 rfl) ?_
          refine mg_11_65_0 zc hK hM dX11_goesDown_67 ?_
          refine lv_iload_n hx hb dX11_goesDown_70 rfl (lv_at hl 3 rfl) ?_
          refine mld_19 zc hK hM hw.1 dX11_goesDown_71 ?_
          have hw := hw.2
          refine lv_if_ne (tgt := 79) hx hb dX11_goesDown_72 (by decide) (fun hc => ?_) (fun hc => ?_)
          · have hw := hw.1 hc
            refine lv_aload_n hx hb dX11_goesDown_79 rfl (lv_at hl 1 rfl) ?_
            refine mg_11_71_0 zc hK hM dX11_goesDown_80 ?_
            refine lv_iload_n hx hb dX11_goesDown_83 rfl (lv_at hl 3 rfl) ?_
            refine mld_21 zc hK hM hw.1 dX11_goesDown_84 ?_
            have hw := hw.2
            refine lv_iload_n hx hb dX11_goesDown_85 rfl (lv_at hl 0 rfl) ?_
            refine zS_i [.int (a_steep (Int32.toNatClampNeg x2)), .int r_7] [.int x2, .ref (q + 21)] zc ky_X11_lesser kz_X11_lesser km_11_411 (c_m_lesser l hw) (zPre0 _) rfl rfl hl.1 (Nat.le_of_ble_eq_true rfl) ⟨rfl, rfl⟩ ⟨Nat.le_of_ble_eq_true rfl, Nat.le_of_ble_eq_true rfl⟩ ⟨(Nat.zero_le _), (Nat.zero_le _)⟩ dX11_goesDown_86 (fun r_8 hw => ?_)
            exact t_m_goesDown_89 zc hK hM hS  (lv_sub hl [1, 2, 3] rfl) hw
          · have hw := hw.2 hc
            refine lv_iload_n hx hb dX11_goesDown_75 rfl (lv_at hl 0 rfl) ?_
            refine lv_goto (tgt := 89) hx hb dX11_goesDown_76 (by decide) ?_
            exact t_m_goesDown_89 zc hK hM hS  (lv_sub hl [1, 2, 3] rfl) hw
        · have hw := hw.2 hc
          exact zret_vw ⟨a_routes, a_longest, a_steep⟩ zc hS hw hM dX11_goesDown_39
set_option maxRecDepth 20000 in
theorem c_m_goesDown (l : Launch) {E : zE} {q : Nat} {f_code : Int32} {a_tape : Nat → Int32} {a_size : Nat → Int32} {a_fault : Nat → Int32} {a_faultPlace : Nat → Int32} {a_many : Nat → Int32} {a_lands : Nat → Int32} {a_evenings : Nat → Int32} {a_sights : Nat → Int32} {a_choirs : Nat → Int32} {f_reached : Int32} {f_length : Int32} {f_begins : Int32} {f_sort : Int32} {f_value : Int32} {f_word : Int64} {f_wrongAt : Int32} {f_laterFault : Int32} {f_laterPlace : Int32} {a_told : Nat → Int32} {a_read : Nat → Int32} {f_farHut : Int32} {f_farSinger : Int32} {f_good : Int32} {f_land : Int32} {f_huts : Int32} {f_singers : Int32} {f_evening : Int32} {a_at : Nat → Int32} {a_knows : Nat → Int32} {a_climbed : Nat → Int32} {a_snow : Nat → Int32} {a_level : Nat → Int32} {f_begun : Int32} {f_minute : Int32} {f_avalanches : Int32} {a_run : Nat → Int32} {a_covers : Nat → Int32} {a_routes : Nat → Int32} {a_longest : Nat → Int32} {a_steep : Nat → Int32} {a_laid : Nat → Int32} {a_far : Nat → Int32} {f_sight : Int32} {a_runs : Nat → Int32} {f_choir : Int32} {f_voices : Int32} {a_rest : Nat → Int64} {a_wins : Nat → Int32} {f_seed : Int32} {a_other : Nat → Int32} {a_kept : Nat → Int32} {x1 : Int32} {x2 : Int32} {post : (Nat → Int32) → (Nat → Int32) → (Nat → Int32) → Prop} (hw : q_m_goesDown_0 a_lands f_land a_routes a_longest a_steep x1 x2 post) : Met l yX11_goesDown (Cond.code yX11_goesDown cX11_goesDown 4 none :: zb) rm_m_goesDown (va_Pc [.ref q, .int x1, .int x2] (fun U => mW E q f_code a_tape a_size a_fault a_faultPlace a_many a_lands a_evenings a_sights a_choirs f_reached f_length f_begins f_sort f_value f_word f_wrongAt f_laterFault f_laterPlace a_told a_read f_farHut f_farSinger f_good f_land f_huts f_singers f_evening a_at a_knows a_climbed a_snow a_level f_begun f_minute f_avalanches a_run a_covers a_routes a_longest a_steep a_laid a_far f_sight a_runs f_choir f_voices a_rest a_wins f_seed a_other a_kept U.heap ∧ zK E U)) (zQv (S := (Nat → Int32) × (Nat → Int32) × (Nat → Int32)) (fun u => post u.1 u.2.1 u.2.2) (fun u H => mW E q f_code a_tape a_size a_fault a_faultPlace a_many a_lands a_evenings a_sights a_choirs f_reached f_length f_begins f_sort f_value f_word f_wrongAt f_laterFault f_laterPlace a_told a_read f_farHut f_farSinger f_good f_land f_huts f_singers f_evening a_at a_knows a_climbed a_snow a_level f_begun f_minute f_avalanches a_run a_covers u.1 u.2.1 u.2.2 a_laid a_far f_sight a_runs f_choir f_voices a_rest a_wins f_seed a_other a_kept H) (mA q)) 0 0 (mA q) := by
  refine Met.ofW (cc := cX11_goesDown) (maxL := 4) (ret := none) (by decide) rfl ?_
  intro p e s m args below meth c s₁ B hml hv
  obtain ⟨rfl, hM, hK⟩ := hv
  have zc := zc_of B hml
  have hl := lv_entry ([.ref q, .int x1, .int x2]) (n := 4) (Nat.le_of_ble_eq_true rfl)
  rw [lg_entry_eq]
  generalize (lg_sl ([.ref q, .int x1, .int x2]) ++ List.replicate (4 - (lg_sl ([.ref q, .int x1, .int x2])).length) Slot.unset).toArray = ls at hl ⊢
  have hl : lv_has ls 4 [(0, .ref q), (1, .int x1), (2, .int x2)] := hl
  exact t_m_goesDown_0 zc hK hM va_S.rf (lv_sub hl [0, 1, 2] rfl) hw
end
