-- m_four
abbrev rm_m_four : Room := { frames := 0, cells := 0, slots := 0, locals := 0 }
def q_m_four_3 (a_tape : Nat → Int32) (a_size : Nat → Int32) (x1 : Int32) (x2 : Int32) (post : (Nat → Int32) → (Nat → Int32) → Prop) : Prop :=
  ∀ P3 : Int32 → (Nat → Int32) → (Nat → Int32) → Prop, (∀ (x2 : Int32) (a_tape : Nat → Int32) (a_size : Nat → Int32), ((x2 < 0 → (post a_tape a_size)) ∧ (¬ x2 < 0 → (∀ v_1 : Int32, v_1 = (Int32.toInt8 (x1 >>> (x2 &&& 31))).toInt32 → (vp_in (a_size (Int32.toNatClampNeg (0 : Int32))) 2400 ∧ (∀ a_tape_1 : Nat → Int32, a_tape_1 = upd a_tape (Int32.toNatClampNeg (a_size (Int32.toNatClampNeg (0 : Int32)))) (vp_nar .byte v_1) → (∀ v_2 : Int32, v_2 = ((a_size (Int32.toNatClampNeg (0 : Int32))) + (1 : Int32)) → (∀ a_size_1 : Nat → Int32, a_size_1 = upd a_size (Int32.toNatClampNeg (0 : Int32)) v_2 → (∀ v_3 : Int32, v_3 = x2 + (-8 : Int32) → (P3 v_3 a_tape_1 a_size_1))))))))) → P3 x2 a_tape a_size) → P3 x2 a_tape a_size
def q_m_four_0 (a_tape : Nat → Int32) (a_size : Nat → Int32) (x1 : Int32) (post : (Nat → Int32) → (Nat → Int32) → Prop) : Prop :=
  q_m_four_3 a_tape a_size x1 (24 : Int32) post
set_option maxRecDepth 20000 in
theorem t_m_four_3 {p : Program} {l : Launch} {e : Env} {s : State} {m : MethodId} {args : Array Value} {below : List Frame} {meth : Method} {c : Code} {E : zE} {q : Nat} {f_code : Int32} {a_tape : Nat → Int32} {a_size : Nat → Int32} {a_fault : Nat → Int32} {a_faultPlace : Nat → Int32} {a_many : Nat → Int32} {a_lands : Nat → Int32} {a_evenings : Nat → Int32} {a_sights : Nat → Int32} {a_choirs : Nat → Int32} {f_reached : Int32} {f_length : Int32} {f_begins : Int32} {f_sort : Int32} {f_value : Int32} {f_word : Int64} {f_wrongAt : Int32} {f_laterFault : Int32} {f_laterPlace : Int32} {a_told : Nat → Int32} {a_read : Nat → Int32} {f_farHut : Int32} {f_farSinger : Int32} {f_good : Int32} {f_land : Int32} {f_huts : Int32} {f_singers : Int32} {f_evening : Int32} {a_at : Nat → Int32} {a_knows : Nat → Int32} {a_climbed : Nat → Int32} {a_snow : Nat → Int32} {a_level : Nat → Int32} {f_begun : Int32} {f_minute : Int32} {f_avalanches : Int32} {a_run : Nat → Int32} {a_covers : Nat → Int32} {a_routes : Nat → Int32} {a_longest : Nat → Int32} {a_steep : Nat → Int32} {a_laid : Nat → Int32} {a_far : Nat → Int32} {f_sight : Int32} {a_runs : Nat → Int32} {f_choir : Int32} {f_voices : Int32} {a_rest : Nat → Int64} {a_wins : Nat → Int32} {f_seed : Int32} {a_other : Nat → Int32} {a_kept : Nat → Int32} {post : (Nat → Int32) → (Nat → Int32) → Prop} {x1 : Int32} {x2 : Int32} {ls : Array Slot} {H : Heap} {locs : List Loc}
    (zc : zC p s m args meth c cX11_four 3 RX11 none)
    (hK : zK E s)
    (hM : mW E q f_code a_tape a_size a_fault a_faultPlace a_many a_lands a_evenings a_sights a_choirs f_reached f_length f_begins f_sort f_value f_word f_wrongAt f_laterFault f_laterPlace a_told a_read f_farHut f_farSinger f_good f_land f_huts f_singers f_evening a_at a_knows a_climbed a_snow a_level f_begun f_minute f_avalanches a_run a_covers a_routes a_longest a_steep a_laid a_far f_sight a_runs f_choir f_voices a_rest a_wins f_seed a_other a_kept H)
    (hS : va_S (mA q) s.heap H locs)
    (hl : lv_has ls 3 [(0, .ref q), (1, .int x1), (2, .int x2)])
    (hw : q_m_four_3 a_tape a_size x1 x2 post) :
    W p l e rm_m_four s m args below meth c H locs 0 0 (MQ below (zQv (S := (Nat → Int32) × (Nat → Int32)) (fun u => post u.1 u.2) (fun u H => mW E q f_code u.1 u.2 a_fault a_faultPlace a_many a_lands a_evenings a_sights a_choirs f_reached f_length f_begins f_sort f_value f_word f_wrongAt f_laterFault f_laterPlace a_told a_read f_farHut f_farSinger f_good f_land f_huts f_singers f_evening a_at a_knows a_climbed a_snow a_level f_begun f_minute f_avalanches a_run a_covers a_routes a_longest a_steep a_laid a_far f_sight a_runs f_choir f_voices a_rest a_wins f_seed a_other a_kept H) (mA q)) args s 0 0 (mA q)) (F0 m 3 ls []) := by
  have hx := zc.1
  have hb := zc.2.1
  refine hw (fun x2 a_tape a_size => ∀ (H : Heap) (locs : List Loc) (ls : Array Slot), lv_has ls 3 [(0, .ref q), (1, .int x1), (2, .int x2)] → mW E q f_code a_tape a_size a_fault a_faultPlace a_many a_lands a_evenings a_sights a_choirs f_reached f_length f_begins f_sort f_value f_word f_wrongAt f_laterFault f_laterPlace a_told a_read f_farHut f_farSinger f_good f_land f_huts f_singers f_evening a_at a_knows a_climbed a_snow a_level f_begun f_minute f_avalanches a_run a_covers a_routes a_longest a_steep a_laid a_far f_sight a_runs f_choir f_voices a_rest a_wins f_seed a_other a_kept H → va_S (mA q) s.heap H locs → W p l e rm_m_four s m args below meth c H locs 0 0 (MQ below (zQv (S := (Nat → Int32) × (Nat → Int32)) (fun u => post u.1 u.2) (fun u H => mW E q f_code u.1 u.2 a_fault a_faultPlace a_many a_lands a_evenings a_sights a_choirs f_reached f_length f_begins f_sort f_value f_word f_wrongAt f_laterFault f_laterPlace a_told a_read f_farHut f_farSinger f_good f_land f_huts f_singers f_evening a_at a_knows a_climbed a_snow a_level f_begun f_minute f_avalanches a_run a_covers a_routes a_longest a_steep a_laid a_far f_sight a_runs f_choir f_voices a_rest a_wins f_seed a_other a_kept H) (mA q)) args s 0 0 (mA q)) (F0 m 3 ls [])) ?_ _ _ _ hl hM hS
  intro x2 a_tape a_size hw H locs ls hl hM hS
  refine lv_iload_n hx hb dX11_four_3 rfl (lv_at hl 2 rfl) ?_
  refine lv_if_lt (tgt := 38) hx hb dX11_four_4 (by decide) (fun hc => ?_) (fun hc => ?_)
  · have hw := hw.1 hc
    exact zret_vw ⟨a_tape, a_size⟩ zc hS hw hM dX11_four_38
  · have hw := hw.2 hc
    refine lv_aload_n hx hb dX11_four_7 rfl (lv_at hl 0 rfl) ?_
    refine mg_11_7_0 zc hK hM dX11_four_8 ?_
    refine lv_aload_n hx hb dX11_four_11 rfl (lv_at hl 0 rfl) ?_
    refine mg_11_13_0 zc hK hM dX11_four_12 ?_
    refine lv_iconst (v := (0 : Int32)) hx hb dX11_four_15 (by decide) ?_
    refine mld_2 zc hK hM (by unfold vp_in; decide) dX11_four_16 ?_
    refine lv_iload_n hx hb dX11_four_17 rfl (lv_at hl 1 rfl) ?_
    refine lv_iload_n hx hb dX11_four_18 rfl (lv_at hl 2 rfl) ?_
    refine lv_ishr hx hb dX11_four_19 ?_
    refine lv_i2b hx hb dX11_four_20 rfl ?_
    refine lv_topi (fun v_1 ev_1 => ?_)
    have hw := hw v_1 ev_1
    refine mst_1 zc hK hM hS hw.1 dX11_four_21 (fun a_tape_1 H locs ea_tape_1 hM hS => ?_)
    have hw := hw.2 a_tape_1 ea_tape_1
    refine lv_aload_n hx hb dX11_four_22 rfl (lv_at hl 0 rfl) ?_
    refine mg_11_13_0 zc hK hM dX11_four_23 ?_
    refine lv_iconst (v := (0 : Int32)) hx hb dX11_four_26 (by decide) ?_
    refine lv_dup2_11 hx hb dX11_four_27 rfl rfl ?_
    refine mld_2 zc hK hM (by unfold vp_in; decide) dX11_four_28 ?_
    refine lv_iconst (v := (1 : Int32)) hx hb dX11_four_29 (by decide) ?_
    refine lv_iadd hx hb dX11_four_30 ?_
    refine lv_topi (fun v_2 ev_2 => ?_)
    have hw := hw v_2 ev_2
    refine mst_2 zc hK hM hS (by unfold vp_in; decide) dX11_four_31 (fun a_size_1 H locs ea_size_1 hM hS => ?_)
    have hw := hw a_size_1 ea_size_1
    obtain ⟨v_3, ev_3⟩ : ∃ y : Int32, y = x2 + (-8 : Int32) := ⟨_, rfl⟩
    have hw := hw v_3 ev_3
    refine lv_iinc (v := v_3) (k := 2) (lv' := [(2, .int v_3), (0, .ref q), (1, .int x1)]) hx hb dX11_four_32 hl rfl (by rw [ev_3]; rfl) (by decide) rfl (fun ls hl => ?_)
    refine lv_goto (tgt := 3) hx hb dX11_four_35 (by decide) ?_
    exact hw _ _ _ (lv_sub hl [1, 2, 0] rfl) hM hS
set_option maxRecDepth 20000 in
theorem t_m_four_0 {p : Program} {l : Launch} {e : Env} {s : State} {m : MethodId} {args : Array Value} {below : List Frame} {meth : Method} {c : Code} {E : zE} {q : Nat} {f_code : Int32} {a_tape : Nat → Int32} {a_size : Nat → Int32} {a_fault : Nat → Int32} {a_faultPlace : Nat → Int32} {a_many : Nat → Int32} {a_lands : Nat → Int32} {a_evenings : Nat → Int32} {a_sights : Nat → Int32} {a_choirs : Nat → Int32} {f_reached : Int32} {f_length : Int32} {f_begins : Int32} {f_sort : Int32} {f_value : Int32} {f_word : Int64} {f_wrongAt : Int32} {f_laterFault : Int32} {f_laterPlace : Int32} {a_told : Nat → Int32} {a_read : Nat → Int32} {f_farHut : Int32} {f_farSinger : Int32} {f_good : Int32} {f_land : Int32} {f_huts : Int32} {f_singers : Int32} {f_evening : Int32} {a_at : Nat → Int32} {a_knows : Nat → Int32} {a_climbed : Nat → Int32} {a_snow : Nat → Int32} {a_level : Nat → Int32} {f_begun : Int32} {f_minute : Int32} {f_avalanches : Int32} {a_run : Nat → Int32} {a_covers : Nat → Int32} {a_routes : Nat → Int32} {a_longest : Nat → Int32} {a_steep : Nat → Int32} {a_laid : Nat → Int32} {a_far : Nat → Int32} {f_sight : Int32} {a_runs : Nat → Int32} {f_choir : Int32} {f_voices : Int32} {a_rest : Nat → Int64} {a_wins : Nat → Int32} {f_seed : Int32} {a_other : Nat → Int32} {a_kept : Nat → Int32} {post : (Nat → Int32) → (Nat → Int32) → Prop} {x1 : Int32} {ls : Array Slot} {H : Heap} {locs : List Loc}
    (zc : zC p s m args meth c cX11_four 3 RX11 none)
    (hK : zK E s)
    (hM : mW E q f_code a_tape a_size a_fault a_faultPlace a_many a_lands a_evenings a_sights a_choirs f_reached f_length f_begins f_sort f_value f_word f_wrongAt f_laterFault f_laterPlace a_told a_read f_farHut f_farSinger f_good f_land f_huts f_singers f_evening a_at a_knows a_climbed a_snow a_level f_begun f_minute f_avalanches a_run a_covers a_routes a_longest a_steep a_laid a_far f_sight a_runs f_choir f_voices a_rest a_wins f_seed a_other a_kept H)
    (hS : va_S (mA q) s.heap H locs)
    (hl : lv_has ls 3 [(0, .ref q), (1, .int x1)])
    (hw : q_m_four_0 a_tape a_size x1 post) :
    W p l e rm_m_four s m args below meth c H locs 0 0 (MQ below (zQv (S := (Nat → Int32) × (Nat → Int32)) (fun u => post u.1 u.2) (fun u H => mW E q f_code u.1 u.2 a_fault a_faultPlace a_many a_lands a_evenings a_sights a_choirs f_reached f_length f_begins f_sort f_value f_word f_wrongAt f_laterFault f_laterPlace a_told a_read f_farHut f_farSinger f_good f_land f_huts f_singers f_evening a_at a_knows a_climbed a_snow a_level f_begun f_minute f_avalanches a_run a_covers a_routes a_longest a_steep a_laid a_far f_sight a_runs f_choir f_voices a_rest a_wins f_seed a_other a_kept H) (mA q)) args s 0 0 (mA q)) (F0 m 0 ls []) := by
  have hx := zc.1
  have hb := zc.2.1
  refine lv_bipush (v := (24 : Int32)) hx hb dX11_four_0 (by decide) ?_
  refine lv_istore_n (lv' := [(2, .int (24 : Int32)), (0, .ref q), (1, .int x1)]) hx hb dX11_four_2 rfl hl (by decide) rfl (fun ls hl => ?_)
  exact t_m_four_3 zc hK hM hS  (lv_sub hl [1, 2, 0] rfl) hw
set_option maxRecDepth 20000 in
theorem c_m_four (l : Launch) {E : zE} {q : Nat} {f_code : Int32} {a_tape : Nat → Int32} {a_size : Nat → Int32} {a_fault : Nat → Int32} {a_faultPlace : Nat → Int32} {a_many : Nat → Int32} {a_lands : Nat → Int32} {a_evenings : Nat → Int32} {a_sights : Nat → Int32} {a_choirs : Nat → Int32} {f_reached : Int32} {f_length : Int32} {f_begins : Int32} {f_sort : Int32} {f_value : Int32} {f_word : Int64} {f_wrongAt : Int32} {f_laterFault : Int32} {f_laterPlace : Int32} {a_told : Nat → Int32} {a_read : Nat → Int32} {f_farHut : Int32} {f_farSinger : Int32} {f_good : Int32} {f_land : Int32} {f_huts : Int32} {f_singers : Int32} {f_evening : Int32} {a_at : Nat → Int32} {a_knows : Nat → Int32} {a_climbed : Nat → Int32} {a_snow : Nat → Int32} {a_level : Nat → Int32} {f_begun : Int32} {f_minute : Int32} {f_avalanches : Int32} {a_run : Nat → Int32} {a_covers : Nat → Int32} {a_routes : Nat → Int32} {a_longest : Nat → Int32} {a_steep : Nat → Int32} {a_laid : Nat → Int32} {a_far : Nat → Int32} {f_sight : Int32} {a_runs : Nat → Int32} {f_choir : Int32} {f_voices : Int32} {a_rest : Nat → Int64} {a_wins : Nat → Int32} {f_seed : Int32} {a_other : Nat → Int32} {a_kept : Nat → Int32} {x1 : Int32} {post : (Nat → Int32) → (Nat → Int32) → Prop} (hw : q_m_four_0 a_tape a_size x1 post) : Met l yX11_four (Cond.code yX11_four cX11_four 3 none :: zb) rm_m_four (va_Pc [.ref q, .int x1] (fun U => mW E q f_code a_tape a_size a_fault a_faultPlace a_many a_lands a_evenings a_sights a_choirs f_reached f_length f_begins f_sort f_value f_word f_wrongAt f_laterFault f_laterPlace a_told a_read f_farHut f_farSinger f_good f_land f_huts f_singers f_evening a_at a_knows a_climbed a_snow a_level f_begun f_minute f_avalanches a_run a_covers a_routes a_longest a_steep a_laid a_far f_sight a_runs f_choir f_voices a_rest a_wins f_seed a_other a_kept U.heap ∧ zK E U)) (zQv (S := (Nat → Int32) × (Nat → Int32)) (fun u => post u.1 u.2) (fun u H => mW E q f_code u.1 u.2 a_fault a_faultPlace a_many a_lands a_evenings a_sights a_choirs f_reached f_length f_begins f_sort f_value f_word f_wrongAt f_laterFault f_laterPlace a_told a_read f_farHut f_farSinger f_good f_land f_huts f_singers f_evening a_at a_knows a_climbed a_snow a_level f_begun f_minute f_avalanches a_run a_covers a_routes a_longest a_steep a_laid a_far f_sight a_runs f_choir f_voices a_rest a_wins f_seed a_other a_kept H) (mA q)) 0 0 (mA q) := by
  refine Met.ofW (cc := cX11_four) (maxL := 3) (ret := none) (by decide) rfl ?_
  intro p e s m args below meth c s₁ B hml hv
  obtain ⟨rfl, hM, hK⟩ := hv
  have zc := zc_of B hml
  have hl := lv_entry ([.ref q, .int x1]) (n := 3) (Nat.le_of_ble_eq_true rfl)
  rw [lg_entry_eq]
  generalize (lg_sl ([.ref q, .int x1]) ++ List.replicate (3 - (lg_sl ([.ref q, .int x1])).length) Slot.unset).toArray = ls at hl ⊢
  have hl : lv_has ls 3 [(0, .ref q), (1, .int x1)] := hl
  exact t_m_four_0 zc hK hM va_S.rf (lv_sub hl [0, 1] rfl) hw
-- m_feed
abbrev rm_m_feed : Room := { frames := 1, cells := 0, slots := 0, locals := 22 }
def q_m_feed_0 (f_code : Int32) (a_tape : Nat → Int32) (a_size : Nat → Int32) (x1 : Int32) (x2 : Int32) (x3 : Int32) (x4 : Int32) (x5 : Int32) (post : Int32 → (Int32) → (Nat → Int32) → (Nat → Int32) → Prop) : Prop :=
  (((a_size (Int32.toNatClampNeg (0 : Int32))) + (20 : Int32)) ≤ (600 : Int32) → (q_m_four_0 a_tape a_size x1 (fun a_tape_1 a_size_1 => q_m_four_0 a_tape_1 a_size_1 x2 (fun a_tape_2 a_size_2 => q_m_four_0 a_tape_2 a_size_2 x3 (fun a_tape_3 a_size_3 => q_m_four_0 a_tape_3 a_size_3 x4 (fun a_tape_4 a_size_4 => q_m_four_0 a_tape_4 a_size_4 x5 (fun a_tape_5 a_size_5 => post (a_size_5 (Int32.toNatClampNeg (0 : Int32))) (0 : Int32) a_tape_5 a_size_5))))))) ∧ (¬ ((a_size (Int32.toNatClampNeg (0 : Int32))) + (20 : Int32)) ≤ (600 : Int32) → (post (-1 : Int32) (0 : Int32) a_tape a_size))
set_option maxRecDepth 20000 in
theorem t_m_feed_0 {p : Program} {l : Launch} {e : Env} {s : State} {m : MethodId} {args : Array Value} {below : List Frame} {meth : Method} {c : Code} {E : zE} {q : Nat} {f_code : Int32} {a_tape : Nat → Int32} {a_size : Nat → Int32} {a_fault : Nat → Int32} {a_faultPlace : Nat → Int32} {a_many : Nat → Int32} {a_lands : Nat → Int32} {a_evenings : Nat → Int32} {a_sights : Nat → Int32} {a_choirs : Nat → Int32} {f_reached : Int32} {f_length : Int32} {f_begins : Int32} {f_sort : Int32} {f_value : Int32} {f_word : Int64} {f_wrongAt : Int32} {f_laterFault : Int32} {f_laterPlace : Int32} {a_told : Nat → Int32} {a_read : Nat → Int32} {f_farHut : Int32} {f_farSinger : Int32} {f_good : Int32} {f_land : Int32} {f_huts : Int32} {f_singers : Int32} {f_evening : Int32} {a_at : Nat → Int32} {a_knows : Nat → Int32} {a_climbed : Nat → Int32} {a_snow : Nat → Int32} {a_level : Nat → Int32} {f_begun : Int32} {f_minute : Int32} {f_avalanches : Int32} {a_run : Nat → Int32} {a_covers : Nat → Int32} {a_routes : Nat → Int32} {a_longest : Nat → Int32} {a_steep : Nat → Int32} {a_laid : Nat → Int32} {a_far : Nat → Int32} {f_sight : Int32} {a_runs : Nat → Int32} {f_choir : Int32} {f_voices : Int32} {a_rest : Nat → Int64} {a_wins : Nat → Int32} {f_seed : Int32} {a_other : Nat → Int32} {a_kept : Nat → Int32} {post : Int32 → (Int32) → (Nat → Int32) → (Nat → Int32) → Prop} {x1 : Int32} {x2 : Int32} {x3 : Int32} {x4 : Int32} {x5 : Int32} {ls : Array Slot} {H : Heap} {locs : List Loc}
    (zc : zC p s m args meth c cX11_feed 6 RX11 (some .int))
    (hK : zK E s)
    (hM : mW E q f_code a_tape a_size a_fault a_faultPlace a_many a_lands a_evenings a_sights a_choirs f_reached f_length f_begins f_sort f_value f_word f_wrongAt f_laterFault f_laterPlace a_told a_read f_farHut f_farSinger f_good f_land f_huts f_singers f_evening a_at a_knows a_climbed a_snow a_level f_begun f_minute f_avalanches a_run a_covers a_routes a_longest a_steep a_laid a_far f_sight a_runs f_choir f_voices a_rest a_wins f_seed a_other a_kept H)
    (hS : va_S (mA q) s.heap H locs)
    (hl : lv_has ls 6 [(0, .ref q), (1, .int x1), (2, .int x2), (3, .int x3), (4, .int x4), (5, .int x5)])
    (hw : q_m_feed_0 f_code a_tape a_size x1 x2 x3 x4 x5 post) :
    W p l e rm_m_feed s m args below meth c H locs 0 0 (MQ below (zQi (S := (Int32) × (Nat → Int32) × (Nat → Int32)) (fun r u => post r u.1 u.2.1 u.2.2) (fun u H => mW E q u.1 u.2.1 u.2.2 a_fault a_faultPlace a_many a_lands a_evenings a_sights a_choirs f_reached f_length f_begins f_sort f_value f_word f_wrongAt f_laterFault f_laterPlace a_told a_read f_farHut f_farSinger f_good f_land f_huts f_singers f_evening a_at a_knows a_climbed a_snow a_level f_begun f_minute f_avalanches a_run a_covers a_routes a_longest a_steep a_laid a_far f_sight a_runs f_choir f_voices a_rest a_wins f_seed a_other a_kept H) (mA q)) args s 0 0 (mA q)) (F0 m 0 ls []) := by
  have hx := zc.1
  have hb := zc.2.1
  refine lv_aload_n hx hb dX11_feed_0 rfl (lv_at hl 0 rfl) ?_
  refine lv_iconst (v := (0 : Int32)) hx hb dX11_feed_1 (by decide) ?_
  refine mp_11_97_0 zc hK hM hS dX11_feed_2 (fun H locs hM hS => ?_)
  refine lv_aload_n hx hb dX11_feed_5 rfl (lv_at hl 0 rfl) ?_
  refine mg_11_13_0 zc hK hM dX11_feed_6 ?_
  refine lv_iconst (v := (0 : Int32)) hx hb dX11_feed_9 (by decide) ?_
  refine mld_2 zc hK hM (by unfold vp_in; decide) dX11_feed_10 ?_
  refine lv_bipush (v := (20 : Int32)) hx hb dX11_feed_11 (by decide) ?_
  refine lv_iadd hx hb dX11_feed_13 ?_
  refine lv_sipush (v := (600 : Int32)) hx hb dX11_feed_14 (by decide) ?_
  refine lv_icmp_le (tgt := 22) hx hb dX11_feed_17 (by decide) (fun hc => ?_) (fun hc => ?_)
  · have hw := hw.1 hc
    refine lv_aload_n hx hb dX11_feed_22 rfl (lv_at hl 0 rfl) ?_
    refine lv_iload_n hx hb dX11_feed_23 rfl (lv_at hl 1 rfl) ?_
    refine zVw_v [.int x1] [] zc ky_X11_four kz_X11_four km_11_113 (c_m_four l hw) (mPreV0 hK hM) hS rfl rfl hl.1 (Nat.le_of_ble_eq_true rfl) ⟨rfl, rfl⟩ ⟨Nat.le_of_ble_eq_true rfl, Nat.le_of_ble_eq_true rfl⟩ ⟨Nat.zero_le _, Nat.zero_le _⟩ dX11_feed_24 (fun u H locs hw hM hS => ?_)
    obtain ⟨a_tape_1, a_size_1⟩ := u
    refine lv_aload_n hx hb dX11_feed_27 rfl (lv_at hl 0 rfl) ?_
    refine lv_iload_n hx hb dX11_feed_28 rfl (lv_at hl 2 rfl) ?_
    refine zVw_v [.int x2] [] zc ky_X11_four kz_X11_four km_11_113 (c_m_four l hw) (mPreV0 hK hM) hS rfl rfl hl.1 (Nat.le_of_ble_eq_true rfl) ⟨rfl, rfl⟩ ⟨Nat.le_of_ble_eq_true rfl, Nat.le_of_ble_eq_true rfl⟩ ⟨Nat.zero_le _, Nat.zero_le _⟩ dX11_feed_29 (fun u H locs hw hM hS => ?_)
    obtain ⟨a_tape_2, a_size_2⟩ := u
    refine lv_aload_n hx hb dX11_feed_32 rfl (lv_at hl 0 rfl) ?_
    refine lv_iload_n hx hb dX11_feed_33 rfl (lv_at hl 3 rfl) ?_
    refine zVw_v [.int x3] [] zc ky_X11_four kz_X11_four km_11_113 (c_m_four l hw) (mPreV0 hK hM) hS rfl rfl hl.1 (Nat.le_of_ble_eq_true rfl) ⟨rfl, rfl⟩ ⟨Nat.le_of_ble_eq_true rfl, Nat.le_of_ble_eq_true rfl⟩ ⟨Nat.zero_le _, Nat.zero_le _⟩ dX11_feed_34 (fun u H locs hw hM hS => ?_)
    obtain ⟨a_tape_3, a_size_3⟩ := u
    refine lv_aload_n hx hb dX11_feed_37 rfl (lv_at hl 0 rfl) ?_
    refine lv_iload hx hb dX11_feed_38 (lv_at hl 4 rfl) ?_
    refine zVw_v [.int x4] [] zc ky_X11_four kz_X11_four km_11_113 (c_m_four l hw) (mPreV0 hK hM) hS rfl rfl hl.1 (Nat.le_of_ble_eq_true rfl) ⟨rfl, rfl⟩ ⟨Nat.le_of_ble_eq_true rfl, Nat.le_of_ble_eq_true rfl⟩ ⟨Nat.zero_le _, Nat.zero_le _⟩ dX11_feed_40 (fun u H locs hw hM hS => ?_)
    obtain ⟨a_tape_4, a_size_4⟩ := u
    refine lv_aload_n hx hb dX11_feed_43 rfl (lv_at hl 0 rfl) ?_
    refine lv_iload hx hb dX11_feed_44 (lv_at hl 5 rfl) ?_
    refine zVw_v [.int x5] [] zc ky_X11_four kz_X11_four km_11_113 (c_m_four l hw) (mPreV0 hK hM) hS rfl rfl hl.1 (Nat.le_of_ble_eq_true rfl) ⟨rfl, rfl⟩ ⟨Nat.le_of_ble_eq_true rfl, Nat.le_of_ble_eq_true rfl⟩ ⟨Nat.zero_le _, Nat.zero_le _⟩ dX11_feed_46 (fun u H locs hw hM hS => ?_)
    obtain ⟨a_tape_5, a_size_5⟩ := u
    refine lv_aload_n hx hb dX11_feed_49 rfl (lv_at hl 0 rfl) ?_
    refine mg_11_13_0 zc hK hM dX11_feed_50 ?_
    refine lv_iconst (v := (0 : Int32)) hx hb dX11_feed_53 (by decide) ?_
    refine mld_2 zc hK hM (by unfold vp_in; decide) dX11_feed_54 ?_
    exact zret_iw ⟨(0 : Int32), a_tape_5, a_size_5⟩ zc hS hw hM dX11_feed_55
  · have hw := hw.2 hc
    refine lv_iconst (v := (-1 : Int32)) hx hb dX11_feed_20 (by decide) ?_
    exact zret_iw ⟨(0 : Int32), a_tape, a_size⟩ zc hS hw hM dX11_feed_21
set_option maxRecDepth 20000 in
theorem c_m_feed (l : Launch) {E : zE} {q : Nat} {f_code : Int32} {a_tape : Nat → Int32} {a_size : Nat → Int32} {a_fault : Nat → Int32} {a_faultPlace : Nat → Int32} {a_many : Nat → Int32} {a_lands : Nat → Int32} {a_evenings : Nat → Int32} {a_sights : Nat → Int32} {a_choirs : Nat → Int32} {f_reached : Int32} {f_length : Int32} {f_begins : Int32} {f_sort : Int32} {f_value : Int32} {f_word : Int64} {f_wrongAt : Int32} {f_laterFault : Int32} {f_laterPlace : Int32} {a_told : Nat → Int32} {a_read : Nat → Int32} {f_farHut : Int32} {f_farSinger : Int32} {f_good : Int32} {f_land : Int32} {f_huts : Int32} {f_singers : Int32} {f_evening : Int32} {a_at : Nat → Int32} {a_knows : Nat → Int32} {a_climbed : Nat → Int32} {a_snow : Nat → Int32} {a_level : Nat → Int32} {f_begun : Int32} {f_minute : Int32} {f_avalanches : Int32} {a_run : Nat → Int32} {a_covers : Nat → Int32} {a_routes : Nat → Int32} {a_longest : Nat → Int32} {a_steep : Nat → Int32} {a_laid : Nat → Int32} {a_far : Nat → Int32} {f_sight : Int32} {a_runs : Nat → Int32} {f_choir : Int32} {f_voices : Int32} {a_rest : Nat → Int64} {a_wins : Nat → Int32} {f_seed : Int32} {a_other : Nat → Int32} {a_kept : Nat → Int32} {x1 : Int32} {x2 : Int32} {x3 : Int32} {x4 : Int32} {x5 : Int32} {post : Int32 → (Int32) → (Nat → Int32) → (Nat → Int32) → Prop} (hw : q_m_feed_0 f_code a_tape a_size x1 x2 x3 x4 x5 post) : Met l yX11_feed (Cond.code yX11_feed cX11_feed 6 (some .int) :: zb) rm_m_feed (va_Pc [.ref q, .int x1, .int x2, .int x3, .int x4, .int x5] (fun U => mW E q f_code a_tape a_size a_fault a_faultPlace a_many a_lands a_evenings a_sights a_choirs f_reached f_length f_begins f_sort f_value f_word f_wrongAt f_laterFault f_laterPlace a_told a_read f_farHut f_farSinger f_good f_land f_huts f_singers f_evening a_at a_knows a_climbed a_snow a_level f_begun f_minute f_avalanches a_run a_covers a_routes a_longest a_steep a_laid a_far f_sight a_runs f_choir f_voices a_rest a_wins f_seed a_other a_kept U.heap ∧ zK E U)) (zQi (S := (Int32) × (Nat → Int32) × (Nat → Int32)) (fun r u => post r u.1 u.2.1 u.2.2) (fun u H => mW E q u.1 u.2.1 u.2.2 a_fault a_faultPlace a_many a_lands a_evenings a_sights a_choirs f_reached f_length f_begins f_sort f_value f_word f_wrongAt f_laterFault f_laterPlace a_told a_read f_farHut f_farSinger f_good f_land f_huts f_singers f_evening a_at a_knows a_climbed a_snow a_level f_begun f_minute f_avalanches a_run a_covers a_routes a_longest a_steep a_laid a_far f_sight a_runs f_choir f_voices a_rest a_wins f_seed a_other a_kept H) (mA q)) 0 0 (mA q) := by
  refine Met.ofW (cc := cX11_feed) (maxL := 6) (ret := (some .int)) (by decide) rfl ?_
  intro p e s m args below meth c s₁ B hml hv
  obtain ⟨rfl, hM, hK⟩ := hv
  have zc := zc_of B hml
  have hl := lv_entry ([.ref q, .int x1, .int x2, .int x3, .int x4, .int x5]) (n := 6) (Nat.le_of_ble_eq_true rfl)
  rw [lg_entry_eq]
  generalize (lg_sl ([.ref q, .int x1, .int x2, .int x3, .int x4, .int x5]) ++ List.replicate (6 - (lg_sl ([.ref q, .int x1, .int x2, .int x3, .int x4, .int x5])).length) Slot.unset).toArray = ls at hl ⊢
  have hl : lv_has ls 6 [(0, .ref q), (1, .int x1), (2, .int x2), (3, .int x3), (4, .int x4), (5, .int x5)] := hl
  exact t_m_feed_0 zc hK hM va_S.rf (lv_sub hl [0, 1, 2, 3, 4, 5] rfl) hw
-- m_in
abbrev rm_m_in : Room := { frames := 0, cells := 0, slots := 0, locals := 0 }
def q_m_in_0 (x0 : Int32) (x1 : Int32) (x2 : Int32) (post : Int32 → Prop) : Prop :=
  (x0 < x1 → (post (0 : Int32))) ∧ (¬ x0 < x1 → ((x2 < x0 → (post (0 : Int32))) ∧ (¬ x2 < x0 → (post (1 : Int32)))))
set_option maxRecDepth 20000 in
theorem t_m_in_0 {p : Program} {l : Launch} {e : Env} {s : State} {m : MethodId} {args : Array Value} {below : List Frame} {meth : Method} {c : Code} {post : Int32 → Prop} {x0 : Int32} {x1 : Int32} {x2 : Int32} {ls : Array Slot}
    (zc : zC p s m args meth c cX11_in 3 RX11 (some .boolean))
    (hl : lv_has ls 3 [(0, .int x0), (1, .int x1), (2, .int x2)])
    (hw : q_m_in_0 x0 x1 x2 post) :
    W p l e rm_m_in s m args below meth c s.heap [] 0 0 (MQ below (vp_Si post) args s 0 0 (fun _ => False)) (F0 m 0 ls []) := by
  have hx := zc.1
  have hb := zc.2.1
  refine lv_iload_n hx hb dX11_in_0 rfl (lv_at hl 0 rfl) ?_
  refine lv_iload_n hx hb dX11_in_1 rfl (lv_at hl 1 rfl) ?_
  refine lv_icmp_lt (tgt := 14) hx hb dX11_in_2 (by decide) (fun hc => ?_) (fun hc => ?_)
  · have hw := hw.1 hc
    refine lv_iconst (v := (0 : Int32)) hx hb dX11_in_14 (by decide) ?_
    exact zret_z zc rfl hw dX11_in_15
  · have hw := hw.2 hc
    refine lv_iload_n hx hb dX11_in_5 rfl (lv_at hl 0 rfl) ?_
    refine lv_iload_n hx hb dX11_in_6 rfl (lv_at hl 2 rfl) ?_
    refine lv_icmp_gt (tgt := 14) hx hb dX11_in_7 (by decide) (fun hc => ?_) (fun hc => ?_)
    · have hw := hw.1 hc
      refine lv_iconst (v := (0 : Int32)) hx hb dX11_in_14 (by decide) ?_
      exact zret_z zc rfl hw dX11_in_15
    · have hw := hw.2 hc
      refine lv_iconst (v := (1 : Int32)) hx hb dX11_in_10 (by decide) ?_
      refine lv_goto (tgt := 15) hx hb dX11_in_11 (by decide) ?_
      exact zret_z zc rfl hw dX11_in_15
set_option maxRecDepth 20000 in
theorem c_m_in (l : Launch) {x0 : Int32} {x1 : Int32} {x2 : Int32} {post : Int32 → Prop} (hw : q_m_in_0 x0 x1 x2 post) : Met l yX11_in (Cond.code yX11_in cX11_in 3 (some .boolean) :: zb) rm_m_in (va_Pc [.int x0, .int x1, .int x2] (fun _ => True)) (vp_Si post) 0 0 (fun _ => False) := by
  refine Met.ofW (cc := cX11_in) (maxL := 3) (ret := (some .boolean)) (by decide) rfl ?_
  intro p e s m args below meth c s₁ B hml hv
  obtain ⟨rfl, -⟩ := hv
  have zc := zc_of B hml
  have hl := lv_entry ([.int x0, .int x1, .int x2]) (n := 3) (Nat.le_of_ble_eq_true rfl)
  rw [lg_entry_eq]
  generalize (lg_sl ([.int x0, .int x1, .int x2]) ++ List.replicate (3 - (lg_sl ([.int x0, .int x1, .int x2])).length) Slot.unset).toArray = ls at hl ⊢
  have hl : lv_has ls 3 [(0, .int x0), (1, .int x1), (2, .int x2)] := hl
  exact t_m_in_0 zc (lv_sub hl [0, 1, 2] rfl) hw
-- m_end
abbrev rm_m_end : Room := { frames := 1, cells := 0, slots := 0, locals := 22 }
def q_m_end_0 (f_code : Int32) (a_size : Nat → Int32) (x1 : Int32) (post : Int32 → (Int32) → (Nat → Int32) → Prop) : Prop :=
  q_m_in_0 x1 (0 : Int32) (a_size (Int32.toNatClampNeg (0 : Int32))) (fun r_1 => (¬ r_1 = 0 → (∀ a_size_1 : Nat → Int32, a_size_1 = upd a_size (Int32.toNatClampNeg (0 : Int32)) x1 → (post x1 (0 : Int32) a_size_1))) ∧ (r_1 = 0 → (post (-1 : Int32) (0 : Int32) a_size)))
set_option maxRecDepth 20000 in
theorem t_m_end_0 {p : Program} {l : Launch} {e : Env} {s : State} {m : MethodId} {args : Array Value} {below : List Frame} {meth : Method} {c : Code} {E : zE} {q : Nat} {f_code : Int32} {a_tape : Nat → Int32} {a_size : Nat → Int32} {a_fault : Nat → Int32} {a_faultPlace : Nat → Int32} {a_many : Nat → Int32} {a_lands : Nat → Int32} {a_evenings : Nat → Int32} {a_sights : Nat → Int32} {a_choirs : Nat → Int32} {f_reached : Int32} {f_length : Int32} {f_begins : Int32} {f_sort : Int32} {f_value : Int32} {f_word : Int64} {f_wrongAt : Int32} {f_laterFault : Int32} {f_laterPlace : Int32} {a_told : Nat → Int32} {a_read : Nat → Int32} {f_farHut : Int32} {f_farSinger : Int32} {f_good : Int32} {f_land : Int32} {f_huts : Int32} {f_singers : Int32} {f_evening : Int32} {a_at : Nat → Int32} {a_knows : Nat → Int32} {a_climbed : Nat → Int32} {a_snow : Nat → Int32} {a_level : Nat → Int32} {f_begun : Int32} {f_minute : Int32} {f_avalanches : Int32} {a_run : Nat → Int32} {a_covers : Nat → Int32} {a_routes : Nat → Int32} {a_longest : Nat → Int32} {a_steep : Nat → Int32} {a_laid : Nat → Int32} {a_far : Nat → Int32} {f_sight : Int32} {a_runs : Nat → Int32} {f_choir : Int32} {f_voices : Int32} {a_rest : Nat → Int64} {a_wins : Nat → Int32} {f_seed : Int32} {a_other : Nat → Int32} {a_kept : Nat → Int32} {post : Int32 → (Int32) → (Nat → Int32) → Prop} {x1 : Int32} {ls : Array Slot} {H : Heap} {locs : List Loc}
    (zc : zC p s m args meth c cX11_end 2 RX11 (some .int))
    (hK : zK E s)
    (hM : mW E q f_code a_tape a_size a_fault a_faultPlace a_many a_lands a_evenings a_sights a_choirs f_reached f_length f_begins f_sort f_value f_word f_wrongAt f_laterFault f_laterPlace a_told a_read f_farHut f_farSinger f_good f_land f_huts f_singers f_evening a_at a_knows a_climbed a_snow a_level f_begun f_minute f_avalanches a_run a_covers a_routes a_longest a_steep a_laid a_far f_sight a_runs f_choir f_voices a_rest a_wins f_seed a_other a_kept H)
    (hS : va_S (mA q) s.heap H locs)
    (hl : lv_has ls 2 [(0, .ref q), (1, .int x1)])
    (hw : q_m_end_0 f_code a_size x1 post) :
    W p l e rm_m_end s m args below meth c H locs 0 0 (MQ below (zQi (S := (Int32) × (Nat → Int32)) (fun r u => post r u.1 u.2) (fun u H => mW E q u.1 a_tape u.2 a_fault a_faultPlace a_many a_lands a_evenings a_sights a_choirs f_reached f_length f_begins f_sort f_value f_word f_wrongAt f_laterFault f_laterPlace a_told a_read f_farHut f_farSinger f_good f_land f_huts f_singers f_evening a_at a_knows a_climbed a_snow a_level f_begun f_minute f_avalanches a_run a_covers a_routes a_longest a_steep a_laid a_far f_sight a_runs f_choir f_voices a_rest a_wins f_seed a_other a_kept H) (mA q)) args s 0 0 (mA q)) (F0 m 0 ls []) := by
  have hx := zc.1
  have hb := zc.2.1
  refine lv_aload_n hx hb dX11_end_0 rfl (lv_at hl 0 rfl) ?_
  refine lv_iconst (v := (0 : Int32)) hx hb dX11_end_1 (by decide) ?_
  refine mp_11_97_0 zc hK hM hS dX11_end_2 (fun H locs hM hS => ?_)
  refine lv_iload_n hx hb dX11_end_5 rfl (lv_at hl 1 rfl) ?_
  refine lv_iconst (v := (0 : Int32)) hx hb dX11_end_6 (by decide) ?_
  refine lv_aload_n hx hb dX11_end_7 rfl (lv_at hl 0 rfl) ?_
  refine mg_11_13_0 zc hK hM dX11_end_8 ?_
  refine lv_iconst (v := (0 : Int32)) hx hb dX11_end_11 (by decide) ?_
  refine mld_2 zc hK hM (by unfold vp_in; decide) dX11_end_12 ?_
  refine zS_i [.int x1, .int (0 : Int32), .int (a_size (Int32.toNatClampNeg (0 : Int32)))] [] zc ky_X11_in kz_X11_in km_11_109 (c_m_in l hw) (zPre0 _) rfl rfl hl.1 (Nat.le_of_ble_eq_true rfl) ⟨rfl, rfl⟩ ⟨Nat.le_of_ble_eq_true rfl, Nat.le_of_ble_eq_true rfl⟩ ⟨Nat.zero_le _, Nat.zero_le _⟩ dX11_end_13 (fun r_1 hw => ?_)
  refine lv_if_ne (tgt := 21) hx hb dX11_end_16 (by decide) (fun hc => ?_) (fun hc => ?_)
  · have hw := hw.1 hc
    refine lv_aload_n hx hb dX11_end_21 rfl (lv_at hl 0 rfl) ?_
    refine mg_11_13_0 zc hK hM dX11_end_22 ?_
    refine lv_iconst (v := (0 : Int32)) hx hb dX11_end_25 (by decide) ?_
    refine lv_iload_n hx hb dX11_end_26 rfl (lv_at hl 1 rfl) ?_
    refine mst_2 zc hK hM hS (by unfold vp_in; decide) dX11_end_27 (fun a_size_1 H locs ea_size_1 hM hS => ?_)
    have hw := hw a_size_1 ea_size_1
    refine lv_iload_n hx hb dX11_end_28 rfl (lv_at hl 1 rfl) ?_
    exact zret_iw ⟨(0 : Int32), a_size_1⟩ zc hS hw hM dX11_end_29
  · have hw := hw.2 hc
    refine lv_iconst (v := (-1 : Int32)) hx hb dX11_end_19 (by decide) ?_
    exact zret_iw ⟨(0 : Int32), a_size⟩ zc hS hw hM dX11_end_20
set_option maxRecDepth 20000 in
theorem c_m_end (l : Launch) {E : zE} {q : Nat} {f_code : Int32} {a_tape : Nat → Int32} {a_size : Nat → Int32} {a_fault : Nat → Int32} {a_faultPlace : Nat → Int32} {a_many : Nat → Int32} {a_lands : Nat → Int32} {a_evenings : Nat → Int32} {a_sights : Nat → Int32} {a_choirs : Nat → Int32} {f_reached : Int32} {f_length : Int32} {f_begins : Int32} {f_sort : Int32} {f_value : Int32} {f_word : Int64} {f_wrongAt : Int32} {f_laterFault : Int32} {f_laterPlace : Int32} {a_told : Nat → Int32} {a_read : Nat → Int32} {f_farHut : Int32} {f_farSinger : Int32} {f_good : Int32} {f_land : Int32} {f_huts : Int32} {f_singers : Int32} {f_evening : Int32} {a_at : Nat → Int32} {a_knows : Nat → Int32} {a_climbed : Nat → Int32} {a_snow : Nat → Int32} {a_level : Nat → Int32} {f_begun : Int32} {f_minute : Int32} {f_avalanches : Int32} {a_run : Nat → Int32} {a_covers : Nat → Int32} {a_routes : Nat → Int32} {a_longest : Nat → Int32} {a_steep : Nat → Int32} {a_laid : Nat → Int32} {a_far : Nat → Int32} {f_sight : Int32} {a_runs : Nat → Int32} {f_choir : Int32} {f_voices : Int32} {a_rest : Nat → Int64} {a_wins : Nat → Int32} {f_seed : Int32} {a_other : Nat → Int32} {a_kept : Nat → Int32} {x1 : Int32} {post : Int32 → (Int32) → (Nat → Int32) → Prop} (hw : q_m_end_0 f_code a_size x1 post) : Met l yX11_end (Cond.code yX11_end cX11_end 2 (some .int) :: zb) rm_m_end (va_Pc [.ref q, .int x1] (fun U => mW E q f_code a_tape a_size a_fault a_faultPlace a_many a_lands a_evenings a_sights a_choirs f_reached f_length f_begins f_sort f_value f_word f_wrongAt f_laterFault f_laterPlace a_told a_read f_farHut f_farSinger f_good f_land f_huts f_singers f_evening a_at a_knows a_climbed a_snow a_level f_begun f_minute f_avalanches a_run a_covers a_routes a_longest a_steep a_laid a_far f_sight a_runs f_choir f_voices a_rest a_wins f_seed a_other a_kept U.heap ∧ zK E U)) (zQi (S := (Int32) × (Nat → Int32)) (fun r u => post r u.1 u.2) (fun u H => mW E q u.1 a_tape u.2 a_fault a_faultPlace a_many a_lands a_evenings a_sights a_choirs f_reached f_length f_begins f_sort f_value f_word f_wrongAt f_laterFault f_laterPlace a_told a_read f_farHut f_farSinger f_good f_land f_huts f_singers f_evening a_at a_knows a_climbed a_snow a_level f_begun f_minute f_avalanches a_run a_covers a_routes a_longest a_steep a_laid a_far f_sight a_runs f_choir f_voices a_rest a_wins f_seed a_other a_kept H) (mA q)) 0 0 (mA q) := by
  refine Met.ofW (cc := cX11_end) (maxL := 2) (ret := (some .int)) (by decide) rfl ?_
  intro p e s m args below meth c s₁ B hml hv
  obtain ⟨rfl, hM, hK⟩ := hv
  have zc := zc_of B hml
  have hl := lv_entry ([.ref q, .int x1]) (n := 2) (Nat.le_of_ble_eq_true rfl)
  rw [lg_entry_eq]
  generalize (lg_sl ([.ref q, .int x1]) ++ List.replicate (2 - (lg_sl ([.ref q, .int x1])).length) Slot.unset).toArray = ls at hl ⊢
  have hl : lv_has ls 2 [(0, .ref q), (1, .int x1)] := hl
  exact t_m_end_0 zc hK hM va_S.rf (lv_sub hl [0, 1] rfl) hw
-- m_is
abbrev rm_m_is : Room := { frames := 1, cells := 0, slots := 0, locals := 22 }
def q_m_is_0 (a_many : Nat → Int32) (x1 : Int32) (x2 : Int32) (post : Int32 → Prop) : Prop :=
  vp_in x1 16 ∧ (q_m_in_0 x2 (0 : Int32) ((a_many (Int32.toNatClampNeg x1)) - (1 : Int32)) (fun r_1 => narrow .boolean (.int r_1) = .int r_1 ∧ post r_1))
set_option maxRecDepth 20000 in
theorem t_m_is_0 {p : Program} {l : Launch} {e : Env} {s : State} {m : MethodId} {args : Array Value} {below : List Frame} {meth : Method} {c : Code} {E : zE} {q : Nat} {f_code : Int32} {a_tape : Nat → Int32} {a_size : Nat → Int32} {a_fault : Nat → Int32} {a_faultPlace : Nat → Int32} {a_many : Nat → Int32} {a_lands : Nat → Int32} {a_evenings : Nat → Int32} {a_sights : Nat → Int32} {a_choirs : Nat → Int32} {f_reached : Int32} {f_length : Int32} {f_begins : Int32} {f_sort : Int32} {f_value : Int32} {f_word : Int64} {f_wrongAt : Int32} {f_laterFault : Int32} {f_laterPlace : Int32} {a_told : Nat → Int32} {a_read : Nat → Int32} {f_farHut : Int32} {f_farSinger : Int32} {f_good : Int32} {f_land : Int32} {f_huts : Int32} {f_singers : Int32} {f_evening : Int32} {a_at : Nat → Int32} {a_knows : Nat → Int32} {a_climbed : Nat → Int32} {a_snow : Nat → Int32} {a_level : Nat → Int32} {f_begun : Int32} {f_minute : Int32} {f_avalanches : Int32} {a_run : Nat → Int32} {a_covers : Nat → Int32} {a_routes : Nat → Int32} {a_longest : Nat → Int32} {a_steep : Nat → Int32} {a_laid : Nat → Int32} {a_far : Nat → Int32} {f_sight : Int32} {a_runs : Nat → Int32} {f_choir : Int32} {f_voices : Int32} {a_rest : Nat → Int64} {a_wins : Nat → Int32} {f_seed : Int32} {a_other : Nat → Int32} {a_kept : Nat → Int32} {post : Int32 → Prop} {x1 : Int32} {x2 : Int32} {ls : Array Slot}
    (zc : zC p s m args meth c cX11_is 3 RX11 (some .boolean))
    (hK : zK E s)
    (hM : mW E q f_code a_tape a_size a_fault a_faultPlace a_many a_lands a_evenings a_sights a_choirs f_reached f_length f_begins f_sort f_value f_word f_wrongAt f_laterFault f_laterPlace a_told a_read f_farHut f_farSinger f_good f_land f_huts f_singers f_evening a_at a_knows a_climbed a_snow a_level f_begun f_minute f_avalanches a_run a_covers a_routes a_longest a_steep a_laid a_far f_sight a_runs f_choir f_voices a_rest a_wins f_seed a_other a_kept s.heap)
    (hl : lv_has ls 3 [(0, .ref q), (1, .int x1), (2, .int x2)])
    (hw : q_m_is_0 a_many x1 x2 post) :
    W p l e rm_m_is s m args below meth c s.heap [] 0 0 (MQ below (vp_Si post) args s 0 0 (fun _ => False)) (F0 m 0 ls []) := by
  have hx := zc.1
  have hb := zc.2.1
  refine lv_iload_n hx hb dX11_is_0 rfl (lv_at hl 2 rfl) ?_
  refine lv_iconst (v := (0 : Int32)) hx hb dX11_is_1 (by decide) ?_
  refine lv_aload_n hx hb dX11_is_2 rfl (lv_at hl 0 rfl) ?_
  refine mg_11_23_0 zc hK hM dX11_is_3 ?_
  refine lv_iload_n hx hb dX11_is_6 rfl (lv_at hl 1 rfl) ?_
  refine mld_5 zc hK hM hw.1 dX11_is_7 ?_
  have hw := hw.2
  refine lv_iconst (v := (1 : Int32)) hx hb dX11_is_8 (by decide) ?_
  refine lv_isub hx hb dX11_is_9 ?_
  refine zS_i [.int x2, .int (0 : Int32), .int ((a_many (Int32.toNatClampNeg x1)) - (1 : Int32))] [] zc ky_X11_in kz_X11_in km_11_109 (c_m_in l hw) (zPre0 _) rfl rfl hl.1 (Nat.le_of_ble_eq_true rfl) ⟨rfl, rfl⟩ ⟨Nat.le_of_ble_eq_true rfl, Nat.le_of_ble_eq_true rfl⟩ ⟨Nat.zero_le _, Nat.zero_le _⟩ dX11_is_10 (fun r_1 hw => ?_)
  exact zret_z zc hw.1 hw.2 dX11_is_13
set_option maxRecDepth 20000 in
theorem c_m_is (l : Launch) {E : zE} {q : Nat} {f_code : Int32} {a_tape : Nat → Int32} {a_size : Nat → Int32} {a_fault : Nat → Int32} {a_faultPlace : Nat → Int32} {a_many : Nat → Int32} {a_lands : Nat → Int32} {a_evenings : Nat → Int32} {a_sights : Nat → Int32} {a_choirs : Nat → Int32} {f_reached : Int32} {f_length : Int32} {f_begins : Int32} {f_sort : Int32} {f_value : Int32} {f_word : Int64} {f_wrongAt : Int32} {f_laterFault : Int32} {f_laterPlace : Int32} {a_told : Nat → Int32} {a_read : Nat → Int32} {f_farHut : Int32} {f_farSinger : Int32} {f_good : Int32} {f_land : Int32} {f_huts : Int32} {f_singers : Int32} {f_evening : Int32} {a_at : Nat → Int32} {a_knows : Nat → Int32} {a_climbed : Nat → Int32} {a_snow : Nat → Int32} {a_level : Nat → Int32} {f_begun : Int32} {f_minute : Int32} {f_avalanches : Int32} {a_run : Nat → Int32} {a_covers : Nat → Int32} {a_routes : Nat → Int32} {a_longest : Nat → Int32} {a_steep : Nat → Int32} {a_laid : Nat → Int32} {a_far : Nat → Int32} {f_sight : Int32} {a_runs : Nat → Int32} {f_choir : Int32} {f_voices : Int32} {a_rest : Nat → Int64} {a_wins : Nat → Int32} {f_seed : Int32} {a_other : Nat → Int32} {a_kept : Nat → Int32} {x1 : Int32} {x2 : Int32} {post : Int32 → Prop} (hw : q_m_is_0 a_many x1 x2 post) : Met l yX11_is (Cond.code yX11_is cX11_is 3 (some .boolean) :: zb) rm_m_is (va_Pc [.ref q, .int x1, .int x2] (fun U => mW E q f_code a_tape a_size a_fault a_faultPlace a_many a_lands a_evenings a_sights a_choirs f_reached f_length f_begins f_sort f_value f_word f_wrongAt f_laterFault f_laterPlace a_told a_read f_farHut f_farSinger f_good f_land f_huts f_singers f_evening a_at a_knows a_climbed a_snow a_level f_begun f_minute f_avalanches a_run a_covers a_routes a_longest a_steep a_laid a_far f_sight a_runs f_choir f_voices a_rest a_wins f_seed a_other a_kept U.heap ∧ zK E U)) (vp_Si post) 0 0 (fun _ => False) := by
  refine Met.ofW (cc := cX11_is) (maxL := 3) (ret := (some .boolean)) (by decide) rfl ?_
  intro p e s m args below meth c s₁ B hml hv
  obtain ⟨rfl, hM, hK⟩ := hv
  have zc := zc_of B hml
  have hl := lv_entry ([.ref q, .int x1, .int x2]) (n := 3) (Nat.le_of_ble_eq_true rfl)
  rw [lg_entry_eq]
  generalize (lg_sl ([.ref q, .int x1, .int x2]) ++ List.replicate (3 - (lg_sl ([.ref q, .int x1, .int x2])).length) Slot.unset).toArray = ls at hl ⊢
  have hl : lv_has ls 3 [(0, .ref q), (1, .int x1), (2, .int x2)] := hl
  exact t_m_is_0 zc hK hM (lv_sub hl [0, 1, 2] rfl) hw
-- m_see
abbrev rm_m_see : Room := { frames := 0, cells := 0, slots := 0, locals := 0 }
def q_m_see_0 (a_tape : Nat → Int32) (f_reached : Int32) (f_length : Int32) (post : Int32 → Prop) : Prop :=
  (f_length ≤ f_reached → (post (-1 : Int32))) ∧ (¬ f_length ≤ f_reached → (vp_in f_reached 2400 ∧ (post ((a_tape (Int32.toNatClampNeg f_reached)) &&& (255 : Int32)))))
set_option maxRecDepth 20000 in
theorem t_m_see_0 {p : Program} {l : Launch} {e : Env} {s : State} {m : MethodId} {args : Array Value} {below : List Frame} {meth : Method} {c : Code} {E : zE} {q : Nat} {f_code : Int32} {a_tape : Nat → Int32} {a_size : Nat → Int32} {a_fault : Nat → Int32} {a_faultPlace : Nat → Int32} {a_many : Nat → Int32} {a_lands : Nat → Int32} {a_evenings : Nat → Int32} {a_sights : Nat → Int32} {a_choirs : Nat → Int32} {f_reached : Int32} {f_length : Int32} {f_begins : Int32} {f_sort : Int32} {f_value : Int32} {f_word : Int64} {f_wrongAt : Int32} {f_laterFault : Int32} {f_laterPlace : Int32} {a_told : Nat → Int32} {a_read : Nat → Int32} {f_farHut : Int32} {f_farSinger : Int32} {f_good : Int32} {f_land : Int32} {f_huts : Int32} {f_singers : Int32} {f_evening : Int32} {a_at : Nat → Int32} {a_knows : Nat → Int32} {a_climbed : Nat → Int32} {a_snow : Nat → Int32} {a_level : Nat → Int32} {f_begun : Int32} {f_minute : Int32} {f_avalanches : Int32} {a_run : Nat → Int32} {a_covers : Nat → Int32} {a_routes : Nat → Int32} {a_longest : Nat → Int32} {a_steep : Nat → Int32} {a_laid : Nat → Int32} {a_far : Nat → Int32} {f_sight : Int32} {a_runs : Nat → Int32} {f_choir : Int32} {f_voices : Int32} {a_rest : Nat → Int64} {a_wins : Nat → Int32} {f_seed : Int32} {a_other : Nat → Int32} {a_kept : Nat → Int32} {post : Int32 → Prop} {ls : Array Slot}
    (zc : zC p s m args meth c cX11_see 1 RX11 (some .int))
    (hK : zK E s)
    (hM : mW E q f_code a_tape a_size a_fault a_faultPlace a_many a_lands a_evenings a_sights a_choirs f_reached f_length f_begins f_sort f_value f_word f_wrongAt f_laterFault f_laterPlace a_told a_read f_farHut f_farSinger f_good f_land f_huts f_singers f_evening a_at a_knows a_climbed a_snow a_level f_begun f_minute f_avalanches a_run a_covers a_routes a_longest a_steep a_laid a_far f_sight a_runs f_choir f_voices a_rest a_wins f_seed a_other a_kept s.heap)
    (hl : lv_has ls 1 [(0, .ref q)])
    (hw : q_m_see_0 a_tape f_reached f_length post) :
    W p l e rm_m_see s m args below meth c s.heap [] 0 0 (MQ below (vp_Si post) args s 0 0 (fun _ => False)) (F0 m 0 ls []) := by
  have hx := zc.1
  have hb := zc.2.1
  refine lv_aload_n hx hb dX11_see_0 rfl (lv_at hl 0 rfl) ?_
  refine mg_11_117_0 zc hK hM dX11_see_1 ?_
  refine lv_aload_n hx hb dX11_see_4 rfl (lv_at hl 0 rfl) ?_
  refine mg_11_120_0 zc hK hM dX11_see_5 ?_
  refine lv_icmp_ge (tgt := 27) hx hb dX11_see_8 (by decide) (fun hc => ?_) (fun hc => ?_)
  · have hw := hw.1 hc
    refine lv_iconst (v := (-1 : Int32)) hx hb dX11_see_27 (by decide) ?_
    exact zret_i zc hw dX11_see_28
  · have hw := hw.2 hc
    refine lv_aload_n hx hb dX11_see_11 rfl (lv_at hl 0 rfl) ?_
    refine mg_11_7_0 zc hK hM dX11_see_12 ?_
    refine lv_aload_n hx hb dX11_see_15 rfl (lv_at hl 0 rfl) ?_
    refine mg_11_117_0 zc hK hM dX11_see_16 ?_
    refine mld_1 zc hK hM hw.1 dX11_see_19 ?_
    have hw := hw.2
    refine lv_sipush (v := (255 : Int32)) hx hb dX11_see_20 (by decide) ?_
    refine lv_iand hx hb dX11_see_23 ?_
    refine lv_goto (tgt := 28) hx hb dX11_see_24 (by decide) ?_
    exact zret_i zc hw dX11_see_28
set_option maxRecDepth 20000 in
theorem c_m_see (l : Launch) {E : zE} {q : Nat} {f_code : Int32} {a_tape : Nat → Int32} {a_size : Nat → Int32} {a_fault : Nat → Int32} {a_faultPlace : Nat → Int32} {a_many : Nat → Int32} {a_lands : Nat → Int32} {a_evenings : Nat → Int32} {a_sights : Nat → Int32} {a_choirs : Nat → Int32} {f_reached : Int32} {f_length : Int32} {f_begins : Int32} {f_sort : Int32} {f_value : Int32} {f_word : Int64} {f_wrongAt : Int32} {f_laterFault : Int32} {f_laterPlace : Int32} {a_told : Nat → Int32} {a_read : Nat → Int32} {f_farHut : Int32} {f_farSinger : Int32} {f_good : Int32} {f_land : Int32} {f_huts : Int32} {f_singers : Int32} {f_evening : Int32} {a_at : Nat → Int32} {a_knows : Nat → Int32} {a_climbed : Nat → Int32} {a_snow : Nat → Int32} {a_level : Nat → Int32} {f_begun : Int32} {f_minute : Int32} {f_avalanches : Int32} {a_run : Nat → Int32} {a_covers : Nat → Int32} {a_routes : Nat → Int32} {a_longest : Nat → Int32} {a_steep : Nat → Int32} {a_laid : Nat → Int32} {a_far : Nat → Int32} {f_sight : Int32} {a_runs : Nat → Int32} {f_choir : Int32} {f_voices : Int32} {a_rest : Nat → Int64} {a_wins : Nat → Int32} {f_seed : Int32} {a_other : Nat → Int32} {a_kept : Nat → Int32} {post : Int32 → Prop} (hw : q_m_see_0 a_tape f_reached f_length post) : Met l yX11_see (Cond.code yX11_see cX11_see 1 (some .int) :: zb) rm_m_see (va_Pc [.ref q] (fun U => mW E q f_code a_tape a_size a_fault a_faultPlace a_many a_lands a_evenings a_sights a_choirs f_reached f_length f_begins f_sort f_value f_word f_wrongAt f_laterFault f_laterPlace a_told a_read f_farHut f_farSinger f_good f_land f_huts f_singers f_evening a_at a_knows a_climbed a_snow a_level f_begun f_minute f_avalanches a_run a_covers a_routes a_longest a_steep a_laid a_far f_sight a_runs f_choir f_voices a_rest a_wins f_seed a_other a_kept U.heap ∧ zK E U)) (vp_Si post) 0 0 (fun _ => False) := by
  refine Met.ofW (cc := cX11_see) (maxL := 1) (ret := (some .int)) (by decide) rfl ?_
  intro p e s m args below meth c s₁ B hml hv
  obtain ⟨rfl, hM, hK⟩ := hv
  have zc := zc_of B hml
  have hl := lv_entry ([.ref q]) (n := 1) (Nat.le_of_ble_eq_true rfl)
  rw [lg_entry_eq]
  generalize (lg_sl ([.ref q]) ++ List.replicate (1 - (lg_sl ([.ref q])).length) Slot.unset).toArray = ls at hl ⊢
  have hl : lv_has ls 1 [(0, .ref q)] := hl
  exact t_m_see_0 zc hK hM (lv_sub hl [0] rfl) hw
-- m_token
abbrev rm_m_token : Room := { frames := 1, cells := 0, slots := 0, locals := 22 }
def q_m_token_205 (P163 : Int32 → (Int32) → (Int32) → Prop) (a_tape : Nat → Int32) (f_reached : Int32) (f_length : Int32) (f_begins : Int32) (f_sort : Int32) (f_value : Int32) (f_word : Int64) (x2 : Int32) (y0 : Int32) (post : (Int32) → (Int32) → (Int32) → (Int32) → (Int64) → Prop) : Prop :=
  ∀ v_1 : Int32, v_1 = (f_reached + (1 : Int32)) → (∀ v_2 : Int32, v_2 = x2 + (1 : Int32) → (P163 v_2 v_1 y0))
def q_m_token_235 (a_tape : Nat → Int32) (f_reached : Int32) (f_length : Int32) (f_begins : Int32) (f_sort : Int32) (f_value : Int32) (f_word : Int64) (y0 : Int32) (post : (Int32) → (Int32) → (Int32) → (Int32) → (Int64) → Prop) : Prop :=
  post f_reached f_begins y0 f_value f_word
def q_m_token_163 (a_tape : Nat → Int32) (f_reached : Int32) (f_length : Int32) (f_begins : Int32) (f_sort : Int32) (f_value : Int32) (f_word : Int64) (x2 : Int32) (post : (Int32) → (Int32) → (Int32) → (Int32) → (Int64) → Prop) : Prop :=
  ∀ P163 : Int32 → (Int32) → (Int32) → Prop, (∀ (x2 : Int32) (f_reached : Int32) (f_value : Int32), (q_m_see_0 a_tape f_reached f_length (fun r_1 => q_m_in_0 r_1 (48 : Int32) (57 : Int32) (fun r_2 => (r_2 = 0 → ((x2 ≤ (2 : Int32) → (q_m_token_235 a_tape f_reached f_length f_begins f_sort f_value f_word (3 : Int32) post)) ∧ (¬ x2 ≤ (2 : Int32) → (q_m_token_235 a_tape f_reached f_length f_begins f_sort f_value f_word (1 : Int32) post)))) ∧ (¬ r_2 = 0 → (((2 : Int32) ≤ x2 → (q_m_token_205 P163 a_tape f_reached f_length f_begins f_sort f_value f_word x2 f_value post)) ∧ (¬ (2 : Int32) ≤ x2 → (q_m_see_0 a_tape f_reached f_length (fun r_3 => q_m_token_205 P163 a_tape f_reached f_length f_begins f_sort f_value f_word x2 ((((10 : Int32) * f_value) + r_3) - (48 : Int32)) post)))))))) → P163 x2 f_reached f_value) → P163 x2 f_reached f_value
def q_m_token_18 (P0 : (Int32) → Prop) (a_tape : Nat → Int32) (f_reached : Int32) (f_length : Int32) (f_begins : Int32) (f_sort : Int32) (f_value : Int32) (f_word : Int64) (post : (Int32) → (Int32) → (Int32) → (Int32) → (Int64) → Prop) : Prop :=
  ∀ v_1 : Int32, v_1 = (f_reached + (1 : Int32)) → (P0 v_1)
def q_m_token_263 (a_tape : Nat → Int32) (f_reached : Int32) (f_length : Int32) (f_begins : Int32) (f_sort : Int32) (f_value : Int32) (f_word : Int64) (y0 : Int32) (post : (Int32) → (Int32) → (Int32) → (Int32) → (Int64) → Prop) : Prop :=
  post f_reached f_begins y0 f_value f_word
def q_m_token_136 (a_tape : Nat → Int32) (f_reached : Int32) (f_length : Int32) (f_begins : Int32) (f_sort : Int32) (f_value : Int32) (f_word : Int64) (y0 : Int64) (post : (Int32) → (Int32) → (Int32) → (Int32) → (Int64) → Prop) : Prop :=
  post f_reached f_begins (2 : Int32) f_value y0
def q_m_token_74 (a_tape : Nat → Int32) (f_reached : Int32) (f_length : Int32) (f_begins : Int32) (f_sort : Int32) (f_value : Int32) (f_word : Int64) (x2 : Int32) (post : (Int32) → (Int32) → (Int32) → (Int32) → (Int64) → Prop) : Prop :=
  ∀ P74 : Int32 → (Int32) → (Int64) → Prop, (∀ (x2 : Int32) (f_reached : Int32) (f_word : Int64), (q_m_see_0 a_tape f_reached f_length (fun r_1 => q_m_in_0 r_1 (97 : Int32) (122 : Int32) (fun r_2 => (r_2 = 0 → ((x2 ≤ (8 : Int32) → (q_m_token_136 a_tape f_reached f_length f_begins f_sort f_value f_word f_word post)) ∧ (¬ x2 ≤ (8 : Int32) → (q_m_token_136 a_tape f_reached f_length f_begins f_sort f_value f_word (0 : Int64) post)))) ∧ (¬ r_2 = 0 → (q_m_see_0 a_tape f_reached f_length (fun r_3 => ∀ v_1 : Int64, v_1 = ((f_word <<< (Int32.toInt64 (8 : Int32) &&& 63)) ||| (Int32.toInt64 r_3)) → (∀ v_2 : Int32, v_2 = (f_reached + (1 : Int32)) → (∀ v_3 : Int32, v_3 = x2 + (1 : Int32) → (P74 v_3 v_2 v_1))))))))) → P74 x2 f_reached f_word) → P74 x2 f_reached f_word
def q_m_token_0 (a_tape : Nat → Int32) (f_reached : Int32) (f_length : Int32) (f_begins : Int32) (f_sort : Int32) (f_value : Int32) (f_word : Int64) (post : (Int32) → (Int32) → (Int32) → (Int32) → (Int64) → Prop) : Prop :=
  ∀ P0 : (Int32) → Prop, (∀ (f_reached : Int32), (q_m_see_0 a_tape f_reached f_length (fun r_1 => (r_1 = (10 : Int32) → (q_m_token_18 P0 a_tape f_reached f_length f_begins f_sort f_value f_word post)) ∧ (¬ r_1 = (10 : Int32) → (q_m_see_0 a_tape f_reached f_length (fun r_2 => (¬ r_2 = (32 : Int32) → (q_m_see_0 a_tape f_reached f_length (fun r_3 => (0 ≤ r_3 → (q_m_in_0 r_3 (97 : Int32) (122 : Int32) (fun r_4 => (r_4 = 0 → (q_m_in_0 r_3 (48 : Int32) (57 : Int32) (fun r_5 => (r_5 = 0 → (∀ v_1 : Int32, v_1 = (f_reached + (1 : Int32)) → ((¬ r_3 = (59 : Int32) → (q_m_token_263 a_tape v_1 f_length f_reached f_sort f_value (0 : Int64) (1 : Int32) post)) ∧ (r_3 = (59 : Int32) → (q_m_token_263 a_tape v_1 f_length f_reached f_sort f_value (0 : Int64) (4 : Int32) post))))) ∧ (¬ r_5 = 0 → (q_m_token_163 a_tape f_reached f_length f_reached f_sort (0 : Int32) (0 : Int64) (0 : Int32) post))))) ∧ (¬ r_4 = 0 → (q_m_token_74 a_tape f_reached f_length f_reached f_sort f_value (0 : Int64) (0 : Int32) post))))) ∧ (¬ 0 ≤ r_3 → (post f_reached f_reached (0 : Int32) f_value (0 : Int64)))))) ∧ (r_2 = (32 : Int32) → (q_m_token_18 P0 a_tape f_reached f_length f_begins f_sort f_value f_word post))))))) → P0 f_reached) → P0 f_reached
set_option maxRecDepth 20000 in
theorem t_m_token_205 {p : Program} {l : Launch} {e : Env} {s : State} {m : MethodId} {args : Array Value} {below : List Frame} {meth : Method} {c : Code} {E : zE} {q : Nat} {f_code : Int32} {a_tape : Nat → Int32} {a_size : Nat → Int32} {a_fault : Nat → Int32} {a_faultPlace : Nat → Int32} {a_many : Nat → Int32} {a_lands : Nat → Int32} {a_evenings : Nat → Int32} {a_sights : Nat → Int32} {a_choirs : Nat → Int32} {f_reached : Int32} {f_length : Int32} {f_begins : Int32} {f_sort : Int32} {f_value : Int32} {f_word : Int64} {f_wrongAt : Int32} {f_laterFault : Int32} {f_laterPlace : Int32} {a_told : Nat → Int32} {a_read : Nat → Int32} {f_farHut : Int32} {f_farSinger : Int32} {f_good : Int32} {f_land : Int32} {f_huts : Int32} {f_singers : Int32} {f_evening : Int32} {a_at : Nat → Int32} {a_knows : Nat → Int32} {a_climbed : Nat → Int32} {a_snow : Nat → Int32} {a_level : Nat → Int32} {f_begun : Int32} {f_minute : Int32} {f_avalanches : Int32} {a_run : Nat → Int32} {a_covers : Nat → Int32} {a_routes : Nat → Int32} {a_longest : Nat → Int32} {a_steep : Nat → Int32} {a_laid : Nat → Int32} {a_far : Nat → Int32} {f_sight : Int32} {a_runs : Nat → Int32} {f_choir : Int32} {f_voices : Int32} {a_rest : Nat → Int64} {a_wins : Nat → Int32} {f_seed : Int32} {a_other : Nat → Int32} {a_kept : Nat → Int32} {P163 : Int32 → (Int32) → (Int32) → Prop} {post : (Int32) → (Int32) → (Int32) → (Int32) → (Int64) → Prop} {x2 : Int32} {y0 : Int32} {ls : Array Slot} {H : Heap} {locs : List Loc}
    (zc : zC p s m args meth c cX11_token 3 RX11 none)
    (hK : zK E s)
    (hM : mW E q f_code a_tape a_size a_fault a_faultPlace a_many a_lands a_evenings a_sights a_choirs f_reached f_length f_begins f_sort f_value f_word f_wrongAt f_laterFault f_laterPlace a_told a_read f_farHut f_farSinger f_good f_land f_huts f_singers f_evening a_at a_knows a_climbed a_snow a_level f_begun f_minute f_avalanches a_run a_covers a_routes a_longest a_steep a_laid a_far f_sight a_runs f_choir f_voices a_rest a_wins f_seed a_other a_kept H)
    (hS : va_S (mA q) s.heap H locs)
    (hP163 : ∀ (x2 : Int32) (f_reached : Int32) (f_value : Int32) (H : Heap) (locs : List Loc) (ls : Array Slot), P163 x2 f_reached f_value → lv_has ls 3 [(0, .ref q), (2, .int x2)] → mW E q f_code a_tape a_size a_fault a_faultPlace a_many a_lands a_evenings a_sights a_choirs f_reached f_length f_begins f_sort f_value f_word f_wrongAt f_laterFault f_laterPlace a_told a_read f_farHut f_farSinger f_good f_land f_huts f_singers f_evening a_at a_knows a_climbed a_snow a_level f_begun f_minute f_avalanches a_run a_covers a_routes a_longest a_steep a_laid a_far f_sight a_runs f_choir f_voices a_rest a_wins f_seed a_other a_kept H → va_S (mA q) s.heap H locs → W p l e rm_m_token s m args below meth c H locs 0 0 (MQ below (zQv (S := (Int32) × (Int32) × (Int32) × (Int32) × (Int64)) (fun u => post u.1 u.2.1 u.2.2.1 u.2.2.2.1 u.2.2.2.2) (fun u H => mW E q f_code a_tape a_size a_fault a_faultPlace a_many a_lands a_evenings a_sights a_choirs u.1 f_length u.2.1 u.2.2.1 u.2.2.2.1 u.2.2.2.2 f_wrongAt f_laterFault f_laterPlace a_told a_read f_farHut f_farSinger f_good f_land f_huts f_singers f_evening a_at a_knows a_climbed a_snow a_level f_begun f_minute f_avalanches a_run a_covers a_routes a_longest a_steep a_laid a_far f_sight a_runs f_choir f_voices a_rest a_wins f_seed a_other a_kept H) (mA q)) args s 0 0 (mA q)) (F0 m 163 ls []))
    (hl : lv_has ls 3 [(0, .ref q), (2, .int x2)])
    (hw : q_m_token_205 P163 a_tape f_reached f_length f_begins f_sort f_value f_word x2 y0 post) :
    W p l e rm_m_token s m args below meth c H locs 0 0 (MQ below (zQv (S := (Int32) × (Int32) × (Int32) × (Int32) × (Int64)) (fun u => post u.1 u.2.1 u.2.2.1 u.2.2.2.1 u.2.2.2.2) (fun u H => mW E q f_code a_tape a_size a_fault a_faultPlace a_many a_lands a_evenings a_sights a_choirs u.1 f_length u.2.1 u.2.2.1 u.2.2.2.1 u.2.2.2.2 f_wrongAt f_laterFault f_laterPlace a_told a_read f_farHut f_farSinger f_good f_land f_huts f_singers f_evening a_at a_knows a_climbed a_snow a_level f_begun f_minute f_avalanches a_run a_covers a_routes a_longest a_steep a_laid a_far f_sight a_runs f_choir f_voices a_rest a_wins f_seed a_other a_kept H) (mA q)) args s 0 0 (mA q)) (F0 m 205 ls [.int y0, .ref q]) := by
  have hx := zc.1
  have hb := zc.2.1
  refine mp_11_137_0 zc hK hM hS dX11_token_205 (fun H locs hM hS => ?_)
  refine lv_aload_n hx hb dX11_token_208 rfl (lv_at hl 0 rfl) ?_
  refine lv_dup hx hb dX11_token_209 rfl ?_
  refine mg_11_117_0 zc hK hM dX11_token_210 ?_
  refine lv_iconst (v := (1 : Int32)) hx hb dX11_token_213 (by decide) ?_
  refine lv_iadd hx hb dX11_token_214 ?_
  refine lv_topi (fun v_1 ev_1 => ?_)
  have hw := hw v_1 ev_1
  refine mp_11_117_0 zc hK hM hS dX11_token_215 (fun H locs hM hS => ?_)
  obtain ⟨v_2, ev_2⟩ : ∃ y : Int32, y = x2 + (1 : Int32) := ⟨_, rfl⟩
  have hw := hw v_2 ev_2
  refine lv_iinc (v := v_2) (k := 1) (lv' := [(2, .int v_2), (0, .ref q)]) hx hb dX11_token_218 hl rfl (by rw [ev_2]; rfl) (by decide) rfl (fun ls hl => ?_)
  refine lv_goto (tgt := 163) hx hb dX11_token_221 (by decide) ?_
  exact hP163 _ _ _ _ _ _ hw (lv_sub hl [1, 0] rfl) hM hS
set_option maxRecDepth 20000 in
theorem t_m_token_235 {p : Program} {l : Launch} {e : Env} {s : State} {m : MethodId} {args : Array Value} {below : List Frame} {meth : Method} {c : Code} {E : zE} {q : Nat} {f_code : Int32} {a_tape : Nat → Int32} {a_size : Nat → Int32} {a_fault : Nat → Int32} {a_faultPlace : Nat → Int32} {a_many : Nat → Int32} {a_lands : Nat → Int32} {a_evenings : Nat → Int32} {a_sights : Nat → Int32} {a_choirs : Nat → Int32} {f_reached : Int32} {f_length : Int32} {f_begins : Int32} {f_sort : Int32} {f_value : Int32} {f_word : Int64} {f_wrongAt : Int32} {f_laterFault : Int32} {f_laterPlace : Int32} {a_told : Nat → Int32} {a_read : Nat → Int32} {f_farHut : Int32} {f_farSinger : Int32} {f_good : Int32} {f_land : Int32} {f_huts : Int32} {f_singers : Int32} {f_evening : Int32} {a_at : Nat → Int32} {a_knows : Nat → Int32} {a_climbed : Nat → Int32} {a_snow : Nat → Int32} {a_level : Nat → Int32} {f_begun : Int32} {f_minute : Int32} {f_avalanches : Int32} {a_run : Nat → Int32} {a_covers : Nat → Int32} {a_routes : Nat → Int32} {a_longest : Nat → Int32} {a_steep : Nat → Int32} {a_laid : Nat → Int32} {a_far : Nat → Int32} {f_sight : Int32} {a_runs : Nat → Int32} {f_choir : Int32} {f_voices : Int32} {a_rest : Nat → Int64} {a_wins : Nat → Int32} {f_seed : Int32} {a_other : Nat → Int32} {a_kept : Nat → Int32} {post : (Int32) → (Int32) → (Int32) → (Int32) → (Int64) → Prop} {y0 : Int32} {ls : Array Slot} {H : Heap} {locs : List Loc}
    (zc : zC p s m args meth c cX11_token 3 RX11 none)
    (hK : zK E s)
    (hM : mW E q f_code a_tape a_size a_fault a_faultPlace a_many a_lands a_evenings a_sights a_choirs f_reached f_length f_begins f_sort f_value f_word f_wrongAt f_laterFault f_laterPlace a_told a_read f_farHut f_farSinger f_good f_land f_huts f_singers f_evening a_at a_knows a_climbed a_snow a_level f_begun f_minute f_avalanches a_run a_covers a_routes a_longest a_steep a_laid a_far f_sight a_runs f_choir f_voices a_rest a_wins f_seed a_other a_kept H)
    (hS : va_S (mA q) s.heap H locs)
    (hl : lv_has ls 3 [])
    (hw : q_m_token_235 a_tape f_reached f_length f_begins f_sort f_value f_word y0 post) :
    W p l e rm_m_token s m args below meth c H locs 0 0 (MQ below (zQv (S := (Int32) × (Int32) × (Int32) × (Int32) × (Int64)) (fun u => post u.1 u.2.1 u.2.2.1 u.2.2.2.1 u.2.2.2.2) (fun u H => mW E q f_code a_tape a_size a_fault a_faultPlace a_many a_lands a_evenings a_sights a_choirs u.1 f_length u.2.1 u.2.2.1 u.2.2.2.1 u.2.2.2.2 f_wrongAt f_laterFault f_laterPlace a_told a_read f_farHut f_farSinger f_good f_land f_huts f_singers f_evening a_at a_knows a_climbed a_snow a_level f_begun f_minute f_avalanches a_run a_covers a_routes a_longest a_steep a_laid a_far f_sight a_runs f_choir f_voices a_rest a_wins f_seed a_other a_kept H) (mA q)) args s 0 0 (mA q)) (F0 m 235 ls [.int y0, .ref q]) := by
  have hx := zc.1
  have hb := zc.2.1
  refine mp_11_134_0 zc hK hM hS dX11_token_235 (fun H locs hM hS => ?_)
  refine lv_goto (tgt := 266) hx hb dX11_token_238 (by decide) ?_
  exact zret_vw ⟨f_reached, f_begins, y0, f_value, f_word⟩ zc hS hw hM dX11_token_266
set_option maxRecDepth 20000 in
theorem t_m_token_163 {p : Program} {l : Launch} {e : Env} {s : State} {m : MethodId} {args : Array Value} {below : List Frame} {meth : Method} {c : Code} {E : zE} {q : Nat} {f_code : Int32} {a_tape : Nat → Int32} {a_size : Nat → Int32} {a_fault : Nat → Int32} {a_faultPlace : Nat → Int32} {a_many : Nat → Int32} {a_lands : Nat → Int32} {a_evenings : Nat → Int32} {a_sights : Nat → Int32} {a_choirs : Nat → Int32} {f_reached : Int32} {f_length : Int32} {f_begins : Int32} {f_sort : Int32} {f_value : Int32} {f_word : Int64} {f_wrongAt : Int32} {f_laterFault : Int32} {f_laterPlace : Int32} {a_told : Nat → Int32} {a_read : Nat → Int32} {f_farHut : Int32} {f_farSinger : Int32} {f_good : Int32} {f_land : Int32} {f_huts : Int32} {f_singers : Int32} {f_evening : Int32} {a_at : Nat → Int32} {a_knows : Nat → Int32} {a_climbed : Nat → Int32} {a_snow : Nat → Int32} {a_level : Nat → Int32} {f_begun : Int32} {f_minute : Int32} {f_avalanches : Int32} {a_run : Nat → Int32} {a_covers : Nat → Int32} {a_routes : Nat → Int32} {a_longest : Nat → Int32} {a_steep : Nat → Int32} {a_laid : Nat → Int32} {a_far : Nat → Int32} {f_sight : Int32} {a_runs : Nat → Int32} {f_choir : Int32} {f_voices : Int32} {a_rest : Nat → Int64} {a_wins : Nat → Int32} {f_seed : Int32} {a_other : Nat → Int32} {a_kept : Nat → Int32} {post : (Int32) → (Int32) → (Int32) → (Int32) → (Int64) → Prop} {x2 : Int32} {ls : Array Slot} {H : Heap} {locs : List Loc}
    (zc : zC p s m args meth c cX11_token 3 RX11 none)
    (hK : zK E s)
    (hM : mW E q f_code a_tape a_size a_fault a_faultPlace a_many a_lands a_evenings a_sights a_choirs f_reached f_length f_begins f_sort f_value f_word f_wrongAt f_laterFault f_laterPlace a_told a_read f_farHut f_farSinger f_good f_land f_huts f_singers f_evening a_at a_knows a_climbed a_snow a_level f_begun f_minute f_avalanches a_run a_covers a_routes a_longest a_steep a_laid a_far f_sight a_runs f_choir f_voices a_rest a_wins f_seed a_other a_kept H)
    (hS : va_S (mA q) s.heap H locs)
    (hl : lv_has ls 3 [(0, .ref q), (2, .int x2)])
    (hw : q_m_token_163 a_tape f_reached f_length f_begins f_sort f_value f_word x2 post) :
    W p l e rm_m_token s m args below meth c H locs 0 0 (MQ below (zQv (S := (Int32) × (Int32) × (Int32) × (Int32) × (Int64)) (fun u => post u.1 u.2.1 u.2.2.1 u.2.2.2.1 u.2.2.2.2) (fun u H => mW E q f_code a_tape a_size a_fault a_faultPlace a_many a_lands a_evenings a_sights a_choirs u.1 f_length u.2.1 u.2.2.1 u.2.2.2.1 u.2.2.2.2 f_wrongAt f_laterFault f_laterPlace a_told a_read f_farHut f_farSinger f_good f_land f_huts f_singers f_evening a_at a_knows a_climbed a_snow a_level f_begun f_minute f_avalanches a_run a_covers a_routes a_longest a_steep a_laid a_far f_sight a_runs f_choir f_voices a_rest a_wins f_seed a_other a_kept H) (mA q)) args s 0 0 (mA q)) (F0 m 163 ls []) := by
  have hx := zc.1
  have hb := zc.2.1
  refine hw (fun x2 f_reached f_value => ∀ (H : Heap) (locs : List Loc) (ls : Array Slot), lv_has ls 3 [(0, .ref q), (2, .int x2)] → mW E q f_code a_tape a_size a_fault a_faultPlace a_many a_lands a_evenings a_sights a_choirs f_reached f_length f_begins f_sort f_value f_word f_wrongAt f_laterFault f_laterPlace a_told a_read f_farHut f_farSinger f_good f_land f_huts f_singers f_evening a_at a_knows a_climbed a_snow a_level f_begun f_minute f_avalanches a_run a_covers a_routes a_longest a_steep a_laid a_far f_sight a_runs f_choir f_voices a_rest a_wins f_seed a_other a_kept H → va_S (mA q) s.heap H locs → W p l e rm_m_token s m args below meth c H locs 0 0 (MQ below (zQv (S := (Int32) × (Int32) × (Int32) × (Int32) × (Int64)) (fun u => post u.1 u.2.1 u.2.2.1 u.2.2.2.1 u.2.2.2.2) (fun u H => mW E q f_code a_tape a_size a_fault a_faultPlace a_many a_lands a_evenings a_sights a_choirs u.1 f_length u.2.1 u.2.2.1 u.2.2.2.1 u.2.2.2.2 f_wrongAt f_laterFault f_laterPlace a_told a_read f_farHut f_farSinger f_good f_land f_huts f_singers f_evening a_at a_knows a_climbed a_snow a_level f_begun f_minute f_avalanches a_run a_covers a_routes a_longest a_steep a_laid a_far f_sight a_runs f_choir f_voices a_rest a_wins f_seed a_other a_kept H) (mA q)) args s 0 0 (mA q)) (F0 m 163 ls [])) ?_ _ _ _ hl hM hS
  intro x2 f_reached f_value hw H locs ls hl hM hS
  refine lv_aload_n hx hb dX11_token_163 rfl (lv_at hl 0 rfl) ?_
  refine zV_i [] [] zc ky_X11_see kz_X11_see km_11_123 (c_m_see l hw) (mPreV0 hK hM) rfl rfl hl.1 (Nat.le_of_ble_eq_true rfl) ⟨rfl, rfl⟩ ⟨Nat.le_of_ble_eq_true rfl, Nat.le_of_ble_eq_true rfl⟩ ⟨Nat.zero_le _, Nat.zero_le _⟩ dX11_token_164 (fun r_1 hw => ?_)
  refine lv_bipush (v := (48 : Int32)) hx hb dX11_token_167 (by decide) ?_
  refine lv_bipush (v := (57 : Int32)) hx hb dX11_token_169 (by decide) ?_
  refine zS_i [.int r_1, .int (48 : Int32), .int (57 : Int32)] [] zc ky_X11_in kz_X11_in km_11_109 (c_m_in l hw) (zPre0 _) rfl rfl hl.1 (Nat.le_of_ble_eq_true rfl) ⟨rfl, rfl⟩ ⟨Nat.le_of_ble_eq_true rfl, Nat.le_of_ble_eq_true rfl⟩ ⟨Nat.zero_le _, Nat.zero_le _⟩ dX11_token_171 (fun r_2 hw => ?_)
  refine lv_if_eq (tgt := 224) hx hb dX11_token_174 (by decide) (fun hc => ?_) (fun hc => ?_)
  · have hw := hw.1 hc
    refine lv_aload_n hx hb dX11_token_224 rfl (lv_at hl 0 rfl) ?_
    refine lv_iload_n hx hb dX11_token_225 rfl (lv_at hl 1 rfl) ?_
    refine lv_iconst (v := (2 : Int32)) hx hb dX11_token_226 (by decide) ?_
    refine lv_icmp_le (tgt := 234) hx hb dX11_token_227 (by decide) (fun hc => ?_) (fun hc => ?_)
    · have hw := hw.1 hc
      refine lv_iconst (v := (3 : Int32)) hx hb dX11_token_234 (by decide) ?_
      exact t_m_token_235 zc hK hM hS  (lv_sub hl [] rfl) hw
    · have hw := hw.2 hc
      refine lv_iconst (v := (1 : Int32)) hx hb dX11_token_230 (by decide) ?_
      refine lv_goto (tgt := 235) hx hb dX11_token_231 (by decide) ?_
      exact t_m_token_235 zc hK hM hS  (lv_sub hl [] rfl) hw
  · have hw := hw.2 hc
    refine lv_aload_n hx hb dX11_token_177 rfl (lv_at hl 0 rfl) ?_
    refine lv_iload_n hx hb dX11_token_178 rfl (lv_at hl 1 rfl) ?_
    refine lv_iconst (v := (2 : Int32)) hx hb dX11_token_179 (by decide) ?_
    refine lv_icmp_ge (tgt := 201) hx hb dX11_token_180 (by decide) (fun hc => ?_) (fun hc => ?_)
    · have hw := hw.1 hc
      refine lv_aload_n hx hb dX11_token_201 rfl (lv_at hl 0 rfl) ?_
      refine mg_11_137_0 zc hK hM dX11_token_202 ?_
      exact t_m_token_205 zc hK hM hS (fun _ _ _ H locs ls h hl hM hS => h H locs ls hl hM hS) (lv_sub hl [0, 1] rfl) hw
    · have hw := hw.2 hc
      refine lv_bipush (v := (10 : Int32)) hx hb dX11_token_183 (by decide) ?_
      refine lv_aload_n hx hb dX11_token_185 rfl (lv_at hl 0 rfl) ?_
      refine mg_11_137_0 zc hK hM dX11_token_186 ?_
      refine lv_imul hx hb dX11_token_189 ?_
      refine lv_aload_n hx hb dX11_token_190 rfl (lv_at hl 0 rfl) ?_
      refine zV_i [] [.int ((10 : Int32) * f_value), .ref q] zc ky_X11_see kz_X11_see km_11_123 (c_m_see l hw) (mPreV0 hK hM) rfl rfl hl.1 (Nat.le_of_ble_eq_true rfl) ⟨rfl, rfl⟩ ⟨Nat.le_of_ble_eq_true rfl, Nat.le_of_ble_eq_true rfl⟩ ⟨Nat.zero_le _, Nat.zero_le _⟩ dX11_token_191 (fun r_3 hw => ?_)
      refine lv_iadd hx hb dX11_token_194 ?_
      refine lv_bipush (v := (48 : Int32)) hx hb dX11_token_195 (by decide) ?_
      refine lv_isub hx hb dX11_token_197 ?_
      refine lv_goto (tgt := 205) hx hb dX11_token_198 (by decide) ?_
      exact t_m_token_205 zc hK hM hS (fun _ _ _ H locs ls h hl hM hS => h H locs ls hl hM hS) (lv_sub hl [0, 1] rfl) hw
set_option maxRecDepth 20000 in
theorem t_m_token_18 {p : Program} {l : Launch} {e : Env} {s : State} {m : MethodId} {args : Array Value} {below : List Frame} {meth : Method} {c : Code} {E : zE} {q : Nat} {f_code : Int32} {a_tape : Nat → Int32} {a_size : Nat → Int32} {a_fault : Nat → Int32} {a_faultPlace : Nat → Int32} {a_many : Nat → Int32} {a_lands : Nat → Int32} {a_evenings : Nat → Int32} {a_sights : Nat → Int32} {a_choirs : Nat → Int32} {f_reached : Int32} {f_length : Int32} {f_begins : Int32} {f_sort : Int32} {f_value : Int32} {f_word : Int64} {f_wrongAt : Int32} {f_laterFault : Int32} {f_laterPlace : Int32} {a_told : Nat → Int32} {a_read : Nat → Int32} {f_farHut : Int32} {f_farSinger : Int32} {f_good : Int32} {f_land : Int32} {f_huts : Int32} {f_singers : Int32} {f_evening : Int32} {a_at : Nat → Int32} {a_knows : Nat → Int32} {a_climbed : Nat → Int32} {a_snow : Nat → Int32} {a_level : Nat → Int32} {f_begun : Int32} {f_minute : Int32} {f_avalanches : Int32} {a_run : Nat → Int32} {a_covers : Nat → Int32} {a_routes : Nat → Int32} {a_longest : Nat → Int32} {a_steep : Nat → Int32} {a_laid : Nat → Int32} {a_far : Nat → Int32} {f_sight : Int32} {a_runs : Nat → Int32} {f_choir : Int32} {f_voices : Int32} {a_rest : Nat → Int64} {a_wins : Nat → Int32} {f_seed : Int32} {a_other : Nat → Int32} {a_kept : Nat → Int32} {P0 : (Int32) → Prop} {post : (Int32) → (Int32) → (Int32) → (Int32) → (Int64) → Prop} {ls : Array Slot} {H : Heap} {locs : List Loc}
    (zc : zC p s m args meth c cX11_token 3 RX11 none)
    (hK : zK E s)
    (hM : mW E q f_code a_tape a_size a_fault a_faultPlace a_many a_lands a_evenings a_sights a_choirs f_reached f_length f_begins f_sort f_value f_word f_wrongAt f_laterFault f_laterPlace a_told a_read f_farHut f_farSinger f_good f_land f_huts f_singers f_evening a_at a_knows a_climbed a_snow a_level f_begun f_minute f_avalanches a_run a_covers a_routes a_longest a_steep a_laid a_far f_sight a_runs f_choir f_voices a_rest a_wins f_seed a_other a_kept H)
    (hS : va_S (mA q) s.heap H locs)
    (hP0 : ∀ (f_reached : Int32) (H : Heap) (locs : List Loc) (ls : Array Slot), P0 f_reached → lv_has ls 3 [(0, .ref q)] → mW E q f_code a_tape a_size a_fault a_faultPlace a_many a_lands a_evenings a_sights a_choirs f_reached f_length f_begins f_sort f_value f_word f_wrongAt f_laterFault f_laterPlace a_told a_read f_farHut f_farSinger f_good f_land f_huts f_singers f_evening a_at a_knows a_climbed a_snow a_level f_begun f_minute f_avalanches a_run a_covers a_routes a_longest a_steep a_laid a_far f_sight a_runs f_choir f_voices a_rest a_wins f_seed a_other a_kept H → va_S (mA q) s.heap H locs → W p l e rm_m_token s m args below meth c H locs 0 0 (MQ below (zQv (S := (Int32) × (Int32) × (Int32) × (Int32) × (Int64)) (fun u => post u.1 u.2.1 u.2.2.1 u.2.2.2.1 u.2.2.2.2) (fun u H => mW E q f_code a_tape a_size a_fault a_faultPlace a_many a_lands a_evenings a_sights a_choirs u.1 f_length u.2.1 u.2.2.1 u.2.2.2.1 u.2.2.2.2 f_wrongAt f_laterFault f_laterPlace a_told a_read f_farHut f_farSinger f_good f_land f_huts f_singers f_evening a_at a_knows a_climbed a_snow a_level f_begun f_minute f_avalanches a_run a_covers a_routes a_longest a_steep a_laid a_far f_sight a_runs f_choir f_voices a_rest a_wins f_seed a_other a_kept H) (mA q)) args s 0 0 (mA q)) (F0 m 0 ls []))
    (hl : lv_has ls 3 [(0, .ref q)])
    (hw : q_m_token_18 P0 a_tape f_reached f_length f_begins f_sort f_value f_word post) :
    W p l e rm_m_token s m args below meth c H locs 0 0 (MQ below (zQv (S := (Int32) × (Int32) × (Int32) × (Int32) × (Int64)) (fun u => post u.1 u.2.1 u.2.2.1 u.2.2.2.1 u.2.2.2.2) (fun u H => mW E q f_code a_tape a_size a_fault a_faultPlace a_many a_lands a_evenings a_sights a_choirs u.1 f_length u.2.1 u.2.2.1 u.2.2.2.1 u.2.2.2.2 f_wrongAt f_laterFault f_laterPlace a_told a_read f_farHut f_farSinger f_good f_land f_huts f_singers f_evening a_at a_knows a_climbed a_snow a_level f_begun f_minute f_avalanches a_run a_covers a_routes a_longest a_steep a_laid a_far f_sight a_runs f_choir f_voices a_rest a_wins f_seed a_other a_kept H) (mA q)) args s 0 0 (mA q)) (F0 m 18 ls []) := by
  have hx := zc.1
  have hb := zc.2.1
  refine lv_aload_n hx hb dX11_token_18 rfl (lv_at hl 0 rfl) ?_
  refine lv_dup hx hb dX11_token_19 rfl ?_
  refine mg_11_117_0 zc hK hM dX11_token_20 ?_
  refine lv_iconst (v := (1 : Int32)) hx hb dX11_token_23 (by decide) ?_
  refine lv_iadd hx hb dX11_token_24 ?_
  refine lv_topi (fun v_1 ev_1 => ?_)
  have hw := hw v_1 ev_1
  refine mp_11_117_0 zc hK hM hS dX11_token_25 (fun H locs hM hS => ?_)
  refine lv_goto (tgt := 0) hx hb dX11_token_28 (by decide) ?_
  exact hP0 _ _ _ _ hw (lv_sub hl [0] rfl) hM hS
set_option maxRecDepth 20000 in
theorem t_m_token_263 {p : Program} {l : Launch} {e : Env} {s : State} {m : MethodId} {args : Array Value} {below : List Frame} {meth : Method} {c : Code} {E : zE} {q : Nat} {f_code : Int32} {a_tape : Nat → Int32} {a_size : Nat → Int32} {a_fault : Nat → Int32} {a_faultPlace : Nat → Int32} {a_many : Nat → Int32} {a_lands : Nat → Int32} {a_evenings : Nat → Int32} {a_sights : Nat → Int32} {a_choirs : Nat → Int32} {f_reached : Int32} {f_length : Int32} {f_begins : Int32} {f_sort : Int32} {f_value : Int32} {f_word : Int64} {f_wrongAt : Int32} {f_laterFault : Int32} {f_laterPlace : Int32} {a_told : Nat → Int32} {a_read : Nat → Int32} {f_farHut : Int32} {f_farSinger : Int32} {f_good : Int32} {f_land : Int32} {f_huts : Int32} {f_singers : Int32} {f_evening : Int32} {a_at : Nat → Int32} {a_knows : Nat → Int32} {a_climbed : Nat → Int32} {a_snow : Nat → Int32} {a_level : Nat → Int32} {f_begun : Int32} {f_minute : Int32} {f_avalanches : Int32} {a_run : Nat → Int32} {a_covers : Nat → Int32} {a_routes : Nat → Int32} {a_longest : Nat → Int32} {a_steep : Nat → Int32} {a_laid : Nat → Int32} {a_far : Nat → Int32} {f_sight : Int32} {a_runs : Nat → Int32} {f_choir : Int32} {f_voices : Int32} {a_rest : Nat → Int64} {a_wins : Nat → Int32} {f_seed : Int32} {a_other : Nat → Int32} {a_kept : Nat → Int32} {post : (Int32) → (Int32) → (Int32) → (Int32) → (Int64) → Prop} {y0 : Int32} {ls : Array Slot} {H : Heap} {locs : List Loc}
    (zc : zC p s m args meth c cX11_token 3 RX11 none)
    (hK : zK E s)
    (hM : mW E q f_code a_tape a_size a_fault a_faultPlace a_many a_lands a_evenings a_sights a_choirs f_reached f_length f_begins f_sort f_value f_word f_wrongAt f_laterFault f_laterPlace a_told a_read f_farHut f_farSinger f_good f_land f_huts f_singers f_evening a_at a_knows a_climbed a_snow a_level f_begun f_minute f_avalanches a_run a_covers a_routes a_longest a_steep a_laid a_far f_sight a_runs f_choir f_voices a_rest a_wins f_seed a_other a_kept H)
    (hS : va_S (mA q) s.heap H locs)
    (hl : lv_has ls 3 [])
    (hw : q_m_token_263 a_tape f_reached f_length f_begins f_sort f_value f_word y0 post) :
    W p l e rm_m_token s m args below meth c H locs 0 0 (MQ below (zQv (S := (Int32) × (Int32) × (Int32) × (Int32) × (Int64)) (fun u => post u.1 u.2.1 u.2.2.1 u.2.2.2.1 u.2.2.2.2) (fun u H => mW E q f_code a_tape a_size a_fault a_faultPlace a_many a_lands a_evenings a_sights a_choirs u.1 f_length u.2.1 u.2.2.1 u.2.2.2.1 u.2.2.2.2 f_wrongAt f_laterFault f_laterPlace a_told a_read f_farHut f_farSinger f_good f_land f_huts f_singers f_evening a_at a_knows a_climbed a_snow a_level f_begun f_minute f_avalanches a_run a_covers a_routes a_longest a_steep a_laid a_far f_sight a_runs f_choir f_voices a_rest a_wins f_seed a_other a_kept H) (mA q)) args s 0 0 (mA q)) (F0 m 263 ls [.int y0, .ref q]) := by
  have hx := zc.1
  have hb := zc.2.1
  refine mp_11_134_0 zc hK hM hS dX11_token_263 (fun H locs hM hS => ?_)
  exact zret_vw ⟨f_reached, f_begins, y0, f_value, f_word⟩ zc hS hw hM dX11_token_266
set_option maxRecDepth 20000 in
theorem t_m_token_136 {p : Program} {l : Launch} {e : Env} {s : State} {m : MethodId} {args : Array Value} {below : List Frame} {meth : Method} {c : Code} {E : zE} {q : Nat} {f_code : Int32} {a_tape : Nat → Int32} {a_size : Nat → Int32} {a_fault : Nat → Int32} {a_faultPlace : Nat → Int32} {a_many : Nat → Int32} {a_lands : Nat → Int32} {a_evenings : Nat → Int32} {a_sights : Nat → Int32} {a_choirs : Nat → Int32} {f_reached : Int32} {f_length : Int32} {f_begins : Int32} {f_sort : Int32} {f_value : Int32} {f_word : Int64} {f_wrongAt : Int32} {f_laterFault : Int32} {f_laterPlace : Int32} {a_told : Nat → Int32} {a_read : Nat → Int32} {f_farHut : Int32} {f_farSinger : Int32} {f_good : Int32} {f_land : Int32} {f_huts : Int32} {f_singers : Int32} {f_evening : Int32} {a_at : Nat → Int32} {a_knows : Nat → Int32} {a_climbed : Nat → Int32} {a_snow : Nat → Int32} {a_level : Nat → Int32} {f_begun : Int32} {f_minute : Int32} {f_avalanches : Int32} {a_run : Nat → Int32} {a_covers : Nat → Int32} {a_routes : Nat → Int32} {a_longest : Nat → Int32} {a_steep : Nat → Int32} {a_laid : Nat → Int32} {a_far : Nat → Int32} {f_sight : Int32} {a_runs : Nat → Int32} {f_choir : Int32} {f_voices : Int32} {a_rest : Nat → Int64} {a_wins : Nat → Int32} {f_seed : Int32} {a_other : Nat → Int32} {a_kept : Nat → Int32} {post : (Int32) → (Int32) → (Int32) → (Int32) → (Int64) → Prop} {y0 : Int64} {ls : Array Slot} {H : Heap} {locs : List Loc}
    (zc : zC p s m args meth c cX11_token 3 RX11 none)
    (hK : zK E s)
    (hM : mW E q f_code a_tape a_size a_fault a_faultPlace a_many a_lands a_evenings a_sights a_choirs f_reached f_length f_begins f_sort f_value f_word f_wrongAt f_laterFault f_laterPlace a_told a_read f_farHut f_farSinger f_good f_land f_huts f_singers f_evening a_at a_knows a_climbed a_snow a_level f_begun f_minute f_avalanches a_run a_covers a_routes a_longest a_steep a_laid a_far f_sight a_runs f_choir f_voices a_rest a_wins f_seed a_other a_kept H)
    (hS : va_S (mA q) s.heap H locs)
    (hl : lv_has ls 3 [(0, .ref q)])
    (hw : q_m_token_136 a_tape f_reached f_length f_begins f_sort f_value f_word y0 post) :
    W p l e rm_m_token s m args below meth c H locs 0 0 (MQ below (zQv (S := (Int32) × (Int32) × (Int32) × (Int32) × (Int64)) (fun u => post u.1 u.2.1 u.2.2.1 u.2.2.2.1 u.2.2.2.2) (fun u H => mW E q f_code a_tape a_size a_fault a_faultPlace a_many a_lands a_evenings a_sights a_choirs u.1 f_length u.2.1 u.2.2.1 u.2.2.2.1 u.2.2.2.2 f_wrongAt f_laterFault f_laterPlace a_told a_read f_farHut f_farSinger f_good f_land f_huts f_singers f_evening a_at a_knows a_climbed a_snow a_level f_begun f_minute f_avalanches a_run a_covers a_routes a_longest a_steep a_laid a_far f_sight a_runs f_choir f_voices a_rest a_wins f_seed a_other a_kept H) (mA q)) args s 0 0 (mA q)) (F0 m 136 ls [.long y0, .ref q]) := by
  have hx := zc.1
  have hb := zc.2.1
  refine mp_11_130_0 zc hK hM hS dX11_token_136 (fun H locs hM hS => ?_)
  refine lv_aload_n hx hb dX11_token_139 rfl (lv_at hl 0 rfl) ?_
  refine lv_iconst (v := (2 : Int32)) hx hb dX11_token_140 (by decide) ?_
  refine mp_11_134_0 zc hK hM hS dX11_token_141 (fun H locs hM hS => ?_)
  refine lv_goto (tgt := 266) hx hb dX11_token_144 (by decide) ?_
  exact zret_vw ⟨f_reached, f_begins, (2 : Int32), f_value, y0⟩ zc hS hw hM dX11_token_266
set_option maxRecDepth 20000 in
theorem t_m_token_74 {p : Program} {l : Launch} {e : Env} {s : State} {m : MethodId} {args : Array Value} {below : List Frame} {meth : Method} {c : Code} {E : zE} {q : Nat} {f_code : Int32} {a_tape : Nat → Int32} {a_size : Nat → Int32} {a_fault : Nat → Int32} {a_faultPlace : Nat → Int32} {a_many : Nat → Int32} {a_lands : Nat → Int32} {a_evenings : Nat → Int32} {a_sights : Nat → Int32} {a_choirs : Nat → Int32} {f_reached : Int32} {f_length : Int32} {f_begins : Int32} {f_sort : Int32} {f_value : Int32} {f_word : Int64} {f_wrongAt : Int32} {f_laterFault : Int32} {f_laterPlace : Int32} {a_told : Nat → Int32} {a_read : Nat → Int32} {f_farHut : Int32} {f_farSinger : Int32} {f_good : Int32} {f_land : Int32} {f_huts : Int32} {f_singers : Int32} {f_evening : Int32} {a_at : Nat → Int32} {a_knows : Nat → Int32} {a_climbed : Nat → Int32} {a_snow : Nat → Int32} {a_level : Nat → Int32} {f_begun : Int32} {f_minute : Int32} {f_avalanches : Int32} {a_run : Nat → Int32} {a_covers : Nat → Int32} {a_routes : Nat → Int32} {a_longest : Nat → Int32} {a_steep : Nat → Int32} {a_laid : Nat → Int32} {a_far : Nat → Int32} {f_sight : Int32} {a_runs : Nat → Int32} {f_choir : Int32} {f_voices : Int32} {a_rest : Nat → Int64} {a_wins : Nat → Int32} {f_seed : Int32} {a_other : Nat → Int32} {a_kept : Nat → Int32} {post : (Int32) → (Int32) → (Int32) → (Int32) → (Int64) → Prop} {x2 : Int32} {ls : Array Slot} {H : Heap} {locs : List Loc}
    (zc : zC p s m args meth c cX11_token 3 RX11 none)
    (hK : zK E s)
    (hM : mW E q f_code a_tape a_size a_fault a_faultPlace a_many a_lands a_evenings a_sights a_choirs f_reached f_length f_begins f_sort f_value f_word f_wrongAt f_laterFault f_laterPlace a_told a_read f_farHut f_farSinger f_good f_land f_huts f_singers f_evening a_at a_knows a_climbed a_snow a_level f_begun f_minute f_avalanches a_run a_covers a_routes a_longest a_steep a_laid a_far f_sight a_runs f_choir f_voices a_rest a_wins f_seed a_other a_kept H)
    (hS : va_S (mA q) s.heap H locs)
    (hl : lv_has ls 3 [(0, .ref q), (2, .int x2)])
    (hw : q_m_token_74 a_tape f_reached f_length f_begins f_sort f_value f_word x2 post) :
    W p l e rm_m_token s m args below meth c H locs 0 0 (MQ below (zQv (S := (Int32) × (Int32) × (Int32) × (Int32) × (Int64)) (fun u => post u.1 u.2.1 u.2.2.1 u.2.2.2.1 u.2.2.2.2) (fun u H => mW E q f_code a_tape a_size a_fault a_faultPlace a_many a_lands a_evenings a_sights a_choirs u.1 f_length u.2.1 u.2.2.1 u.2.2.2.1 u.2.2.2.2 f_wrongAt f_laterFault f_laterPlace a_told a_read f_farHut f_farSinger f_good f_land f_huts f_singers f_evening a_at a_knows a_climbed a_snow a_level f_begun f_minute f_avalanches a_run a_covers a_routes a_longest a_steep a_laid a_far f_sight a_runs f_choir f_voices a_rest a_wins f_seed a_other a_kept H) (mA q)) args s 0 0 (mA q)) (F0 m 74 ls []) := by
  have hx := zc.1
  have hb := zc.2.1
  refine hw (fun x2 f_reached f_word => ∀ (H : Heap) (locs : List Loc) (ls : Array Slot), lv_has ls 3 [(0, .ref q), (2, .int x2)] → mW E q f_code a_tape a_size a_fault a_faultPlace a_many a_lands a_evenings a_sights a_choirs f_reached f_length f_begins f_sort f_value f_word f_wrongAt f_laterFault f_laterPlace a_told a_read f_farHut f_farSinger f_good f_land f_huts f_singers f_evening a_at a_knows a_climbed a_snow a_level f_begun f_minute f_avalanches a_run a_covers a_routes a_longest a_steep a_laid a_far f_sight a_runs f_choir f_voices a_rest a_wins f_seed a_other a_kept H → va_S (mA q) s.heap H locs → W p l e rm_m_token s m args below meth c H locs 0 0 (MQ below (zQv (S := (Int32) × (Int32) × (Int32) × (Int32) × (Int64)) (fun u => post u.1 u.2.1 u.2.2.1 u.2.2.2.1 u.2.2.2.2) (fun u H => mW E q f_code a_tape a_size a_fault a_faultPlace a_many a_lands a_evenings a_sights a_choirs u.1 f_length u.2.1 u.2.2.1 u.2.2.2.1 u.2.2.2.2 f_wrongAt f_laterFault f_laterPlace a_told a_read f_farHut f_farSinger f_good f_land f_huts f_singers f_evening a_at a_knows a_climbed a_snow a_level f_begun f_minute f_avalanches a_run a_covers a_routes a_longest a_steep a_laid a_far f_sight a_runs f_choir f_voices a_rest a_wins f_seed a_other a_kept H) (mA q)) args s 0 0 (mA q)) (F0 m 74 ls [])) ?_ _ _ _ hl hM hS
  intro x2 f_reached f_word hw H locs ls hl hM hS
  refine lv_aload_n hx hb dX11_token_74 rfl (lv_at hl 0 rfl) ?_
  refine zV_i [] [] zc ky_X11_see kz_X11_see km_11_123 (c_m_see l hw) (mPreV0 hK hM) rfl rfl hl.1 (Nat.le_of_ble_eq_true rfl) ⟨rfl, rfl⟩ ⟨Nat.le_of_ble_eq_true rfl, Nat.le_of_ble_eq_true rfl⟩ ⟨Nat.zero_le _, Nat.zero_le _⟩ dX11_token_75 (fun r_1 hw => ?_)
  refine lv_bipush (v := (97 : Int32)) hx hb dX11_token_78 (by decide) ?_
  refine lv_bipush (v := (122 : Int32)) hx hb dX11_token_80 (by decide) ?_
  refine zS_i [.int r_1, .int (97 : Int32), .int (122 : Int32)] [] zc ky_X11_in kz_X11_in km_11_109 (c_m_in l hw) (zPre0 _) rfl rfl hl.1 (Nat.le_of_ble_eq_true rfl) ⟨rfl, rfl⟩ ⟨Nat.le_of_ble_eq_true rfl, Nat.le_of_ble_eq_true rfl⟩ ⟨Nat.zero_le _, Nat.zero_le _⟩ dX11_token_82 (fun r_2 hw => ?_)
  refine lv_if_eq (tgt := 121) hx hb dX11_token_85 (by decide) (fun hc => ?_) (fun hc => ?_)
  · have hw := hw.1 hc
    refine lv_aload_n hx hb dX11_token_121 rfl (lv_at hl 0 rfl) ?_
    refine lv_iload_n hx hb dX11_token_122 rfl (lv_at hl 1 rfl) ?_
    refine lv_bipush (v := (8 : Int32)) hx hb dX11_token_123 (by decide) ?_
    refine lv_icmp_le (tgt := 132) hx hb dX11_token_125 (by decide) (fun hc => ?_) (fun hc => ?_)
    · have hw := hw.1 hc
      refine lv_aload_n hx hb dX11_token_132 rfl (lv_at hl 0 rfl) ?_
      refine mg_11_130_0 zc hK hM dX11_token_133 ?_
      exact t_m_token_136 zc hK hM hS  (lv_sub hl [0] rfl) hw
    · have hw := hw.2 hc
      refine lv_lconst (v := (0 : Int64)) hx hb dX11_token_128 (by decide) ?_
      refine lv_goto (tgt := 136) hx hb dX11_token_129 (by decide) ?_
      exact t_m_token_136 zc hK hM hS  (lv_sub hl [0] rfl) hw
  · have hw := hw.2 hc
    refine lv_aload_n hx hb dX11_token_88 rfl (lv_at hl 0 rfl) ?_
    refine lv_aload_n hx hb dX11_token_89 rfl (lv_at hl 0 rfl) ?_
    refine mg_11_130_0 zc hK hM dX11_token_90 ?_
    refine lv_bipush (v := (8 : Int32)) hx hb dX11_token_93 (by decide) ?_
    refine lv_lshl hx hb dX11_token_95 rfl ?_
    refine lv_aload_n hx hb dX11_token_96 rfl (lv_at hl 0 rfl) ?_
    refine zV_i [] [.long (f_word <<< (Int32.toInt64 (8 : Int32) &&& 63)), .ref q] zc ky_X11_see kz_X11_see km_11_123 (c_m_see l hw) (mPreV0 hK hM) rfl rfl hl.1 (Nat.le_of_ble_eq_true rfl) ⟨rfl, rfl⟩ ⟨Nat.le_of_ble_eq_true rfl, Nat.le_of_ble_eq_true rfl⟩ ⟨Nat.zero_le _, Nat.zero_le _⟩ dX11_token_97 (fun r_3 hw => ?_)
    refine lv_i2l hx hb dX11_token_100 rfl ?_
    refine lv_lor hx hb dX11_token_101 ?_
    refine lv_topl (fun v_1 ev_1 => ?_)
    have hw := hw v_1 ev_1
    refine mp_11_130_0 zc hK hM hS dX11_token_102 (fun H locs hM hS => ?_)
    refine lv_aload_n hx hb dX11_token_105 rfl (lv_at hl 0 rfl) ?_
    refine lv_dup hx hb dX11_token_106 rfl ?_
    refine mg_11_117_0 zc hK hM dX11_token_107 ?_
    refine lv_iconst (v := (1 : Int32)) hx hb dX11_token_110 (by decide) ?_
    refine lv_iadd hx hb dX11_token_111 ?_
    refine lv_topi (fun v_2 ev_2 => ?_)
    have hw := hw v_2 ev_2
    refine mp_11_117_0 zc hK hM hS dX11_token_112 (fun H locs hM hS => ?_)
    obtain ⟨v_3, ev_3⟩ : ∃ y : Int32, y = x2 + (1 : Int32) := ⟨_, rfl⟩
    have hw := hw v_3 ev_3
    refine lv_iinc (v := v_3) (k := 1) (lv' := [(2, .int v_3), (0, .ref q)]) hx hb dX11_token_115 hl rfl (by rw [ev_3]; rfl) (by decide) rfl (fun ls hl => ?_)
    refine lv_goto (tgt := 74) hx hb dX11_token_118 (by decide) ?_
    exact hw _ _ _ (lv_sub hl [1, 0] rfl) hM hS
set_option maxRecDepth 20000 in
theorem t_m_token_0 {p : Program} {l : Launch} {e : Env} {s : State} {m : MethodId} {args : Array Value} {below : List Frame} {meth : Method} {c : Code} {E : zE} {q : Nat} {f_code : Int32} {a_tape : Nat → Int32} {a_size : Nat → Int32} {a_fault : Nat → Int32} {a_faultPlace : Nat → Int32} {a_many : Nat → Int32} {a_lands : Nat → Int32} {a_evenings : Nat → Int32} {a_sights : Nat → Int32} {a_choirs : Nat → Int32} {f_reached : Int32} {f_length : Int32} {f_begins : Int32} {f_sort : Int32} {f_value : Int32} {f_word : Int64} {f_wrongAt : Int32} {f_laterFault : Int32} {f_laterPlace : Int32} {a_told : Nat → Int32} {a_read : Nat → Int32} {f_farHut : Int32} {f_farSinger : Int32} {f_good : Int32} {f_land : Int32} {f_huts : Int32} {f_singers : Int32} {f_evening : Int32} {a_at : Nat → Int32} {a_knows : Nat → Int32} {a_climbed : Nat → Int32} {a_snow : Nat → Int32} {a_level : Nat → Int32} {f_begun : Int32} {f_minute : Int32} {f_avalanches : Int32} {a_run : Nat → Int32} {a_covers : Nat → Int32} {a_routes : Nat → Int32} {a_longest : Nat → Int32} {a_steep : Nat → Int32} {a_laid : Nat → Int32} {a_far : Nat → Int32} {f_sight : Int32} {a_runs : Nat → Int32} {f_choir : Int32} {f_voices : Int32} {a_rest : Nat → Int64} {a_wins : Nat → Int32} {f_seed : Int32} {a_other : Nat → Int32} {a_kept : Nat → Int32} {post : (Int32) → (Int32) → (Int32) → (Int32) → (Int64) → Prop} {ls : Array Slot} {H : Heap} {locs : List Loc}
    (zc : zC p s m args meth c cX11_token 3 RX11 none)
    (hK : zK E s)
    (hM : mW E q f_code a_tape a_size a_fault a_faultPlace a_many a_lands a_evenings a_sights a_choirs f_reached f_length f_begins f_sort f_value f_word f_wrongAt f_laterFault f_laterPlace a_told a_read f_farHut f_farSinger f_good f_land f_huts f_singers f_evening a_at a_knows a_climbed a_snow a_level f_begun f_minute f_avalanches a_run a_covers a_routes a_longest a_steep a_laid a_far f_sight a_runs f_choir f_voices a_rest a_wins f_seed a_other a_kept H)
    (hS : va_S (mA q) s.heap H locs)
    (hl : lv_has ls 3 [(0, .ref q)])
    (hw : q_m_token_0 a_tape f_reached f_length f_begins f_sort f_value f_word post) :
    W p l e rm_m_token s m args below meth c H locs 0 0 (MQ below (zQv (S := (Int32) × (Int32) × (Int32) × (Int32) × (Int64)) (fun u => post u.1 u.2.1 u.2.2.1 u.2.2.2.1 u.2.2.2.2) (fun u H => mW E q f_code a_tape a_size a_fault a_faultPlace a_many a_lands a_evenings a_sights a_choirs u.1 f_length u.2.1 u.2.2.1 u.2.2.2.1 u.2.2.2.2 f_wrongAt f_laterFault f_laterPlace a_told a_read f_farHut f_farSinger f_good f_land f_huts f_singers f_evening a_at a_knows a_climbed a_snow a_level f_begun f_minute f_avalanches a_run a_covers a_routes a_longest a_steep a_laid a_far f_sight a_runs f_choir f_voices a_rest a_wins f_seed a_other a_kept H) (mA q)) args s 0 0 (mA q)) (F0 m 0 ls []) := by
  have hx := zc.1
  have hb := zc.2.1
  refine hw (fun f_reached => ∀ (H : Heap) (locs : List Loc) (ls : Array Slot), lv_has ls 3 [(0, .ref q)] → mW E q f_code a_tape a_size a_fault a_faultPlace a_many a_lands a_evenings a_sights a_choirs f_reached f_length f_begins f_sort f_value f_word f_wrongAt f_laterFault f_laterPlace a_told a_read f_farHut f_farSinger f_good f_land f_huts f_singers f_evening a_at a_knows a_climbed a_snow a_level f_begun f_minute f_avalanches a_run a_covers a_routes a_longest a_steep a_laid a_far f_sight a_runs f_choir f_voices a_rest a_wins f_seed a_other a_kept H → va_S (mA q) s.heap H locs → W p l e rm_m_token s m args below meth c H locs 0 0 (MQ below (zQv (S := (Int32) × (Int32) × (Int32) × (Int32) × (Int64)) (fun u => post u.1 u.2.1 u.2.2.1 u.2.2.2.1 u.2.2.2.2) (fun u H => mW E q f_code a_tape a_size a_fault a_faultPlace a_many a_lands a_evenings a_sights a_choirs u.1 f_length u.2.1 u.2.2.1 u.2.2.2.1 u.2.2.2.2 f_wrongAt f_laterFault f_laterPlace a_told a_read f_farHut f_farSinger f_good f_land f_huts f_singers f_evening a_at a_knows a_climbed a_snow a_level f_begun f_minute f_avalanches a_run a_covers a_routes a_longest a_steep a_laid a_far f_sight a_runs f_choir f_voices a_rest a_wins f_seed a_other a_kept H) (mA q)) args s 0 0 (mA q)) (F0 m 0 ls [])) ?_ _ _ _ hl hM hS
  intro f_reached hw H locs ls hl hM hS
  refine lv_aload_n hx hb dX11_token_0 rfl (lv_at hl 0 rfl) ?_
  refine zV_i [] [] zc ky_X11_see kz_X11_see km_11_123 (c_m_see l hw) (mPreV0 hK hM) rfl rfl hl.1 (Nat.le_of_ble_eq_true rfl) ⟨rfl, rfl⟩ ⟨Nat.le_of_ble_eq_true rfl, Nat.le_of_ble_eq_true rfl⟩ ⟨Nat.zero_le _, Nat.zero_le _⟩ dX11_token_1 (fun r_1 hw => ?_)
  refine lv_bipush (v := (10 : Int32)) hx hb dX11_token_4 (by decide) ?_
  refine lv_icmp_eq (tgt := 18) hx hb dX11_token_6 (by decide) (fun hc => ?_) (fun hc => ?_)
  · have hw := hw.1 hc
    exact t_m_token_18 zc hK hM hS (fun _ H locs ls h hl hM hS => h H locs ls hl hM hS) (lv_sub hl [0] rfl) hw
  · have hw := hw.2 hc
    refine lv_aload_n hx hb dX11_token_9 rfl (lv_at hl 0 rfl) ?_
    refine zV_i [] [] zc ky_X11_see kz_X11_see km_11_123 (c_m_see l hw) (mPreV0 hK hM) rfl rfl hl.1 (Nat.le_of_ble_eq_true rfl) ⟨rfl, rfl⟩ ⟨Nat.le_of_ble_eq_true rfl, Nat.le_of_ble_eq_true rfl⟩ ⟨Nat.zero_le _, Nat.zero_le _⟩ dX11_token_10 (fun r_2 hw => ?_)
    refine lv_bipush (v := (32 : Int32)) hx hb dX11_token_13 (by decide) ?_
    refine lv_icmp_ne (tgt := 31) hx hb dX11_token_15 (by decide) (fun hc => ?_) (fun hc => ?_)
    · have hw := hw.1 hc
      refine lv_aload_n hx hb dX11_token_31 rfl (lv_at hl 0 rfl) ?_
      refine lv_aload_n hx hb dX11_token_32 rfl (lv_at hl 0 rfl) ?_
      refine mg_11_117_0 zc hK hM dX11_token_33 ?_
      refine mp_11_127_0 zc hK hM hS dX11_token_36 (fun H locs hM hS => ?_)
      refine lv_aload_n hx hb dX11_token_39 rfl (lv_at hl 0 rfl) ?_
      refine zV_i [] [] zc ky_X11_see kz_X11_see km_11_123 (c_m_see l hw) (mPreV0 hK hM) rfl rfl hl.1 (Nat.le_of_ble_eq_true rfl) ⟨rfl, rfl⟩ ⟨Nat.le_of_ble_eq_true rfl, Nat.le_of_ble_eq_true rfl⟩ ⟨Nat.zero_le _, Nat.zero_le _⟩ dX11_token_40 (fun r_3 hw => ?_)
      refine lv_istore_n (lv' := [(1, .int r_3), (0, .ref q)]) hx hb dX11_token_43 rfl hl (by decide) rfl (fun ls hl => ?_)
      refine lv_aload_n hx hb dX11_token_44 rfl (lv_at hl 1 rfl) ?_
      refine lv_lconst (v := (0 : Int64)) hx hb dX11_token_45 (by decide) ?_
      refine mp_11_130_0 zc hK hM hS dX11_token_46 (fun H locs hM hS => ?_)
      refine lv_iconst (v := (0 : Int32)) hx hb dX11_token_49 (by decide) ?_
      refine lv_istore_n (lv' := [(2, .int (0 : Int32)), (1, .int r_3), (0, .ref q)]) hx hb dX11_token_50 rfl hl (by decide) rfl (fun ls hl => ?_)
      refine lv_iload_n hx hb dX11_token_51 rfl (lv_at hl 1 rfl) ?_
      refine lv_if_ge (tgt := 63) hx hb dX11_token_52 (by decide) (fun hc => ?_) (fun hc => ?_)
      · have hw := hw.1 hc
        refine lv_iload_n hx hb dX11_token_63 rfl (lv_at hl 1 rfl) ?_
        refine lv_bipush (v := (97 : Int32)) hx hb dX11_token_64 (by decide) ?_
        refine lv_bipush (v := (122 : Int32)) hx hb dX11_token_66 (by decide) ?_
        refine zS_i [.int r_3, .int (97 : Int32), .int (122 : Int32)] [] zc ky_X11_in kz_X11_in km_11_109 (c_m_in l hw) (zPre0 _) rfl rfl hl.1 (Nat.le_of_ble_eq_true rfl) ⟨rfl, rfl⟩ ⟨Nat.le_of_ble_eq_true rfl, Nat.le_of_ble_eq_true rfl⟩ ⟨Nat.zero_le _, Nat.zero_le _⟩ dX11_token_68 (fun r_4 hw => ?_)
        refine lv_if_eq (tgt := 147) hx hb dX11_token_71 (by decide) (fun hc => ?_) (fun hc => ?_)
        · have hw := hw.1 hc
          refine lv_iload_n hx hb dX11_token_147 rfl (lv_at hl 1 rfl) ?_
          refine lv_bipush (v := (48 : Int32)) hx hb dX11_token_148 (by decide) ?_
          refine lv_bipush (v := (57 : Int32)) hx hb dX11_token_150 (by decide) ?_
          refine zS_i [.int r_3, .int (48 : Int32), .int (57 : Int32)] [] zc ky_X11_in kz_X11_in km_11_109 (c_m_in l hw) (zPre0 _) rfl rfl hl.1 (Nat.le_of_ble_eq_true rfl) ⟨rfl, rfl⟩ ⟨Nat.le_of_ble_eq_true rfl, Nat.le_of_ble_eq_true rfl⟩ ⟨Nat.zero_le _, Nat.zero_le _⟩ dX11_token_152 (fun r_5 hw => ?_)
          refine lv_if_eq (tgt := 241) hx hb dX11_token_155 (by decide) (fun hc => ?_) (fun hc => ?_)
          · have hw := hw.1 hc
            refine lv_aload_n hx hb dX11_token_241 rfl (lv_at hl 2 rfl) ?_
            refine lv_dup hx hb dX11_token_242 rfl ?_
            refine mg_11_117_0 zc hK hM dX11_token_243 ?_
            refine lv_iconst (v := (1 : Int32)) hx hb dX11_token_246 (by decide) ?_
            refine lv_iadd hx hb dX11_token_247 ?_
            refine lv_topi (fun v_1 ev_1 => ?_)
            have hw := hw v_1 ev_1
            refine mp_11_117_0 zc hK hM hS dX11_token_248 (fun H locs hM hS => ?_)
            refine lv_aload_n hx hb dX11_token_251 rfl (lv_at hl 2 rfl) ?_
            refine lv_iload_n hx hb dX11_token_252 rfl (lv_at hl 1 rfl) ?_
            refine lv_bipush (v := (59 : Int32)) hx hb dX11_token_253 (by decide) ?_
            refine lv_icmp_ne (tgt := 262) hx hb dX11_token_255 (by decide) (fun hc => ?_) (fun hc => ?_)
            · have hw := hw.1 hc
              refine lv_iconst (v := (1 : Int32)) hx hb dX11_token_262 (by decide) ?_
              exact t_m_token_263 zc hK hM hS  (lv_sub hl [] rfl) hw
            · have hw := hw.2 hc
              refine lv_iconst (v := (4 : Int32)) hx hb dX11_token_258 (by decide) ?_
              refine lv_goto (tgt := 263) hx hb dX11_token_259 (by decide) ?_
              exact t_m_token_263 zc hK hM hS  (lv_sub hl [] rfl) hw
          · have hw := hw.2 hc
            refine lv_aload_n hx hb dX11_token_158 rfl (lv_at hl 2 rfl) ?_
            refine lv_iconst (v := (0 : Int32)) hx hb dX11_token_159 (by decide) ?_
            refine mp_11_137_0 zc hK hM hS dX11_token_160 (fun H locs hM hS => ?_)
            exact t_m_token_163 zc hK hM hS  (lv_sub hl [2, 0] rfl) hw
        · have hw := hw.2 hc
          exact t_m_token_74 zc hK hM hS  (lv_sub hl [2, 0] rfl) hw
      · have hw := hw.2 hc
        refine lv_aload_n hx hb dX11_token_55 rfl (lv_at hl 2 rfl) ?_
        refine lv_iconst (v := (0 : Int32)) hx hb dX11_token_56 (by decide) ?_
        refine mp_11_134_0 zc hK hM hS dX11_token_57 (fun H locs hM hS => ?_)
        refine lv_goto (tgt := 266) hx hb dX11_token_60 (by decide) ?_
        exact zret_vw ⟨f_reached, f_reached, (0 : Int32), f_value, (0 : Int64)⟩ zc hS hw hM dX11_token_266
    · have hw := hw.2 hc
      exact t_m_token_18 zc hK hM hS (fun _ H locs ls h hl hM hS => h H locs ls hl hM hS) (lv_sub hl [0] rfl) hw
set_option maxRecDepth 20000 in
theorem c_m_token (l : Launch) {E : zE} {q : Nat} {f_code : Int32} {a_tape : Nat → Int32} {a_size : Nat → Int32} {a_fault : Nat → Int32} {a_faultPlace : Nat → Int32} {a_many : Nat → Int32} {a_lands : Nat → Int32} {a_evenings : Nat → Int32} {a_sights : Nat → Int32} {a_choirs : Nat → Int32} {f_reached : Int32} {f_length : Int32} {f_begins : Int32} {f_sort : Int32} {f_value : Int32} {f_word : Int64} {f_wrongAt : Int32} {f_laterFault : Int32} {f_laterPlace : Int32} {a_told : Nat → Int32} {a_read : Nat → Int32} {f_farHut : Int32} {f_farSinger : Int32} {f_good : Int32} {f_land : Int32} {f_huts : Int32} {f_singers : Int32} {f_evening : Int32} {a_at : Nat → Int32} {a_knows : Nat → Int32} {a_climbed : Nat → Int32} {a_snow : Nat → Int32} {a_level : Nat → Int32} {f_begun : Int32} {f_minute : Int32} {f_avalanches : Int32} {a_run : Nat → Int32} {a_covers : Nat → Int32} {a_routes : Nat → Int32} {a_longest : Nat → Int32} {a_steep : Nat → Int32} {a_laid : Nat → Int32} {a_far : Nat → Int32} {f_sight : Int32} {a_runs : Nat → Int32} {f_choir : Int32} {f_voices : Int32} {a_rest : Nat → Int64} {a_wins : Nat → Int32} {f_seed : Int32} {a_other : Nat → Int32} {a_kept : Nat → Int32} {post : (Int32) → (Int32) → (Int32) → (Int32) → (Int64) → Prop} (hw : q_m_token_0 a_tape f_reached f_length f_begins f_sort f_value f_word post) : Met l yX11_token (Cond.code yX11_token cX11_token 3 none :: zb) rm_m_token (va_Pc [.ref q] (fun U => mW E q f_code a_tape a_size a_fault a_faultPlace a_many a_lands a_evenings a_sights a_choirs f_reached f_length f_begins f_sort f_value f_word f_wrongAt f_laterFault f_laterPlace a_told a_read f_farHut f_farSinger f_good f_land f_huts f_singers f_evening a_at a_knows a_climbed a_snow a_level f_begun f_minute f_avalanches a_run a_covers a_routes a_longest a_steep a_laid a_far f_sight a_runs f_choir f_voices a_rest a_wins f_seed a_other a_kept U.heap ∧ zK E U)) (zQv (S := (Int32) × (Int32) × (Int32) × (Int32) × (Int64)) (fun u => post u.1 u.2.1 u.2.2.1 u.2.2.2.1 u.2.2.2.2) (fun u H => mW E q f_code a_tape a_size a_fault a_faultPlace a_many a_lands a_evenings a_sights a_choirs u.1 f_length u.2.1 u.2.2.1 u.2.2.2.1 u.2.2.2.2 f_wrongAt f_laterFault f_laterPlace a_told a_read f_farHut f_farSinger f_good f_land f_huts f_singers f_evening a_at a_knows a_climbed a_snow a_level f_begun f_minute f_avalanches a_run a_covers a_routes a_longest a_steep a_laid a_far f_sight a_runs f_choir f_voices a_rest a_wins f_seed a_other a_kept H) (mA q)) 0 0 (mA q) := by
  refine Met.ofW (cc := cX11_token) (maxL := 3) (ret := none) (by decide) rfl ?_
  intro p e s m args below meth c s₁ B hml hv
  obtain ⟨rfl, hM, hK⟩ := hv
  have zc := zc_of B hml
  have hl := lv_entry ([.ref q]) (n := 3) (Nat.le_of_ble_eq_true rfl)
  rw [lg_entry_eq]
  generalize (lg_sl ([.ref q]) ++ List.replicate (3 - (lg_sl ([.ref q])).length) Slot.unset).toArray = ls at hl ⊢
  have hl : lv_has ls 3 [(0, .ref q)] := hl
  exact t_m_token_0 zc hK hM va_S.rf (lv_sub hl [0] rfl) hw
-- m_lines
abbrev rm_m_lines : Room := { frames := 0, cells := 0, slots := 0, locals := 0 }
def q_m_lines_41 (f_begins : Int32) (f_sort : Int32) (f_word : Int64) (f_good : Int32) (x1 : Int32) (x3 : Int32) (y0 : Int32) (y1 : Int64) (post : Int32 → (Int32) → Prop) : Prop :=
  False
def q_m_lines_2 (f_begins : Int32) (f_sort : Int32) (f_word : Int64) (f_good : Int32) (x1 : Int32) (x2 : Int32) (post : Int32 → (Int32) → Prop) : Prop :=
  (x2 = 0 → (narrow .boolean (.int x2) = .int x2 ∧ post x2 f_good)) ∧ (¬ x2 = 0 → ((f_sort = 0 → (narrow .boolean (.int x2) = .int x2 ∧ post x2 f_good)) ∧ (¬ f_sort = 0 → ((¬ f_sort = (2 : Int32) → (q_m_lines_41 f_begins f_sort f_word (1 : Int32) x1 f_begins x1 (0 : Int64) post)) ∧ (f_sort = (2 : Int32) → (q_m_lines_41 f_begins f_sort f_word (1 : Int32) x1 f_begins x1 f_word post))))))
def q_m_lines_0 (f_begins : Int32) (f_sort : Int32) (f_word : Int64) (f_good : Int32) (x1 : Int32) (post : Int32 → (Int32) → Prop) : Prop :=
  q_m_lines_2 f_begins f_sort f_word f_good x1 (1 : Int32) post
set_option maxRecDepth 20000 in
theorem t_m_lines_41 {p : Program} {l : Launch} {e : Env} {s : State} {m : MethodId} {args : Array Value} {below : List Frame} {meth : Method} {c : Code} {E : zE} {q : Nat} {f_code : Int32} {a_tape : Nat → Int32} {a_size : Nat → Int32} {a_fault : Nat → Int32} {a_faultPlace : Nat → Int32} {a_many : Nat → Int32} {a_lands : Nat → Int32} {a_evenings : Nat → Int32} {a_sights : Nat → Int32} {a_choirs : Nat → Int32} {f_reached : Int32} {f_length : Int32} {f_begins : Int32} {f_sort : Int32} {f_value : Int32} {f_word : Int64} {f_wrongAt : Int32} {f_laterFault : Int32} {f_laterPlace : Int32} {a_told : Nat → Int32} {a_read : Nat → Int32} {f_farHut : Int32} {f_farSinger : Int32} {f_good : Int32} {f_land : Int32} {f_huts : Int32} {f_singers : Int32} {f_evening : Int32} {a_at : Nat → Int32} {a_knows : Nat → Int32} {a_climbed : Nat → Int32} {a_snow : Nat → Int32} {a_level : Nat → Int32} {f_begun : Int32} {f_minute : Int32} {f_avalanches : Int32} {a_run : Nat → Int32} {a_covers : Nat → Int32} {a_routes : Nat → Int32} {a_longest : Nat → Int32} {a_steep : Nat → Int32} {a_laid : Nat → Int32} {a_far : Nat → Int32} {f_sight : Int32} {a_runs : Nat → Int32} {f_choir : Int32} {f_voices : Int32} {a_rest : Nat → Int64} {a_wins : Nat → Int32} {f_seed : Int32} {a_other : Nat → Int32} {a_kept : Nat → Int32} {post : Int32 → (Int32) → Prop} {x1 : Int32} {x3 : Int32} {y0 : Int32} {y1 : Int64} {ls : Array Slot} {H : Heap} {locs : List Loc}
    (zc : zC p s m args meth c cX11_lines 4 RX11 (some .boolean))
    (hK : zK E s)
    (hM : mW E q f_code a_tape a_size a_fault a_faultPlace a_many a_lands a_evenings a_sights a_choirs f_reached f_length f_begins f_sort f_value f_word f_wrongAt f_laterFault f_laterPlace a_told a_read f_farHut f_farSinger f_good f_land f_huts f_singers f_evening a_at a_knows a_climbed a_snow a_level f_begun f_minute f_avalanches a_run a_covers a_routes a_longest a_steep a_laid a_far f_sight a_runs f_choir f_voices a_rest a_wins f_seed a_other a_kept H)
    (hS : va_S (mA q) s.heap H locs)
    (hl : lv_has ls 4 [(0, .ref q), (1, .int x1), (3, .int x3)])
    (hw : q_m_lines_41 f_begins f_sort f_word f_good x1 x3 y0 y1 post) :
    W p l e rm_m_lines s m args below meth c H locs 0 0 (MQ below (zQi (S := (Int32)) (fun r u => post r u) (fun u H => mW E q f_code a_tape a_size a_fault a_faultPlace a_many a_lands a_evenings a_sights a_choirs f_reached f_length f_begins f_sort f_value f_word f_wrongAt f_laterFault f_laterPlace a_told a_read f_farHut f_farSinger u f_land f_huts f_singers f_evening a_at a_knows a_climbed a_snow a_level f_begun f_minute f_avalanches a_run a_covers a_routes a_longest a_steep a_laid a_far f_sight a_runs f_choir f_voices a_rest a_wins f_seed a_other a_kept H) (mA q)) args s 0 0 (mA q)) (F0 m 41 ls [.long y1, .int y0, .ref q]) := by
  have hx := zc.1
  have hb := zc.2.1
  refine lv_iload_n hx hb dX11_lines_41 rfl (lv_at hl 2 rfl) ?_
  exact hw.elim
set_option maxRecDepth 20000 in
theorem t_m_lines_2 {p : Program} {l : Launch} {e : Env} {s : State} {m : MethodId} {args : Array Value} {below : List Frame} {meth : Method} {c : Code} {E : zE} {q : Nat} {f_code : Int32} {a_tape : Nat → Int32} {a_size : Nat → Int32} {a_fault : Nat → Int32} {a_faultPlace : Nat → Int32} {a_many : Nat → Int32} {a_lands : Nat → Int32} {a_evenings : Nat → Int32} {a_sights : Nat → Int32} {a_choirs : Nat → Int32} {f_reached : Int32} {f_length : Int32} {f_begins : Int32} {f_sort : Int32} {f_value : Int32} {f_word : Int64} {f_wrongAt : Int32} {f_laterFault : Int32} {f_laterPlace : Int32} {a_told : Nat → Int32} {a_read : Nat → Int32} {f_farHut : Int32} {f_farSinger : Int32} {f_good : Int32} {f_land : Int32} {f_huts : Int32} {f_singers : Int32} {f_evening : Int32} {a_at : Nat → Int32} {a_knows : Nat → Int32} {a_climbed : Nat → Int32} {a_snow : Nat → Int32} {a_level : Nat → Int32} {f_begun : Int32} {f_minute : Int32} {f_avalanches : Int32} {a_run : Nat → Int32} {a_covers : Nat → Int32} {a_routes : Nat → Int32} {a_longest : Nat → Int32} {a_steep : Nat → Int32} {a_laid : Nat → Int32} {a_far : Nat → Int32} {f_sight : Int32} {a_runs : Nat → Int32} {f_choir : Int32} {f_voices : Int32} {a_rest : Nat → Int64} {a_wins : Nat → Int32} {f_seed : Int32} {a_other : Nat → Int32} {a_kept : Nat → Int32} {post : Int32 → (Int32) → Prop} {x1 : Int32} {x2 : Int32} {ls : Array Slot} {H : Heap} {locs : List Loc}
    (zc : zC p s m args meth c cX11_lines 4 RX11 (some .boolean))
    (hK : zK E s)
    (hM : mW E q f_code a_tape a_size a_fault a_faultPlace a_many a_lands a_evenings a_sights a_choirs f_reached f_length f_begins f_sort f_value f_word f_wrongAt f_laterFault f_laterPlace a_told a_read f_farHut f_farSinger f_good f_land f_huts f_singers f_evening a_at a_knows a_climbed a_snow a_level f_begun f_minute f_avalanches a_run a_covers a_routes a_longest a_steep a_laid a_far f_sight a_runs f_choir f_voices a_rest a_wins f_seed a_other a_kept H)
    (hS : va_S (mA q) s.heap H locs)
    (hl : lv_has ls 4 [(0, .ref q), (1, .int x1), (2, .int x2)])
    (hw : q_m_lines_2 f_begins f_sort f_word f_good x1 x2 post) :
    W p l e rm_m_lines s m args below meth c H locs 0 0 (MQ below (zQi (S := (Int32)) (fun r u => post r u) (fun u H => mW E q f_code a_tape a_size a_fault a_faultPlace a_many a_lands a_evenings a_sights a_choirs f_reached f_length f_begins f_sort f_value f_word f_wrongAt f_laterFault f_laterPlace a_told a_read f_farHut f_farSinger u f_land f_huts f_singers f_evening a_at a_knows a_climbed a_snow a_level f_begun f_minute f_avalanches a_run a_covers a_routes a_longest a_steep a_laid a_far f_sight a_runs f_choir f_voices a_rest a_wins f_seed a_other a_kept H) (mA q)) args s 0 0 (mA q)) (F0 m 2 ls []) := by
  have hx := zc.1
  have hb := zc.2.1
  refine lv_iload_n hx hb dX11_lines_2 rfl (lv_at hl 2 rfl) ?_
  refine lv_if_eq (tgt := 74) hx hb dX11_lines_3 (by decide) (fun hc => ?_) (fun hc => ?_)
  · have hw := hw.1 hc
    refine lv_iload_n hx hb dX11_lines_74 rfl (lv_at hl 2 rfl) ?_
    exact zret_zw f_good zc hS hw.1 hw.2 hM dX11_lines_75
  · have hw := hw.2 hc
    refine lv_aload_n hx hb dX11_lines_6 rfl (lv_at hl 0 rfl) ?_
    refine mg_11_134_0 zc hK hM dX11_lines_7 ?_
    refine lv_if_eq (tgt := 74) hx hb dX11_lines_10 (by decide) (fun hc => ?_) (fun hc => ?_)
    · have hw := hw.1 hc
      refine lv_iload_n hx hb dX11_lines_74 rfl (lv_at hl 2 rfl) ?_
      exact zret_zw f_good zc hS hw.1 hw.2 hM dX11_lines_75
    · have hw := hw.2 hc
      refine lv_aload_n hx hb dX11_lines_13 rfl (lv_at hl 0 rfl) ?_
      refine mg_11_127_0 zc hK hM dX11_lines_14 ?_
      refine lv_istore_n (lv' := [(3, .int f_begins), (0, .ref q), (1, .int x1), (2, .int x2)]) hx hb dX11_lines_17 rfl hl (by decide) rfl (fun ls hl => ?_)
      refine lv_aload_n hx hb dX11_lines_18 rfl (lv_at hl 1 rfl) ?_
      refine lv_iconst (v := (1 : Int32)) hx hb dX11_lines_19 (by decide) ?_
      refine mp_11_157_0 zc hK hM hS rfl rfl dX11_lines_20 (fun H locs hM hS => ?_)
      refine lv_aload_n hx hb dX11_lines_23 rfl (lv_at hl 1 rfl) ?_
      refine lv_iload_n hx hb dX11_lines_24 rfl (lv_at hl 2 rfl) ?_
      refine lv_aload_n hx hb dX11_lines_25 rfl (lv_at hl 1 rfl) ?_
      refine mg_11_134_0 zc hK hM dX11_lines_26 ?_
      refine lv_iconst (v := (2 : Int32)) hx hb dX11_lines_29 (by decide) ?_
      refine lv_icmp_ne (tgt := 40) hx hb dX11_lines_30 (by decide) (fun hc => ?_) (fun hc => ?_)
      · have hw := hw.1 hc
        refine lv_lconst (v := (0 : Int64)) hx hb dX11_lines_40 (by decide) ?_
        exact t_m_lines_41 zc hK hM hS  (lv_sub hl [1, 2, 0] rfl) hw
      · have hw := hw.2 hc
        refine lv_aload_n hx hb dX11_lines_33 rfl (lv_at hl 1 rfl) ?_
        refine mg_11_130_0 zc hK hM dX11_lines_34 ?_
        refine lv_goto (tgt := 41) hx hb dX11_lines_37 (by decide) ?_
        exact t_m_lines_41 zc hK hM hS  (lv_sub hl [1, 2, 0] rfl) hw
set_option maxRecDepth 20000 in
theorem t_m_lines_0 {p : Program} {l : Launch} {e : Env} {s : State} {m : MethodId} {args : Array Value} {below : List Frame} {meth : Method} {c : Code} {E : zE} {q : Nat} {f_code : Int32} {a_tape : Nat → Int32} {a_size : Nat → Int32} {a_fault : Nat → Int32} {a_faultPlace : Nat → Int32} {a_many : Nat → Int32} {a_lands : Nat → Int32} {a_evenings : Nat → Int32} {a_sights : Nat → Int32} {a_choirs : Nat → Int32} {f_reached : Int32} {f_length : Int32} {f_begins : Int32} {f_sort : Int32} {f_value : Int32} {f_word : Int64} {f_wrongAt : Int32} {f_laterFault : Int32} {f_laterPlace : Int32} {a_told : Nat → Int32} {a_read : Nat → Int32} {f_farHut : Int32} {f_farSinger : Int32} {f_good : Int32} {f_land : Int32} {f_huts : Int32} {f_singers : Int32} {f_evening : Int32} {a_at : Nat → Int32} {a_knows : Nat → Int32} {a_climbed : Nat → Int32} {a_snow : Nat → Int32} {a_level : Nat → Int32} {f_begun : Int32} {f_minute : Int32} {f_avalanches : Int32} {a_run : Nat → Int32} {a_covers : Nat → Int32} {a_routes : Nat → Int32} {a_longest : Nat → Int32} {a_steep : Nat → Int32} {a_laid : Nat → Int32} {a_far : Nat → Int32} {f_sight : Int32} {a_runs : Nat → Int32} {f_choir : Int32} {f_voices : Int32} {a_rest : Nat → Int64} {a_wins : Nat → Int32} {f_seed : Int32} {a_other : Nat → Int32} {a_kept : Nat → Int32} {post : Int32 → (Int32) → Prop} {x1 : Int32} {ls : Array Slot} {H : Heap} {locs : List Loc}
    (zc : zC p s m args meth c cX11_lines 4 RX11 (some .boolean))
    (hK : zK E s)
    (hM : mW E q f_code a_tape a_size a_fault a_faultPlace a_many a_lands a_evenings a_sights a_choirs f_reached f_length f_begins f_sort f_value f_word f_wrongAt f_laterFault f_laterPlace a_told a_read f_farHut f_farSinger f_good f_land f_huts f_singers f_evening a_at a_knows a_climbed a_snow a_level f_begun f_minute f_avalanches a_run a_covers a_routes a_longest a_steep a_laid a_far f_sight a_runs f_choir f_voices a_rest a_wins f_seed a_other a_kept H)
    (hS : va_S (mA q) s.heap H locs)
    (hl : lv_has ls 4 [(0, .ref q), (1, .int x1)])
    (hw : q_m_lines_0 f_begins f_sort f_word f_good x1 post) :
    W p l e rm_m_lines s m args below meth c H locs 0 0 (MQ below (zQi (S := (Int32)) (fun r u => post r u) (fun u H => mW E q f_code a_tape a_size a_fault a_faultPlace a_many a_lands a_evenings a_sights a_choirs f_reached f_length f_begins f_sort f_value f_word f_wrongAt f_laterFault f_laterPlace a_told a_read f_farHut f_farSinger u f_land f_huts f_singers f_evening a_at a_knows a_climbed a_snow a_level f_begun f_minute f_avalanches a_run a_covers a_routes a_longest a_steep a_laid a_far f_sight a_runs f_choir f_voices a_rest a_wins f_seed a_other a_kept H) (mA q)) args s 0 0 (mA q)) (F0 m 0 ls []) := by
  have hx := zc.1
  have hb := zc.2.1
  refine lv_iconst (v := (1 : Int32)) hx hb dX11_lines_0 (by decide) ?_
  refine lv_istore_n (lv' := [(2, .int (1 : Int32)), (0, .ref q), (1, .int x1)]) hx hb dX11_lines_1 rfl hl (by decide) rfl (fun ls hl => ?_)
  exact t_m_lines_2 zc hK hM hS  (lv_sub hl [1, 2, 0] rfl) hw
set_option maxRecDepth 20000 in
theorem c_m_lines (l : Launch) {E : zE} {q : Nat} {f_code : Int32} {a_tape : Nat → Int32} {a_size : Nat → Int32} {a_fault : Nat → Int32} {a_faultPlace : Nat → Int32} {a_many : Nat → Int32} {a_lands : Nat → Int32} {a_evenings : Nat → Int32} {a_sights : Nat → Int32} {a_choirs : Nat → Int32} {f_reached : Int32} {f_length : Int32} {f_begins : Int32} {f_sort : Int32} {f_value : Int32} {f_word : Int64} {f_wrongAt : Int32} {f_laterFault : Int32} {f_laterPlace : Int32} {a_told : Nat → Int32} {a_read : Nat → Int32} {f_farHut : Int32} {f_farSinger : Int32} {f_good : Int32} {f_land : Int32} {f_huts : Int32} {f_singers : Int32} {f_evening : Int32} {a_at : Nat → Int32} {a_knows : Nat → Int32} {a_climbed : Nat → Int32} {a_snow : Nat → Int32} {a_level : Nat → Int32} {f_begun : Int32} {f_minute : Int32} {f_avalanches : Int32} {a_run : Nat → Int32} {a_covers : Nat → Int32} {a_routes : Nat → Int32} {a_longest : Nat → Int32} {a_steep : Nat → Int32} {a_laid : Nat → Int32} {a_far : Nat → Int32} {f_sight : Int32} {a_runs : Nat → Int32} {f_choir : Int32} {f_voices : Int32} {a_rest : Nat → Int64} {a_wins : Nat → Int32} {f_seed : Int32} {a_other : Nat → Int32} {a_kept : Nat → Int32} {x1 : Int32} {post : Int32 → (Int32) → Prop} (hw : q_m_lines_0 f_begins f_sort f_word f_good x1 post) : Met l yX11_lines (Cond.code yX11_lines cX11_lines 4 (some .boolean) :: zb) rm_m_lines (va_Pc [.ref q, .int x1] (fun U => mW E q f_code a_tape a_size a_fault a_faultPlace a_many a_lands a_evenings a_sights a_choirs f_reached f_length f_begins f_sort f_value f_word f_wrongAt f_laterFault f_laterPlace a_told a_read f_farHut f_farSinger f_good f_land f_huts f_singers f_evening a_at a_knows a_climbed a_snow a_level f_begun f_minute f_avalanches a_run a_covers a_routes a_longest a_steep a_laid a_far f_sight a_runs f_choir f_voices a_rest a_wins f_seed a_other a_kept U.heap ∧ zK E U)) (zQi (S := (Int32)) (fun r u => post r u) (fun u H => mW E q f_code a_tape a_size a_fault a_faultPlace a_many a_lands a_evenings a_sights a_choirs f_reached f_length f_begins f_sort f_value f_word f_wrongAt f_laterFault f_laterPlace a_told a_read f_farHut f_farSinger u f_land f_huts f_singers f_evening a_at a_knows a_climbed a_snow a_level f_begun f_minute f_avalanches a_run a_covers a_routes a_longest a_steep a_laid a_far f_sight a_runs f_choir f_voices a_rest a_wins f_seed a_other a_kept H) (mA q)) 0 0 (mA q) := by
  refine Met.ofW (cc := cX11_lines) (maxL := 4) (ret := (some .boolean)) (by decide) rfl ?_
  intro p e s m args below meth c s₁ B hml hv
  obtain ⟨rfl, hM, hK⟩ := hv
  have zc := zc_of B hml
  have hl := lv_entry ([.ref q, .int x1]) (n := 4) (Nat.le_of_ble_eq_true rfl)
  rw [lg_entry_eq]
  generalize (lg_sl ([.ref q, .int x1]) ++ List.replicate (4 - (lg_sl ([.ref q, .int x1])).length) Slot.unset).toArray = ls at hl ⊢
  have hl : lv_has ls 4 [(0, .ref q), (1, .int x1)] := hl
  exact t_m_lines_0 zc hK hM va_S.rf (lv_sub hl [0, 1] rfl) hw
-- m_readText
abbrev rm_m_readText : Room := { frames := 2, cells := 0, slots := 0, locals := 44 }
def q_m_readText_112 (a_tape : Nat → Int32) (a_fault : Nat → Int32) (a_faultPlace : Nat → Int32) (f_reached : Int32) (f_length : Int32) (f_begins : Int32) (f_sort : Int32) (f_value : Int32) (f_word : Int64) (f_wrongAt : Int32) (f_laterFault : Int32) (f_laterPlace : Int32) (a_told : Nat → Int32) (f_farHut : Int32) (f_farSinger : Int32) (f_good : Int32) (x2 : Int32) (post : Int32 → (Nat → Int32) → (Nat → Int32) → (Int32) → (Int32) → (Int32) → (Int32) → (Int64) → (Int32) → (Nat → Int32) → (Int32) → (Int32) → (Int32) → Prop) : Prop :=
  False
def q_m_readText_170 (a_tape : Nat → Int32) (a_fault : Nat → Int32) (a_faultPlace : Nat → Int32) (f_reached : Int32) (f_length : Int32) (f_begins : Int32) (f_sort : Int32) (f_value : Int32) (f_word : Int64) (f_wrongAt : Int32) (f_laterFault : Int32) (f_laterPlace : Int32) (a_told : Nat → Int32) (f_farHut : Int32) (f_farSinger : Int32) (f_good : Int32) (y0 : Int32) (y1 : Int32) (post : Int32 → (Nat → Int32) → (Nat → Int32) → (Int32) → (Int32) → (Int32) → (Int32) → (Int64) → (Int32) → (Nat → Int32) → (Int32) → (Int32) → (Int32) → Prop) : Prop :=
  vp_in y0 4 ∧ (∀ a_faultPlace_1 : Nat → Int32, a_faultPlace_1 = upd a_faultPlace (Int32.toNatClampNeg y0) y1 → ((¬ (a_fault (Int32.toNatClampNeg (0 : Int32))) = 0 → (post (0 : Int32) a_fault a_faultPlace_1 f_reached f_begins f_sort f_value f_word f_laterFault a_told f_farHut f_farSinger f_good)) ∧ ((a_fault (Int32.toNatClampNeg (0 : Int32))) = 0 → (post (1 : Int32) a_fault a_faultPlace_1 f_reached f_begins f_sort f_value f_word f_laterFault a_told f_farHut f_farSinger f_good))))
def q_m_readText_138 (a_tape : Nat → Int32) (a_fault : Nat → Int32) (a_faultPlace : Nat → Int32) (f_reached : Int32) (f_length : Int32) (f_begins : Int32) (f_sort : Int32) (f_value : Int32) (f_word : Int64) (f_wrongAt : Int32) (f_laterFault : Int32) (f_laterPlace : Int32) (a_told : Nat → Int32) (f_farHut : Int32) (f_farSinger : Int32) (f_good : Int32) (x2 : Int32) (y0 : Int32) (y1 : Int32) (post : Int32 → (Nat → Int32) → (Nat → Int32) → (Int32) → (Int32) → (Int32) → (Int32) → (Int64) → (Int32) → (Nat → Int32) → (Int32) → (Int32) → (Int32) → Prop) : Prop :=
  vp_in y0 4 ∧ (∀ a_fault_1 : Nat → Int32, a_fault_1 = upd a_fault (Int32.toNatClampNeg y0) y1 → ((¬ x2 = 0 → ((f_laterFault ≤ 0 → (q_m_readText_170 a_tape a_fault_1 a_faultPlace f_reached f_length f_begins f_sort f_value f_word f_wrongAt f_laterFault f_laterPlace a_told f_farHut f_farSinger f_good (0 : Int32) (-1 : Int32) post)) ∧ (¬ f_laterFault ≤ 0 → (q_m_readText_170 a_tape a_fault_1 a_faultPlace f_reached f_length f_begins f_sort f_value f_word f_wrongAt f_laterFault f_laterPlace a_told f_farHut f_farSinger f_good (0 : Int32) f_laterPlace post)))) ∧ (x2 = 0 → (q_m_readText_170 a_tape a_fault_1 a_faultPlace f_reached f_length f_begins f_sort f_value f_word f_wrongAt f_laterFault f_laterPlace a_told f_farHut f_farSinger f_good (0 : Int32) f_wrongAt post))))
def q_m_readText_121 (a_tape : Nat → Int32) (a_fault : Nat → Int32) (a_faultPlace : Nat → Int32) (f_reached : Int32) (f_length : Int32) (f_begins : Int32) (f_sort : Int32) (f_value : Int32) (f_word : Int64) (f_wrongAt : Int32) (f_laterFault : Int32) (f_laterPlace : Int32) (a_told : Nat → Int32) (f_farHut : Int32) (f_farSinger : Int32) (f_good : Int32) (x2 : Int32) (post : Int32 → (Nat → Int32) → (Nat → Int32) → (Int32) → (Int32) → (Int32) → (Int32) → (Int64) → (Int32) → (Nat → Int32) → (Int32) → (Int32) → (Int32) → Prop) : Prop :=
  (x2 = 0 → (q_m_readText_138 a_tape a_fault a_faultPlace f_reached f_length f_begins f_sort f_value f_word f_wrongAt f_laterFault f_laterPlace a_told f_farHut f_farSinger f_good x2 (0 : Int32) (1 : Int32) post)) ∧ (¬ x2 = 0 → (q_m_readText_138 a_tape a_fault a_faultPlace f_reached f_length f_begins f_sort f_value f_word f_wrongAt f_laterFault f_laterPlace a_told f_farHut f_farSinger f_good x2 (0 : Int32) f_laterFault post))
def q_m_readText_41 (a_tape : Nat → Int32) (a_fault : Nat → Int32) (a_faultPlace : Nat → Int32) (f_reached : Int32) (f_length : Int32) (f_begins : Int32) (f_sort : Int32) (f_value : Int32) (f_word : Int64) (f_wrongAt : Int32) (f_laterFault : Int32) (f_laterPlace : Int32) (a_told : Nat → Int32) (f_farHut : Int32) (f_farSinger : Int32) (f_good : Int32) (x1 : Int32) (post : Int32 → (Nat → Int32) → (Nat → Int32) → (Int32) → (Int32) → (Int32) → (Int32) → (Int64) → (Int32) → (Nat → Int32) → (Int32) → (Int32) → (Int32) → Prop) : Prop :=
  q_m_token_0 a_tape (0 : Int32) f_length f_begins f_sort f_value f_word (fun f_reached_1 f_begins_1 f_sort_1 f_value_1 f_word_1 => q_m_lines_0 f_begins_1 f_sort_1 f_word_1 f_good x1 (fun r_1 f_good_1 => (r_1 = 0 → (q_m_readText_121 a_tape a_fault a_faultPlace f_reached_1 f_length f_begins_1 f_sort_1 f_value_1 f_word_1 f_wrongAt (0 : Int32) f_laterPlace a_told (-1 : Int32) (-1 : Int32) f_good_1 r_1 post)) ∧ (¬ r_1 = 0 → ((¬ x1 = 0 → (q_m_readText_121 a_tape a_fault a_faultPlace f_reached_1 f_length f_begins_1 f_sort_1 f_value_1 f_word_1 f_wrongAt (0 : Int32) f_laterPlace a_told (-1 : Int32) (-1 : Int32) f_good_1 r_1 post)) ∧ (x1 = 0 → ((¬ (0 : Int32) = 0 → (q_m_readText_121 a_tape a_fault a_faultPlace f_reached_1 f_length f_begins_1 f_sort_1 f_value_1 f_word_1 f_wrongAt (0 : Int32) f_laterPlace a_told (-1 : Int32) (-1 : Int32) f_good_1 r_1 post)) ∧ ((0 : Int32) = 0 → (((a_told (Int32.toNatClampNeg (0 : Int32))) ≤ (-1 : Int32) → (q_m_readText_112 a_tape a_fault a_faultPlace f_reached_1 f_length f_begins_1 f_sort_1 f_value_1 f_word_1 f_wrongAt (0 : Int32) f_laterPlace a_told (-1 : Int32) (-1 : Int32) f_good_1 r_1 post)) ∧ (¬ (a_told (Int32.toNatClampNeg (0 : Int32))) ≤ (-1 : Int32) → (((-1 : Int32) < (a_told (Int32.toNatClampNeg (1 : Int32))) → (q_m_readText_121 a_tape a_fault a_faultPlace f_reached_1 f_length f_begins_1 f_sort_1 f_value_1 f_word_1 f_wrongAt (0 : Int32) f_laterPlace a_told (-1 : Int32) (-1 : Int32) f_good_1 r_1 post)) ∧ (¬ (-1 : Int32) < (a_told (Int32.toNatClampNeg (1 : Int32))) → (q_m_readText_112 a_tape a_fault a_faultPlace f_reached_1 f_length f_begins_1 f_sort_1 f_value_1 f_word_1 f_wrongAt (0 : Int32) f_laterPlace a_told (-1 : Int32) (-1 : Int32) f_good_1 r_1 post))))))))))))
def q_m_readText_2 (a_tape : Nat → Int32) (a_fault : Nat → Int32) (a_faultPlace : Nat → Int32) (f_reached : Int32) (f_length : Int32) (f_begins : Int32) (f_sort : Int32) (f_value : Int32) (f_word : Int64) (f_wrongAt : Int32) (f_laterFault : Int32) (f_laterPlace : Int32) (a_told : Nat → Int32) (f_farHut : Int32) (f_farSinger : Int32) (f_good : Int32) (x1 : Int32) (x2 : Int32) (post : Int32 → (Nat → Int32) → (Nat → Int32) → (Int32) → (Int32) → (Int32) → (Int32) → (Int64) → (Int32) → (Nat → Int32) → (Int32) → (Int32) → (Int32) → Prop) : Prop :=
  ∀ P2 : Int32 → (Nat → Int32) → Prop, (∀ (x2 : Int32) (a_told : Nat → Int32), (((132 : Int32) ≤ x2 → ((¬ x1 = 0 → (q_m_readText_41 a_tape a_fault a_faultPlace f_reached f_length f_begins f_sort f_value f_word f_wrongAt f_laterFault f_laterPlace a_told f_farHut f_farSinger f_good x1 post)) ∧ (x1 = 0 → (∀ a_told_1 : Nat → Int32, a_told_1 = upd a_told (Int32.toNatClampNeg (5 : Int32)) (2 : Int32) → (∀ a_told_2 : Nat → Int32, a_told_2 = upd a_told_1 (Int32.toNatClampNeg (6 : Int32)) (5 : Int32) → (q_m_readText_41 a_tape a_fault a_faultPlace f_reached f_length f_begins f_sort f_value f_word f_wrongAt f_laterFault f_laterPlace a_told_2 f_farHut f_farSinger f_good x1 post)))))) ∧ (¬ (132 : Int32) ≤ x2 → (vp_in x2 132 ∧ (∀ a_told_3 : Nat → Int32, a_told_3 = upd a_told (Int32.toNatClampNeg x2) (0 : Int32) → (∀ v_1 : Int32, v_1 = x2 + (1 : Int32) → (P2 v_1 a_told_3)))))) → P2 x2 a_told) → P2 x2 a_told
def q_m_readText_0 (a_tape : Nat → Int32) (a_fault : Nat → Int32) (a_faultPlace : Nat → Int32) (f_reached : Int32) (f_length : Int32) (f_begins : Int32) (f_sort : Int32) (f_value : Int32) (f_word : Int64) (f_wrongAt : Int32) (f_laterFault : Int32) (f_laterPlace : Int32) (a_told : Nat → Int32) (f_farHut : Int32) (f_farSinger : Int32) (f_good : Int32) (x1 : Int32) (post : Int32 → (Nat → Int32) → (Nat → Int32) → (Int32) → (Int32) → (Int32) → (Int32) → (Int64) → (Int32) → (Nat → Int32) → (Int32) → (Int32) → (Int32) → Prop) : Prop :=
  q_m_readText_2 a_tape a_fault a_faultPlace f_reached f_length f_begins f_sort f_value f_word f_wrongAt f_laterFault f_laterPlace a_told f_farHut f_farSinger f_good x1 (0 : Int32) post
set_option maxRecDepth 20000 in
theorem t_m_readText_112 {p : Program} {l : Launch} {e : Env} {s : State} {m : MethodId} {args : Array Value} {below : List Frame} {meth : Method} {c : Code} {E : zE} {q : Nat} {f_code : Int32} {a_tape : Nat → Int32} {a_size : Nat → Int32} {a_fault : Nat → Int32} {a_faultPlace : Nat → Int32} {a_many : Nat → Int32} {a_lands : Nat → Int32} {a_evenings : Nat → Int32} {a_sights : Nat → Int32} {a_choirs : Nat → Int32} {f_reached : Int32} {f_length : Int32} {f_begins : Int32} {f_sort : Int32} {f_value : Int32} {f_word : Int64} {f_wrongAt : Int32} {f_laterFault : Int32} {f_laterPlace : Int32} {a_told : Nat → Int32} {a_read : Nat → Int32} {f_farHut : Int32} {f_farSinger : Int32} {f_good : Int32} {f_land : Int32} {f_huts : Int32} {f_singers : Int32} {f_evening : Int32} {a_at : Nat → Int32} {a_knows : Nat → Int32} {a_climbed : Nat → Int32} {a_snow : Nat → Int32} {a_level : Nat → Int32} {f_begun : Int32} {f_minute : Int32} {f_avalanches : Int32} {a_run : Nat → Int32} {a_covers : Nat → Int32} {a_routes : Nat → Int32} {a_longest : Nat → Int32} {a_steep : Nat → Int32} {a_laid : Nat → Int32} {a_far : Nat → Int32} {f_sight : Int32} {a_runs : Nat → Int32} {f_choir : Int32} {f_voices : Int32} {a_rest : Nat → Int64} {a_wins : Nat → Int32} {f_seed : Int32} {a_other : Nat → Int32} {a_kept : Nat → Int32} {post : Int32 → (Nat → Int32) → (Nat → Int32) → (Int32) → (Int32) → (Int32) → (Int32) → (Int64) → (Int32) → (Nat → Int32) → (Int32) → (Int32) → (Int32) → Prop} {x2 : Int32} {ls : Array Slot} {H : Heap} {locs : List Loc}
    (zc : zC p s m args meth c cX11_readText 3 RX11 (some .boolean))
    (hK : zK E s)
    (hM : mW E q f_code a_tape a_size a_fault a_faultPlace a_many a_lands a_evenings a_sights a_choirs f_reached f_length f_begins f_sort f_value f_word f_wrongAt f_laterFault f_laterPlace a_told a_read f_farHut f_farSinger f_good f_land f_huts f_singers f_evening a_at a_knows a_climbed a_snow a_level f_begun f_minute f_avalanches a_run a_covers a_routes a_longest a_steep a_laid a_far f_sight a_runs f_choir f_voices a_rest a_wins f_seed a_other a_kept H)
    (hS : va_S (mA q) s.heap H locs)
    (hl : lv_has ls 3 [(0, .ref q), (2, .int x2)])
    (hw : q_m_readText_112 a_tape a_fault a_faultPlace f_reached f_length f_begins f_sort f_value f_word f_wrongAt f_laterFault f_laterPlace a_told f_farHut f_farSinger f_good x2 post) :
    W p l e rm_m_readText s m args below meth c H locs 0 0 (MQ below (zQi (S := (Nat → Int32) × (Nat → Int32) × (Int32) × (Int32) × (Int32) × (Int32) × (Int64) × (Int32) × (Nat → Int32) × (Int32) × (Int32) × (Int32)) (fun r u => post r u.1 u.2.1 u.2.2.1 u.2.2.2.1 u.2.2.2.2.1 u.2.2.2.2.2.1 u.2.2.2.2.2.2.1 u.2.2.2.2.2.2.2.1 u.2.2.2.2.2.2.2.2.1 u.2.2.2.2.2.2.2.2.2.1 u.2.2.2.2.2.2.2.2.2.2.1 u.2.2.2.2.2.2.2.2.2.2.2) (fun u H => mW E q f_code a_tape a_size u.1 u.2.1 a_many a_lands a_evenings a_sights a_choirs u.2.2.1 f_length u.2.2.2.1 u.2.2.2.2.1 u.2.2.2.2.2.1 u.2.2.2.2.2.2.1 f_wrongAt u.2.2.2.2.2.2.2.1 f_laterPlace u.2.2.2.2.2.2.2.2.1 a_read u.2.2.2.2.2.2.2.2.2.1 u.2.2.2.2.2.2.2.2.2.2.1 u.2.2.2.2.2.2.2.2.2.2.2 f_land f_huts f_singers f_evening a_at a_knows a_climbed a_snow a_level f_begun f_minute f_avalanches a_run a_covers a_routes a_longest a_steep a_laid a_far f_sight a_runs f_choir f_voices a_rest a_wins f_seed a_other a_kept H) (mA q)) args s 0 0 (mA q)) (F0 m 112 ls []) := by
  have hx := zc.1
  have hb := zc.2.1
  refine lv_aload_n hx hb dX11_readText_112 rfl (lv_at hl 0 rfl) ?_
  refine lv_iconst (v := (4 : Int32)) hx hb dX11_readText_113 (by decide) ?_
  refine lv_aload_n hx hb dX11_readText_114 rfl (lv_at hl 0 rfl) ?_
  refine mg_11_127_0 zc hK hM dX11_readText_115 ?_
  exact hw.elim
set_option maxRecDepth 20000 in
theorem t_m_readText_170 {p : Program} {l : Launch} {e : Env} {s : State} {m : MethodId} {args : Array Value} {below : List Frame} {meth : Method} {c : Code} {E : zE} {q : Nat} {f_code : Int32} {a_tape : Nat → Int32} {a_size : Nat → Int32} {a_fault : Nat → Int32} {a_faultPlace : Nat → Int32} {a_many : Nat → Int32} {a_lands : Nat → Int32} {a_evenings : Nat → Int32} {a_sights : Nat → Int32} {a_choirs : Nat → Int32} {f_reached : Int32} {f_length : Int32} {f_begins : Int32} {f_sort : Int32} {f_value : Int32} {f_word : Int64} {f_wrongAt : Int32} {f_laterFault : Int32} {f_laterPlace : Int32} {a_told : Nat → Int32} {a_read : Nat → Int32} {f_farHut : Int32} {f_farSinger : Int32} {f_good : Int32} {f_land : Int32} {f_huts : Int32} {f_singers : Int32} {f_evening : Int32} {a_at : Nat → Int32} {a_knows : Nat → Int32} {a_climbed : Nat → Int32} {a_snow : Nat → Int32} {a_level : Nat → Int32} {f_begun : Int32} {f_minute : Int32} {f_avalanches : Int32} {a_run : Nat → Int32} {a_covers : Nat → Int32} {a_routes : Nat → Int32} {a_longest : Nat → Int32} {a_steep : Nat → Int32} {a_laid : Nat → Int32} {a_far : Nat → Int32} {f_sight : Int32} {a_runs : Nat → Int32} {f_choir : Int32} {f_voices : Int32} {a_rest : Nat → Int64} {a_wins : Nat → Int32} {f_seed : Int32} {a_other : Nat → Int32} {a_kept : Nat → Int32} {post : Int32 → (Nat → Int32) → (Nat → Int32) → (Int32) → (Int32) → (Int32) → (Int32) → (Int64) → (Int32) → (Nat → Int32) → (Int32) → (Int32) → (Int32) → Prop} {y0 : Int32} {y1 : Int32} {ls : Array Slot} {H : Heap} {locs : List Loc}
    (zc : zC p s m args meth c cX11_readText 3 RX11 (some .boolean))
    (hK : zK E s)
    (hM : mW E q f_code a_tape a_size a_fault a_faultPlace a_many a_lands a_evenings a_sights a_choirs f_reached f_length f_begins f_sort f_value f_word f_wrongAt f_laterFault f_laterPlace a_told a_read f_farHut f_farSinger f_good f_land f_huts f_singers f_evening a_at a_knows a_climbed a_snow a_level f_begun f_minute f_avalanches a_run a_covers a_routes a_longest a_steep a_laid a_far f_sight a_runs f_choir f_voices a_rest a_wins f_seed a_other a_kept H)
    (hS : va_S (mA q) s.heap H locs)
    (hl : lv_has ls 3 [(0, .ref q)])
    (hw : q_m_readText_170 a_tape a_fault a_faultPlace f_reached f_length f_begins f_sort f_value f_word f_wrongAt f_laterFault f_laterPlace a_told f_farHut f_farSinger f_good y0 y1 post) :
    W p l e rm_m_readText s m args below meth c H locs 0 0 (MQ below (zQi (S := (Nat → Int32) × (Nat → Int32) × (Int32) × (Int32) × (Int32) × (Int32) × (Int64) × (Int32) × (Nat → Int32) × (Int32) × (Int32) × (Int32)) (fun r u => post r u.1 u.2.1 u.2.2.1 u.2.2.2.1 u.2.2.2.2.1 u.2.2.2.2.2.1 u.2.2.2.2.2.2.1 u.2.2.2.2.2.2.2.1 u.2.2.2.2.2.2.2.2.1 u.2.2.2.2.2.2.2.2.2.1 u.2.2.2.2.2.2.2.2.2.2.1 u.2.2.2.2.2.2.2.2.2.2.2) (fun u H => mW E q f_code a_tape a_size u.1 u.2.1 a_many a_lands a_evenings a_sights a_choirs u.2.2.1 f_length u.2.2.2.1 u.2.2.2.2.1 u.2.2.2.2.2.1 u.2.2.2.2.2.2.1 f_wrongAt u.2.2.2.2.2.2.2.1 f_laterPlace u.2.2.2.2.2.2.2.2.1 a_read u.2.2.2.2.2.2.2.2.2.1 u.2.2.2.2.2.2.2.2.2.2.1 u.2.2.2.2.2.2.2.2.2.2.2 f_land f_huts f_singers f_evening a_at a_knows a_climbed a_snow a_level f_begun f_minute f_avalanches a_run a_covers a_routes a_longest a_steep a_laid a_far f_sight a_runs f_choir f_voices a_rest a_wins f_seed a_other a_kept H) (mA q)) args s 0 0 (mA q)) (F0 m 170 ls [.int y1, .int y0, .ref (q + 4)]) := by
  have hx := zc.1
  have hb := zc.2.1
  refine mst_4 zc hK hM hS hw.1 dX11_readText_170 (fun a_faultPlace_1 H locs ea_faultPlace_1 hM hS => ?_)
  have hw := hw.2 a_faultPlace_1 ea_faultPlace_1
  refine lv_aload_n hx hb dX11_readText_171 rfl (lv_at hl 0 rfl) ?_
  refine mg_11_17_0 zc hK hM dX11_readText_172 ?_
  refine lv_iconst (v := (0 : Int32)) hx hb dX11_readText_175 (by decide) ?_
  refine mld_3 zc hK hM (by unfold vp_in; decide) dX11_readText_176 ?_
  refine lv_if_ne (tgt := 184) hx hb dX11_readText_177 (by decide) (fun hc => ?_) (fun hc => ?_)
  · have hw := hw.1 hc
    refine lv_iconst (v := (0 : Int32)) hx hb dX11_readText_184 (by decide) ?_
    exact zret_zw ⟨a_fault, a_faultPlace_1, f_reached, f_begins, f_sort, f_value, f_word, f_laterFault, a_told, f_farHut, f_farSinger, f_good⟩ zc hS rfl hw hM dX11_readText_185
  · have hw := hw.2 hc
    refine lv_iconst (v := (1 : Int32)) hx hb dX11_readText_180 (by decide) ?_
    refine lv_goto (tgt := 185) hx hb dX11_readText_181 (by decide) ?_
    exact zret_zw ⟨a_fault, a_faultPlace_1, f_reached, f_begins, f_sort, f_value, f_word, f_laterFault, a_told, f_farHut, f_farSinger, f_good⟩ zc hS rfl hw hM dX11_readText_185
set_option maxRecDepth 20000 in
theorem t_m_readText_138 {p : Program} {l : Launch} {e : Env} {s : State} {m : MethodId} {args : Array Value} {below : List Frame} {meth : Method} {c : Code} {E : zE} {q : Nat} {f_code : Int32} {a_tape : Nat → Int32} {a_size : Nat → Int32} {a_fault : Nat → Int32} {a_faultPlace : Nat → Int32} {a_many : Nat → Int32} {a_lands : Nat → Int32} {a_evenings : Nat → Int32} {a_sights : Nat → Int32} {a_choirs : Nat → Int32} {f_reached : Int32} {f_length : Int32} {f_begins : Int32} {f_sort : Int32} {f_value : Int32} {f_word : Int64} {f_wrongAt : Int32} {f_laterFault : Int32} {f_laterPlace : Int32} {a_told : Nat → Int32} {a_read : Nat → Int32} {f_farHut : Int32} {f_farSinger : Int32} {f_good : Int32} {f_land : Int32} {f_huts : Int32} {f_singers : Int32} {f_evening : Int32} {a_at : Nat → Int32} {a_knows : Nat → Int32} {a_climbed : Nat → Int32} {a_snow : Nat → Int32} {a_level : Nat → Int32} {f_begun : Int32} {f_minute : Int32} {f_avalanches : Int32} {a_run : Nat → Int32} {a_covers : Nat → Int32} {a_routes : Nat → Int32} {a_longest : Nat → Int32} {a_steep : Nat → Int32} {a_laid : Nat → Int32} {a_far : Nat → Int32} {f_sight : Int32} {a_runs : Nat → Int32} {f_choir : Int32} {f_voices : Int32} {a_rest : Nat → Int64} {a_wins : Nat → Int32} {f_seed : Int32} {a_other : Nat → Int32} {a_kept : Nat → Int32} {post : Int32 → (Nat → Int32) → (Nat → Int32) → (Int32) → (Int32) → (Int32) → (Int32) → (Int64) → (Int32) → (Nat → Int32) → (Int32) → (Int32) → (Int32) → Prop} {x2 : Int32} {y0 : Int32} {y1 : Int32} {ls : Array Slot} {H : Heap} {locs : List Loc}
    (zc : zC p s m args meth c cX11_readText 3 RX11 (some .boolean))
    (hK : zK E s)
    (hM : mW E q f_code a_tape a_size a_fault a_faultPlace a_many a_lands a_evenings a_sights a_choirs f_reached f_length f_begins f_sort f_value f_word f_wrongAt f_laterFault f_laterPlace a_told a_read f_farHut f_farSinger f_good f_land f_huts f_singers f_evening a_at a_knows a_climbed a_snow a_level f_begun f_minute f_avalanches a_run a_covers a_routes a_longest a_steep a_laid a_far f_sight a_runs f_choir f_voices a_rest a_wins f_seed a_other a_kept H)
    (hS : va_S (mA q) s.heap H locs)
    (hl : lv_has ls 3 [(0, .ref q), (2, .int x2)])
    (hw : q_m_readText_138 a_tape a_fault a_faultPlace f_reached f_length f_begins f_sort f_value f_word f_wrongAt f_laterFault f_laterPlace a_told f_farHut f_farSinger f_good x2 y0 y1 post) :
    W p l e rm_m_readText s m args below meth c H locs 0 0 (MQ below (zQi (S := (Nat → Int32) × (Nat → Int32) × (Int32) × (Int32) × (Int32) × (Int32) × (Int64) × (Int32) × (Nat → Int32) × (Int32) × (Int32) × (Int32)) (fun r u => post r u.1 u.2.1 u.2.2.1 u.2.2.2.1 u.2.2.2.2.1 u.2.2.2.2.2.1 u.2.2.2.2.2.2.1 u.2.2.2.2.2.2.2.1 u.2.2.2.2.2.2.2.2.1 u.2.2.2.2.2.2.2.2.2.1 u.2.2.2.2.2.2.2.2.2.2.1 u.2.2.2.2.2.2.2.2.2.2.2) (fun u H => mW E q f_code a_tape a_size u.1 u.2.1 a_many a_lands a_evenings a_sights a_choirs u.2.2.1 f_length u.2.2.2.1 u.2.2.2.2.1 u.2.2.2.2.2.1 u.2.2.2.2.2.2.1 f_wrongAt u.2.2.2.2.2.2.2.1 f_laterPlace u.2.2.2.2.2.2.2.2.1 a_read u.2.2.2.2.2.2.2.2.2.1 u.2.2.2.2.2.2.2.2.2.2.1 u.2.2.2.2.2.2.2.2.2.2.2 f_land f_huts f_singers f_evening a_at a_knows a_climbed a_snow a_level f_begun f_minute f_avalanches a_run a_covers a_routes a_longest a_steep a_laid a_far f_sight a_runs f_choir f_voices a_rest a_wins f_seed a_other a_kept H) (mA q)) args s 0 0 (mA q)) (F0 m 138 ls [.int y1, .int y0, .ref (q + 3)]) := by
  have hx := zc.1
  have hb := zc.2.1
  refine mst_3 zc hK hM hS hw.1 dX11_readText_138 (fun a_fault_1 H locs ea_fault_1 hM hS => ?_)
  have hw := hw.2 a_fault_1 ea_fault_1
  refine lv_aload_n hx hb dX11_readText_139 rfl (lv_at hl 0 rfl) ?_
  refine mg_11_20_0 zc hK hM dX11_readText_140 ?_
  refine lv_iconst (v := (0 : Int32)) hx hb dX11_readText_143 (by decide) ?_
  refine lv_iload_n hx hb dX11_readText_144 rfl (lv_at hl 1 rfl) ?_
  refine lv_if_ne (tgt := 155) hx hb dX11_readText_145 (by decide) (fun hc => ?_) (fun hc => ?_)
  · have hw := hw.1 hc
    refine lv_aload_n hx hb dX11_readText_155 rfl (lv_at hl 0 rfl) ?_
    refine mg_11_143_0 zc hK hM dX11_readText_156 ?_
    refine lv_if_le (tgt := 169) hx hb dX11_readText_159 (by decide) (fun hc => ?_) (fun hc => ?_)
    · have hw := hw.1 hc
      refine lv_iconst (v := (-1 : Int32)) hx hb dX11_readText_169 (by decide) ?_
      exact t_m_readText_170 zc hK hM hS  (lv_sub hl [0] rfl) hw
    · have hw := hw.2 hc
      refine lv_aload_n hx hb dX11_readText_162 rfl (lv_at hl 0 rfl) ?_
      refine mg_11_146_0 zc hK hM dX11_readText_163 ?_
      refine lv_goto (tgt := 170) hx hb dX11_readText_166 (by decide) ?_
      exact t_m_readText_170 zc hK hM hS  (lv_sub hl [0] rfl) hw
  · have hw := hw.2 hc
    refine lv_aload_n hx hb dX11_readText_148 rfl (lv_at hl 0 rfl) ?_
    refine mg_11_140_0 zc hK hM dX11_readText_149 ?_
    refine lv_goto (tgt := 170) hx hb dX11_readText_152 (by decide) ?_
    exact t_m_readText_170 zc hK hM hS  (lv_sub hl [0] rfl) hw
set_option maxRecDepth 20000 in
theorem t_m_readText_121 {p : Program} {l : Launch} {e : Env} {s : State} {m : MethodId} {args : Array Value} {below : List Frame} {meth : Method} {c : Code} {E : zE} {q : Nat} {f_code : Int32} {a_tape : Nat → Int32} {a_size : Nat → Int32} {a_fault : Nat → Int32} {a_faultPlace : Nat → Int32} {a_many : Nat → Int32} {a_lands : Nat → Int32} {a_evenings : Nat → Int32} {a_sights : Nat → Int32} {a_choirs : Nat → Int32} {f_reached : Int32} {f_length : Int32} {f_begins : Int32} {f_sort : Int32} {f_value : Int32} {f_word : Int64} {f_wrongAt : Int32} {f_laterFault : Int32} {f_laterPlace : Int32} {a_told : Nat → Int32} {a_read : Nat → Int32} {f_farHut : Int32} {f_farSinger : Int32} {f_good : Int32} {f_land : Int32} {f_huts : Int32} {f_singers : Int32} {f_evening : Int32} {a_at : Nat → Int32} {a_knows : Nat → Int32} {a_climbed : Nat → Int32} {a_snow : Nat → Int32} {a_level : Nat → Int32} {f_begun : Int32} {f_minute : Int32} {f_avalanches : Int32} {a_run : Nat → Int32} {a_covers : Nat → Int32} {a_routes : Nat → Int32} {a_longest : Nat → Int32} {a_steep : Nat → Int32} {a_laid : Nat → Int32} {a_far : Nat → Int32} {f_sight : Int32} {a_runs : Nat → Int32} {f_choir : Int32} {f_voices : Int32} {a_rest : Nat → Int64} {a_wins : Nat → Int32} {f_seed : Int32} {a_other : Nat → Int32} {a_kept : Nat → Int32} {post : Int32 → (Nat → Int32) → (Nat → Int32) → (Int32) → (Int32) → (Int32) → (Int32) → (Int64) → (Int32) → (Nat → Int32) → (Int32) → (Int32) → (Int32) → Prop} {x2 : Int32} {ls : Array Slot} {H : Heap} {locs : List Loc}
    (zc : zC p s m args meth c cX11_readText 3 RX11 (some .boolean))
    (hK : zK E s)
    (hM : mW E q f_code a_tape a_size a_fault a_faultPlace a_many a_lands a_evenings a_sights a_choirs f_reached f_length f_begins f_sort f_value f_word f_wrongAt f_laterFault f_laterPlace a_told a_read f_farHut f_farSinger f_good f_land f_huts f_singers f_evening a_at a_knows a_climbed a_snow a_level f_begun f_minute f_avalanches a_run a_covers a_routes a_longest a_steep a_laid a_far f_sight a_runs f_choir f_voices a_rest a_wins f_seed a_other a_kept H)
    (hS : va_S (mA q) s.heap H locs)
    (hl : lv_has ls 3 [(0, .ref q), (2, .int x2)])
    (hw : q_m_readText_121 a_tape a_fault a_faultPlace f_reached f_length f_begins f_sort f_value f_word f_wrongAt f_laterFault f_laterPlace a_told f_farHut f_farSinger f_good x2 post) :
    W p l e rm_m_readText s m args below meth c H locs 0 0 (MQ below (zQi (S := (Nat → Int32) × (Nat → Int32) × (Int32) × (Int32) × (Int32) × (Int32) × (Int64) × (Int32) × (Nat → Int32) × (Int32) × (Int32) × (Int32)) (fun r u => post r u.1 u.2.1 u.2.2.1 u.2.2.2.1 u.2.2.2.2.1 u.2.2.2.2.2.1 u.2.2.2.2.2.2.1 u.2.2.2.2.2.2.2.1 u.2.2.2.2.2.2.2.2.1 u.2.2.2.2.2.2.2.2.2.1 u.2.2.2.2.2.2.2.2.2.2.1 u.2.2.2.2.2.2.2.2.2.2.2) (fun u H => mW E q f_code a_tape a_size u.1 u.2.1 a_many a_lands a_evenings a_sights a_choirs u.2.2.1 f_length u.2.2.2.1 u.2.2.2.2.1 u.2.2.2.2.2.1 u.2.2.2.2.2.2.1 f_wrongAt u.2.2.2.2.2.2.2.1 f_laterPlace u.2.2.2.2.2.2.2.2.1 a_read u.2.2.2.2.2.2.2.2.2.1 u.2.2.2.2.2.2.2.2.2.2.1 u.2.2.2.2.2.2.2.2.2.2.2 f_land f_huts f_singers f_evening a_at a_knows a_climbed a_snow a_level f_begun f_minute f_avalanches a_run a_covers a_routes a_longest a_steep a_laid a_far f_sight a_runs f_choir f_voices a_rest a_wins f_seed a_other a_kept H) (mA q)) args s 0 0 (mA q)) (F0 m 121 ls []) := by
  have hx := zc.1
  have hb := zc.2.1
  refine lv_aload_n hx hb dX11_readText_121 rfl (lv_at hl 0 rfl) ?_
  refine mg_11_17_0 zc hK hM dX11_readText_122 ?_
  refine lv_iconst (v := (0 : Int32)) hx hb dX11_readText_125 (by decide) ?_
  refine lv_iload_n hx hb dX11_readText_126 rfl (lv_at hl 1 rfl) ?_
  refine lv_if_eq (tgt := 137) hx hb dX11_readText_127 (by decide) (fun hc => ?_) (fun hc => ?_)
  · have hw := hw.1 hc
    refine lv_iconst (v := (1 : Int32)) hx hb dX11_readText_137 (by decide) ?_
    exact t_m_readText_138 zc hK hM hS  (lv_sub hl [0, 1] rfl) hw
  · have hw := hw.2 hc
    refine lv_aload_n hx hb dX11_readText_130 rfl (lv_at hl 0 rfl) ?_
    refine mg_11_143_0 zc hK hM dX11_readText_131 ?_
    refine lv_goto (tgt := 138) hx hb dX11_readText_134 (by decide) ?_
    exact t_m_readText_138 zc hK hM hS  (lv_sub hl [0, 1] rfl) hw
set_option maxRecDepth 20000 in
theorem t_m_readText_41 {p : Program} {l : Launch} {e : Env} {s : State} {m : MethodId} {args : Array Value} {below : List Frame} {meth : Method} {c : Code} {E : zE} {q : Nat} {f_code : Int32} {a_tape : Nat → Int32} {a_size : Nat → Int32} {a_fault : Nat → Int32} {a_faultPlace : Nat → Int32} {a_many : Nat → Int32} {a_lands : Nat → Int32} {a_evenings : Nat → Int32} {a_sights : Nat → Int32} {a_choirs : Nat → Int32} {f_reached : Int32} {f_length : Int32} {f_begins : Int32} {f_sort : Int32} {f_value : Int32} {f_word : Int64} {f_wrongAt : Int32} {f_laterFault : Int32} {f_laterPlace : Int32} {a_told : Nat → Int32} {a_read : Nat → Int32} {f_farHut : Int32} {f_farSinger : Int32} {f_good : Int32} {f_land : Int32} {f_huts : Int32} {f_singers : Int32} {f_evening : Int32} {a_at : Nat → Int32} {a_knows : Nat → Int32} {a_climbed : Nat → Int32} {a_snow : Nat → Int32} {a_level : Nat → Int32} {f_begun : Int32} {f_minute : Int32} {f_avalanches : Int32} {a_run : Nat → Int32} {a_covers : Nat → Int32} {a_routes : Nat → Int32} {a_longest : Nat → Int32} {a_steep : Nat → Int32} {a_laid : Nat → Int32} {a_far : Nat → Int32} {f_sight : Int32} {a_runs : Nat → Int32} {f_choir : Int32} {f_voices : Int32} {a_rest : Nat → Int64} {a_wins : Nat → Int32} {f_seed : Int32} {a_other : Nat → Int32} {a_kept : Nat → Int32} {post : Int32 → (Nat → Int32) → (Nat → Int32) → (Int32) → (Int32) → (Int32) → (Int32) → (Int64) → (Int32) → (Nat → Int32) → (Int32) → (Int32) → (Int32) → Prop} {x1 : Int32} {ls : Array Slot} {H : Heap} {locs : List Loc}
    (zc : zC p s m args meth c cX11_readText 3 RX11 (some .boolean))
    (hK : zK E s)
    (hM : mW E q f_code a_tape a_size a_fault a_faultPlace a_many a_lands a_evenings a_sights a_choirs f_reached f_length f_begins f_sort f_value f_word f_wrongAt f_laterFault f_laterPlace a_told a_read f_farHut f_farSinger f_good f_land f_huts f_singers f_evening a_at a_knows a_climbed a_snow a_level f_begun f_minute f_avalanches a_run a_covers a_routes a_longest a_steep a_laid a_far f_sight a_runs f_choir f_voices a_rest a_wins f_seed a_other a_kept H)
    (hS : va_S (mA q) s.heap H locs)
    (hl : lv_has ls 3 [(0, .ref q), (1, .int x1)])
    (hw : q_m_readText_41 a_tape a_fault a_faultPlace f_reached f_length f_begins f_sort f_value f_word f_wrongAt f_laterFault f_laterPlace a_told f_farHut f_farSinger f_good x1 post) :
    W p l e rm_m_readText s m args below meth c H locs 0 0 (MQ below (zQi (S := (Nat → Int32) × (Nat → Int32) × (Int32) × (Int32) × (Int32) × (Int32) × (Int64) × (Int32) × (Nat → Int32) × (Int32) × (Int32) × (Int32)) (fun r u => post r u.1 u.2.1 u.2.2.1 u.2.2.2.1 u.2.2.2.2.1 u.2.2.2.2.2.1 u.2.2.2.2.2.2.1 u.2.2.2.2.2.2.2.1 u.2.2.2.2.2.2.2.2.1 u.2.2.2.2.2.2.2.2.2.1 u.2.2.2.2.2.2.2.2.2.2.1 u.2.2.2.2.2.2.2.2.2.2.2) (fun u H => mW E q f_code a_tape a_size u.1 u.2.1 a_many a_lands a_evenings a_sights a_choirs u.2.2.1 f_length u.2.2.2.1 u.2.2.2.2.1 u.2.2.2.2.2.1 u.2.2.2.2.2.2.1 f_wrongAt u.2.2.2.2.2.2.2.1 f_laterPlace u.2.2.2.2.2.2.2.2.1 a_read u.2.2.2.2.2.2.2.2.2.1 u.2.2.2.2.2.2.2.2.2.2.1 u.2.2.2.2.2.2.2.2.2.2.2 f_land f_huts f_singers f_evening a_at a_knows a_climbed a_snow a_level f_begun f_minute f_avalanches a_run a_covers a_routes a_longest a_steep a_laid a_far f_sight a_runs f_choir f_voices a_rest a_wins f_seed a_other a_kept H) (mA q)) args s 0 0 (mA q)) (F0 m 41 ls []) := by
  have hx := zc.1
  have hb := zc.2.1
  refine lv_aload_n hx hb dX11_readText_41 rfl (lv_at hl 0 rfl) ?_
  refine lv_iconst (v := (-1 : Int32)) hx hb dX11_readText_42 (by decide) ?_
  refine mp_11_168_0 zc hK hM hS dX11_readText_43 (fun H locs hM hS => ?_)
  refine lv_aload_n hx hb dX11_readText_46 rfl (lv_at hl 0 rfl) ?_
  refine lv_iconst (v := (-1 : Int32)) hx hb dX11_readText_47 (by decide) ?_
  refine mp_11_184_0 zc hK hM hS dX11_readText_48 (fun H locs hM hS => ?_)
  refine lv_aload_n hx hb dX11_readText_51 rfl (lv_at hl 0 rfl) ?_
  refine lv_iconst (v := (0 : Int32)) hx hb dX11_readText_52 (by decide) ?_
  refine mp_11_117_0 zc hK hM hS dX11_readText_53 (fun H locs hM hS => ?_)
  refine lv_aload_n hx hb dX11_readText_56 rfl (lv_at hl 0 rfl) ?_
  refine lv_iconst (v := (0 : Int32)) hx hb dX11_readText_57 (by decide) ?_
  refine mp_11_143_0 zc hK hM hS dX11_readText_58 (fun H locs hM hS => ?_)
  refine lv_aload_n hx hb dX11_readText_61 rfl (lv_at hl 0 rfl) ?_
  refine zVw_v [] [] zc ky_X11_token kz_X11_token km_11_161 (c_m_token l hw) (mPreV0 hK hM) hS rfl rfl hl.1 (Nat.le_of_ble_eq_true rfl) ⟨rfl, rfl⟩ ⟨Nat.le_of_ble_eq_true rfl, Nat.le_of_ble_eq_true rfl⟩ ⟨Nat.zero_le _, Nat.zero_le _⟩ dX11_readText_62 (fun u H locs hw hM hS => ?_)
  obtain ⟨f_reached_1, f_begins_1, f_sort_1, f_value_1, f_word_1⟩ := u
  refine lv_aload_n hx hb dX11_readText_65 rfl (lv_at hl 0 rfl) ?_
  refine lv_iload_n hx hb dX11_readText_66 rfl (lv_at hl 1 rfl) ?_
  refine zVw_i [.int x1] [] zc ky_X11_lines kz_X11_lines km_11_284 (c_m_lines l hw) (mPreV0 hK hM) hS rfl rfl hl.1 (Nat.le_of_ble_eq_true rfl) ⟨rfl, rfl⟩ ⟨Nat.le_of_ble_eq_true rfl, Nat.le_of_ble_eq_true rfl⟩ ⟨Nat.zero_le _, Nat.zero_le _⟩ dX11_readText_67 (fun r_1 f_good_1 H locs hw hM hS => ?_)
  refine lv_istore_n (lv' := [(2, .int r_1), (0, .ref q), (1, .int x1)]) hx hb dX11_readText_70 rfl hl (by decide) rfl (fun ls hl => ?_)
  refine lv_iload_n hx hb dX11_readText_71 rfl (lv_at hl 0 rfl) ?_
  refine lv_if_eq (tgt := 121) hx hb dX11_readText_72 (by decide) (fun hc => ?_) (fun hc => ?_)
  · have hw := hw.1 hc
    exact t_m_readText_121 zc hK hM hS  (lv_sub hl [1, 0] rfl) hw
  · have hw := hw.2 hc
    refine lv_iload_n hx hb dX11_readText_75 rfl (lv_at hl 2 rfl) ?_
    refine lv_if_ne (tgt := 121) hx hb dX11_readText_76 (by decide) (fun hc => ?_) (fun hc => ?_)
    · have hw := hw.1 hc
      exact t_m_readText_121 zc hK hM hS  (lv_sub hl [1, 0] rfl) hw
    · have hw := hw.2 hc
      refine lv_aload_n hx hb dX11_readText_79 rfl (lv_at hl 1 rfl) ?_
      refine mg_11_143_0 zc hK hM dX11_readText_80 ?_
      refine lv_if_ne (tgt := 121) hx hb dX11_readText_83 (by decide) (fun hc => ?_) (fun hc => ?_)
      · have hw := hw.1 hc
        exact t_m_readText_121 zc hK hM hS  (lv_sub hl [1, 0] rfl) hw
      · have hw := hw.2 hc
        refine lv_aload_n hx hb dX11_readText_86 rfl (lv_at hl 1 rfl) ?_
        refine mg_11_168_0 zc hK hM dX11_readText_87 ?_
        refine lv_aload_n hx hb dX11_readText_90 rfl (lv_at hl 1 rfl) ?_
        refine mg_11_38_0 zc hK hM dX11_readText_91 ?_
        refine lv_iconst (v := (0 : Int32)) hx hb dX11_readText_94 (by decide) ?_
        refine mld_10 zc hK hM (by unfold vp_in; decide) dX11_readText_95 ?_
        refine lv_icmp_ge (tgt := 112) hx hb dX11_readText_96 (by decide) (fun hc => ?_) (fun hc => ?_)
        · have hw := hw.1 hc
          exact t_m_readText_112 zc hK hM hS  (lv_sub hl [1, 0] rfl) hw
        · have hw := hw.2 hc
          refine lv_aload_n hx hb dX11_readText_99 rfl (lv_at hl 1 rfl) ?_
          refine mg_11_184_0 zc hK hM dX11_readText_100 ?_
          refine lv_aload_n hx hb dX11_readText_103 rfl (lv_at hl 1 rfl) ?_
          refine mg_11_38_0 zc hK hM dX11_readText_104 ?_
          refine lv_iconst (v := (1 : Int32)) hx hb dX11_readText_107 (by decide) ?_
          refine mld_10 zc hK hM (by unfold vp_in; decide) dX11_readText_108 ?_
          refine lv_icmp_lt (tgt := 121) hx hb dX11_readText_109 (by decide) (fun hc => ?_) (fun hc => ?_)
          · have hw := hw.1 hc
            exact t_m_readText_121 zc hK hM hS  (lv_sub hl [1, 0] rfl) hw
          · have hw := hw.2 hc
            exact t_m_readText_112 zc hK hM hS  (lv_sub hl [1, 0] rfl) hw
set_option maxRecDepth 20000 in
theorem t_m_readText_2 {p : Program} {l : Launch} {e : Env} {s : State} {m : MethodId} {args : Array Value} {below : List Frame} {meth : Method} {c : Code} {E : zE} {q : Nat} {f_code : Int32} {a_tape : Nat → Int32} {a_size : Nat → Int32} {a_fault : Nat → Int32} {a_faultPlace : Nat → Int32} {a_many : Nat → Int32} {a_lands : Nat → Int32} {a_evenings : Nat → Int32} {a_sights : Nat → Int32} {a_choirs : Nat → Int32} {f_reached : Int32} {f_length : Int32} {f_begins : Int32} {f_sort : Int32} {f_value : Int32} {f_word : Int64} {f_wrongAt : Int32} {f_laterFault : Int32} {f_laterPlace : Int32} {a_told : Nat → Int32} {a_read : Nat → Int32} {f_farHut : Int32} {f_farSinger : Int32} {f_good : Int32} {f_land : Int32} {f_huts : Int32} {f_singers : Int32} {f_evening : Int32} {a_at : Nat → Int32} {a_knows : Nat → Int32} {a_climbed : Nat → Int32} {a_snow : Nat → Int32} {a_level : Nat → Int32} {f_begun : Int32} {f_minute : Int32} {f_avalanches : Int32} {a_run : Nat → Int32} {a_covers : Nat → Int32} {a_routes : Nat → Int32} {a_longest : Nat → Int32} {a_steep : Nat → Int32} {a_laid : Nat → Int32} {a_far : Nat → Int32} {f_sight : Int32} {a_runs : Nat → Int32} {f_choir : Int32} {f_voices : Int32} {a_rest : Nat → Int64} {a_wins : Nat → Int32} {f_seed : Int32} {a_other : Nat → Int32} {a_kept : Nat → Int32} {post : Int32 → (Nat → Int32) → (Nat → Int32) → (Int32) → (Int32) → (Int32) → (Int32) → (Int64) → (Int32) → (Nat → Int32) → (Int32) → (Int32) → (Int32) → Prop} {x1 : Int32} {x2 : Int32} {ls : Array Slot} {H : Heap} {locs : List Loc}
    (zc : zC p s m args meth c cX11_readText 3 RX11 (some .boolean))
    (hK : zK E s)
    (hM : mW E q f_code a_tape a_size a_fault a_faultPlace a_many a_lands a_evenings a_sights a_choirs f_reached f_length f_begins f_sort f_value f_word f_wrongAt f_laterFault f_laterPlace a_told a_read f_farHut f_farSinger f_good f_land f_huts f_singers f_evening a_at a_knows a_climbed a_snow a_level f_begun f_minute f_avalanches a_run a_covers a_routes a_longest a_steep a_laid a_far f_sight a_runs f_choir f_voices a_rest a_wins f_seed a_other a_kept H)
    (hS : va_S (mA q) s.heap H locs)
    (hl : lv_has ls 3 [(0, .ref q), (1, .int x1), (2, .int x2)])
    (hw : q_m_readText_2 a_tape a_fault a_faultPlace f_reached f_length f_begins f_sort f_value f_word f_wrongAt f_laterFault f_laterPlace a_told f_farHut f_farSinger f_good x1 x2 post) :
    W p l e rm_m_readText s m args below meth c H locs 0 0 (MQ below (zQi (S := (Nat → Int32) × (Nat → Int32) × (Int32) × (Int32) × (Int32) × (Int32) × (Int64) × (Int32) × (Nat → Int32) × (Int32) × (Int32) × (Int32)) (fun r u => post r u.1 u.2.1 u.2.2.1 u.2.2.2.1 u.2.2.2.2.1 u.2.2.2.2.2.1 u.2.2.2.2.2.2.1 u.2.2.2.2.2.2.2.1 u.2.2.2.2.2.2.2.2.1 u.2.2.2.2.2.2.2.2.2.1 u.2.2.2.2.2.2.2.2.2.2.1 u.2.2.2.2.2.2.2.2.2.2.2) (fun u H => mW E q f_code a_tape a_size u.1 u.2.1 a_many a_lands a_evenings a_sights a_choirs u.2.2.1 f_length u.2.2.2.1 u.2.2.2.2.1 u.2.2.2.2.2.1 u.2.2.2.2.2.2.1 f_wrongAt u.2.2.2.2.2.2.2.1 f_laterPlace u.2.2.2.2.2.2.2.2.1 a_read u.2.2.2.2.2.2.2.2.2.1 u.2.2.2.2.2.2.2.2.2.2.1 u.2.2.2.2.2.2.2.2.2.2.2 f_land f_huts f_singers f_evening a_at a_knows a_climbed a_snow a_level f_begun f_minute f_avalanches a_run a_covers a_routes a_longest a_steep a_laid a_far f_sight a_runs f_choir f_voices a_rest a_wins f_seed a_other a_kept H) (mA q)) args s 0 0 (mA q)) (F0 m 2 ls []) := by
  have hx := zc.1
  have hb := zc.2.1
  refine hw (fun x2 a_told => ∀ (H : Heap) (locs : List Loc) (ls : Array Slot), lv_has ls 3 [(0, .ref q), (1, .int x1), (2, .int x2)] → mW E q f_code a_tape a_size a_fault a_faultPlace a_many a_lands a_evenings a_sights a_choirs f_reached f_length f_begins f_sort f_value f_word f_wrongAt f_laterFault f_laterPlace a_told a_read f_farHut f_farSinger f_good f_land f_huts f_singers f_evening a_at a_knows a_climbed a_snow a_level f_begun f_minute f_avalanches a_run a_covers a_routes a_longest a_steep a_laid a_far f_sight a_runs f_choir f_voices a_rest a_wins f_seed a_other a_kept H → va_S (mA q) s.heap H locs → W p l e rm_m_readText s m args below meth c H locs 0 0 (MQ below (zQi (S := (Nat → Int32) × (Nat → Int32) × (Int32) × (Int32) × (Int32) × (Int32) × (Int64) × (Int32) × (Nat → Int32) × (Int32) × (Int32) × (Int32)) (fun r u => post r u.1 u.2.1 u.2.2.1 u.2.2.2.1 u.2.2.2.2.1 u.2.2.2.2.2.1 u.2.2.2.2.2.2.1 u.2.2.2.2.2.2.2.1 u.2.2.2.2.2.2.2.2.1 u.2.2.2.2.2.2.2.2.2.1 u.2.2.2.2.2.2.2.2.2.2.1 u.2.2.2.2.2.2.2.2.2.2.2) (fun u H => mW E q f_code a_tape a_size u.1 u.2.1 a_many a_lands a_evenings a_sights a_choirs u.2.2.1 f_length u.2.2.2.1 u.2.2.2.2.1 u.2.2.2.2.2.1 u.2.2.2.2.2.2.1 f_wrongAt u.2.2.2.2.2.2.2.1 f_laterPlace u.2.2.2.2.2.2.2.2.1 a_read u.2.2.2.2.2.2.2.2.2.1 u.2.2.2.2.2.2.2.2.2.2.1 u.2.2.2.2.2.2.2.2.2.2.2 f_land f_huts f_singers f_evening a_at a_knows a_climbed a_snow a_level f_begun f_minute f_avalanches a_run a_covers a_routes a_longest a_steep a_laid a_far f_sight a_runs f_choir f_voices a_rest a_wins f_seed a_other a_kept H) (mA q)) args s 0 0 (mA q)) (F0 m 2 ls [])) ?_ _ _ _ hl hM hS
  intro x2 a_told hw H locs ls hl hM hS
  refine lv_iload_n hx hb dX11_readText_2 rfl (lv_at hl 2 rfl) ?_
  refine lv_sipush (v := (132 : Int32)) hx hb dX11_readText_3 (by decide) ?_
  refine lv_icmp_ge (tgt := 22) hx hb dX11_readText_6 (by decide) (fun hc => ?_) (fun hc => ?_)
  · have hw := hw.1 hc
    refine lv_iload_n hx hb dX11_readText_22 rfl (lv_at hl 1 rfl) ?_
    refine lv_if_ne (tgt := 41) hx hb dX11_readText_23 (by decide) (fun hc => ?_) (fun hc => ?_)
    · have hw := hw.1 hc
      exact t_m_readText_41 zc hK hM hS  (lv_sub hl [0, 1] rfl) hw
    · have hw := hw.2 hc
      refine lv_aload_n hx hb dX11_readText_26 rfl (lv_at hl 0 rfl) ?_
      refine mg_11_38_0 zc hK hM dX11_readText_27 ?_
      refine lv_iconst (v := (5 : Int32)) hx hb dX11_readText_30 (by decide) ?_
      refine lv_iconst (v := (2 : Int32)) hx hb dX11_readText_31 (by decide) ?_
      refine mst_10 zc hK hM hS (by unfold vp_in; decide) dX11_readText_32 (fun a_told_1 H locs ea_told_1 hM hS => ?_)
      have hw := hw a_told_1 ea_told_1
      refine lv_aload_n hx hb dX11_readText_33 rfl (lv_at hl 0 rfl) ?_
      refine mg_11_38_0 zc hK hM dX11_readText_34 ?_
      refine lv_bipush (v := (6 : Int32)) hx hb dX11_readText_37 (by decide) ?_
      refine lv_iconst (v := (5 : Int32)) hx hb dX11_readText_39 (by decide) ?_
      refine mst_10 zc hK hM hS (by unfold vp_in; decide) dX11_readText_40 (fun a_told_2 H locs ea_told_2 hM hS => ?_)
      have hw := hw a_told_2 ea_told_2
      exact t_m_readText_41 zc hK hM hS  (lv_sub hl [0, 1] rfl) hw
  · have hw := hw.2 hc
    refine lv_aload_n hx hb dX11_readText_9 rfl (lv_at hl 0 rfl) ?_
    refine mg_11_38_0 zc hK hM dX11_readText_10 ?_
    refine lv_iload_n hx hb dX11_readText_13 rfl (lv_at hl 2 rfl) ?_
    refine lv_iconst (v := (0 : Int32)) hx hb dX11_readText_14 (by decide) ?_
    refine mst_10 zc hK hM hS hw.1 dX11_readText_15 (fun a_told_3 H locs ea_told_3 hM hS => ?_)
    have hw := hw.2 a_told_3 ea_told_3
    obtain ⟨v_1, ev_1⟩ : ∃ y : Int32, y = x2 + (1 : Int32) := ⟨_, rfl⟩
    have hw := hw v_1 ev_1
    refine lv_iinc (v := v_1) (k := 2) (lv' := [(2, .int v_1), (0, .ref q), (1, .int x1)]) hx hb dX11_readText_16 hl rfl (by rw [ev_1]; rfl) (by decide) rfl (fun ls hl => ?_)
    refine lv_goto (tgt := 2) hx hb dX11_readText_19 (by decide) ?_
    exact hw _ _ _ (lv_sub hl [1, 2, 0] rfl) hM hS
set_option maxRecDepth 20000 in
theorem t_m_readText_0 {p : Program} {l : Launch} {e : Env} {s : State} {m : MethodId} {args : Array Value} {below : List Frame} {meth : Method} {c : Code} {E : zE} {q : Nat} {f_code : Int32} {a_tape : Nat → Int32} {a_size : Nat → Int32} {a_fault : Nat → Int32} {a_faultPlace : Nat → Int32} {a_many : Nat → Int32} {a_lands : Nat → Int32} {a_evenings : Nat → Int32} {a_sights : Nat → Int32} {a_choirs : Nat → Int32} {f_reached : Int32} {f_length : Int32} {f_begins : Int32} {f_sort : Int32} {f_value : Int32} {f_word : Int64} {f_wrongAt : Int32} {f_laterFault : Int32} {f_laterPlace : Int32} {a_told : Nat → Int32} {a_read : Nat → Int32} {f_farHut : Int32} {f_farSinger : Int32} {f_good : Int32} {f_land : Int32} {f_huts : Int32} {f_singers : Int32} {f_evening : Int32} {a_at : Nat → Int32} {a_knows : Nat → Int32} {a_climbed : Nat → Int32} {a_snow : Nat → Int32} {a_level : Nat → Int32} {f_begun : Int32} {f_minute : Int32} {f_avalanches : Int32} {a_run : Nat → Int32} {a_covers : Nat → Int32} {a_routes : Nat → Int32} {a_longest : Nat → Int32} {a_steep : Nat → Int32} {a_laid : Nat → Int32} {a_far : Nat → Int32} {f_sight : Int32} {a_runs : Nat → Int32} {f_choir : Int32} {f_voices : Int32} {a_rest : Nat → Int64} {a_wins : Nat → Int32} {f_seed : Int32} {a_other : Nat → Int32} {a_kept : Nat → Int32} {post : Int32 → (Nat → Int32) → (Nat → Int32) → (Int32) → (Int32) → (Int32) → (Int32) → (Int64) → (Int32) → (Nat → Int32) → (Int32) → (Int32) → (Int32) → Prop} {x1 : Int32} {ls : Array Slot} {H : Heap} {locs : List Loc}
    (zc : zC p s m args meth c cX11_readText 3 RX11 (some .boolean))
    (hK : zK E s)
    (hM : mW E q f_code a_tape a_size a_fault a_faultPlace a_many a_lands a_evenings a_sights a_choirs f_reached f_length f_begins f_sort f_value f_word f_wrongAt f_laterFault f_laterPlace a_told a_read f_farHut f_farSinger f_good f_land f_huts f_singers f_evening a_at a_knows a_climbed a_snow a_level f_begun f_minute f_avalanches a_run a_covers a_routes a_longest a_steep a_laid a_far f_sight a_runs f_choir f_voices a_rest a_wins f_seed a_other a_kept H)
    (hS : va_S (mA q) s.heap H locs)
    (hl : lv_has ls 3 [(0, .ref q), (1, .int x1)])
    (hw : q_m_readText_0 a_tape a_fault a_faultPlace f_reached f_length f_begins f_sort f_value f_word f_wrongAt f_laterFault f_laterPlace a_told f_farHut f_farSinger f_good x1 post) :
    W p l e rm_m_readText s m args below meth c H locs 0 0 (MQ below (zQi (S := (Nat → Int32) × (Nat → Int32) × (Int32) × (Int32) × (Int32) × (Int32) × (Int64) × (Int32) × (Nat → Int32) × (Int32) × (Int32) × (Int32)) (fun r u => post r u.1 u.2.1 u.2.2.1 u.2.2.2.1 u.2.2.2.2.1 u.2.2.2.2.2.1 u.2.2.2.2.2.2.1 u.2.2.2.2.2.2.2.1 u.2.2.2.2.2.2.2.2.1 u.2.2.2.2.2.2.2.2.2.1 u.2.2.2.2.2.2.2.2.2.2.1 u.2.2.2.2.2.2.2.2.2.2.2) (fun u H => mW E q f_code a_tape a_size u.1 u.2.1 a_many a_lands a_evenings a_sights a_choirs u.2.2.1 f_length u.2.2.2.1 u.2.2.2.2.1 u.2.2.2.2.2.1 u.2.2.2.2.2.2.1 f_wrongAt u.2.2.2.2.2.2.2.1 f_laterPlace u.2.2.2.2.2.2.2.2.1 a_read u.2.2.2.2.2.2.2.2.2.1 u.2.2.2.2.2.2.2.2.2.2.1 u.2.2.2.2.2.2.2.2.2.2.2 f_land f_huts f_singers f_evening a_at a_knows a_climbed a_snow a_level f_begun f_minute f_avalanches a_run a_covers a_routes a_longest a_steep a_laid a_far f_sight a_runs f_choir f_voices a_rest a_wins f_seed a_other a_kept H) (mA q)) args s 0 0 (mA q)) (F0 m 0 ls []) := by
  have hx := zc.1
  have hb := zc.2.1
  refine lv_iconst (v := (0 : Int32)) hx hb dX11_readText_0 (by decide) ?_
  refine lv_istore_n (lv' := [(2, .int (0 : Int32)), (0, .ref q), (1, .int x1)]) hx hb dX11_readText_1 rfl hl (by decide) rfl (fun ls hl => ?_)
  exact t_m_readText_2 zc hK hM hS  (lv_sub hl [1, 2, 0] rfl) hw
set_option maxRecDepth 20000 in
theorem c_m_readText (l : Launch) {E : zE} {q : Nat} {f_code : Int32} {a_tape : Nat → Int32} {a_size : Nat → Int32} {a_fault : Nat → Int32} {a_faultPlace : Nat → Int32} {a_many : Nat → Int32} {a_lands : Nat → Int32} {a_evenings : Nat → Int32} {a_sights : Nat → Int32} {a_choirs : Nat → Int32} {f_reached : Int32} {f_length : Int32} {f_begins : Int32} {f_sort : Int32} {f_value : Int32} {f_word : Int64} {f_wrongAt : Int32} {f_laterFault : Int32} {f_laterPlace : Int32} {a_told : Nat → Int32} {a_read : Nat → Int32} {f_farHut : Int32} {f_farSinger : Int32} {f_good : Int32} {f_land : Int32} {f_huts : Int32} {f_singers : Int32} {f_evening : Int32} {a_at : Nat → Int32} {a_knows : Nat → Int32} {a_climbed : Nat → Int32} {a_snow : Nat → Int32} {a_level : Nat → Int32} {f_begun : Int32} {f_minute : Int32} {f_avalanches : Int32} {a_run : Nat → Int32} {a_covers : Nat → Int32} {a_routes : Nat → Int32} {a_longest : Nat → Int32} {a_steep : Nat → Int32} {a_laid : Nat → Int32} {a_far : Nat → Int32} {f_sight : Int32} {a_runs : Nat → Int32} {f_choir : Int32} {f_voices : Int32} {a_rest : Nat → Int64} {a_wins : Nat → Int32} {f_seed : Int32} {a_other : Nat → Int32} {a_kept : Nat → Int32} {x1 : Int32} {post : Int32 → (Nat → Int32) → (Nat → Int32) → (Int32) → (Int32) → (Int32) → (Int32) → (Int64) → (Int32) → (Nat → Int32) → (Int32) → (Int32) → (Int32) → Prop} (hw : q_m_readText_0 a_tape a_fault a_faultPlace f_reached f_length f_begins f_sort f_value f_word f_wrongAt f_laterFault f_laterPlace a_told f_farHut f_farSinger f_good x1 post) : Met l yX11_readText (Cond.code yX11_readText cX11_readText 3 (some .boolean) :: zb) rm_m_readText (va_Pc [.ref q, .int x1] (fun U => mW E q f_code a_tape a_size a_fault a_faultPlace a_many a_lands a_evenings a_sights a_choirs f_reached f_length f_begins f_sort f_value f_word f_wrongAt f_laterFault f_laterPlace a_told a_read f_farHut f_farSinger f_good f_land f_huts f_singers f_evening a_at a_knows a_climbed a_snow a_level f_begun f_minute f_avalanches a_run a_covers a_routes a_longest a_steep a_laid a_far f_sight a_runs f_choir f_voices a_rest a_wins f_seed a_other a_kept U.heap ∧ zK E U)) (zQi (S := (Nat → Int32) × (Nat → Int32) × (Int32) × (Int32) × (Int32) × (Int32) × (Int64) × (Int32) × (Nat → Int32) × (Int32) × (Int32) × (Int32)) (fun r u => post r u.1 u.2.1 u.2.2.1 u.2.2.2.1 u.2.2.2.2.1 u.2.2.2.2.2.1 u.2.2.2.2.2.2.1 u.2.2.2.2.2.2.2.1 u.2.2.2.2.2.2.2.2.1 u.2.2.2.2.2.2.2.2.2.1 u.2.2.2.2.2.2.2.2.2.2.1 u.2.2.2.2.2.2.2.2.2.2.2) (fun u H => mW E q f_code a_tape a_size u.1 u.2.1 a_many a_lands a_evenings a_sights a_choirs u.2.2.1 f_length u.2.2.2.1 u.2.2.2.2.1 u.2.2.2.2.2.1 u.2.2.2.2.2.2.1 f_wrongAt u.2.2.2.2.2.2.2.1 f_laterPlace u.2.2.2.2.2.2.2.2.1 a_read u.2.2.2.2.2.2.2.2.2.1 u.2.2.2.2.2.2.2.2.2.2.1 u.2.2.2.2.2.2.2.2.2.2.2 f_land f_huts f_singers f_evening a_at a_knows a_climbed a_snow a_level f_begun f_minute f_avalanches a_run a_covers a_routes a_longest a_steep a_laid a_far f_sight a_runs f_choir f_voices a_rest a_wins f_seed a_other a_kept H) (mA q)) 0 0 (mA q) := by
  refine Met.ofW (cc := cX11_readText) (maxL := 3) (ret := (some .boolean)) (by decide) rfl ?_
  intro p e s m args below meth c s₁ B hml hv
  obtain ⟨rfl, hM, hK⟩ := hv
  have zc := zc_of B hml
  have hl := lv_entry ([.ref q, .int x1]) (n := 3) (Nat.le_of_ble_eq_true rfl)
  rw [lg_entry_eq]
  generalize (lg_sl ([.ref q, .int x1]) ++ List.replicate (3 - (lg_sl ([.ref q, .int x1])).length) Slot.unset).toArray = ls at hl ⊢
  have hl : lv_has ls 3 [(0, .ref q), (1, .int x1)] := hl
  exact t_m_readText_0 zc hK hM va_S.rf (lv_sub hl [0, 1] rfl) hw
