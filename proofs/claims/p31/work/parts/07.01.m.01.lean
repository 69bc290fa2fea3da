-- m_end
abbrev rm_m_end : Room := { frames := 1, cells := 0, slots := 0, locals := 22 }
def q_m_end_0 (f_code : Int32) (a_size : Nat → Int32) (x1 : Int32) (post : Int32 → (Int32) → (Nat → Int32) → Prop) : Prop :=
  q_m_in_0 x1 (0 : Int32) (a_size (Int32.toNatClampNeg (0 : Int32))) (fun r_1 => (¬ r_1 = 0 → (∀ a_size_1 : Nat → Int32, a_size_1 = upd a_size (Int32.toNatClampNeg (0 : Int32)) x1 → (post x1 (0 : Int32) a_size_1))) ∧ (r_1 = 0 → (post (-1 : Int32) (0 : Int32) a_size)))
set_option maxRecDepth 20000 in
theorem t_m_end_0 {p : Program} {l : Launch} {e : Env} {s : State} {m : MethodId} {args : Array Value} {below : List Frame} {meth : Method} {c : Code} {E : zE} {q : Nat} {f_code : Int32} {a_tape : Nat → Int32} {a_size : Nat → Int32} {a_fault : Nat → Int32} {a_faultPlace : Nat → Int32} {a_many : Nat → Int32} {a_lands : Nat → Int32} {a_evenings : Nat → Int32} {a_sights : Nat → Int32} {a_choirs : Nat → Int32} {f_reached : Int32} {f_length : Int32} {f_begins : Int32} {f_sort : Int32} {f_value : Int32} {f_word : Int64} {f_wrongAt : Int32} {f_laterFault : Int32} {f_laterPlace : Int32} {a_told : Nat → Int32} {a_read : Nat → Int32} {f_farHut : Int32} {f_farSinger : Int32} {f_good : Int32} {f_land : Int32} {f_huts : Int32} {f_singers : Int32} {f_evening : Int32} {a_at : Nat → Int32} {a_knows : Nat → Int32} {a_climbed : Nat → Int32} {a_snow : Nat → Int32} {a_level : Nat → Int32} {f_begun : Int32} {f_minute : Int32} {f_avalanches : Int32} {a_run : Nat → Int32} {a_covers : Nat → Int32} {a_routes : Nat → Int32} {a_longest : Nat → Int32} {a_steep : Nat → Int32} {a_laid : Nat → Int32} {a_far : Nat → Int32} {f_sight : Int32} {a_runs : Nat → Int32} {f_choir : Int32} {f_voices : Int32} {a_rest : Nat → Int64} {a_wins : Nat → Int32} {f_seed : Int32} {a_other : Nat → Int32} {a_kept : Nat → Int32} {post : Int32 → (Int32) → (Nat → Int32) → Prop} {x1 : Int32} {ls : Array Slot} {H : Heap} {locs : List Loc}
    (zc : zC p s m args meth c cX11_end 2 RX11 (some .int))
    (hK : zK E s)
    (hM : mW E q f_code a_tape a_size a_fault a_faultPlace a_many a_lands a_evenings a_sights a_choirs f_reached f_length f_begins f_sort f_value f_word f_wrongAt f_laterFault f_laterPlace a_told a_read f_farHut f_farSinger f_good f_land f_huts f_singers f_evening a_at a_knows a_climbed a_snow a_level f_begun f_minute f_avalanches a_run a_covers a_routes a_longest a_steep a_laid a_far f_sight a_runs f_choir f_voices a_rest a_wins f_seed a_other a_kept H)
    (hS : va_S (mA q) s.heap H locs)
    (hl : lv_has ls 2 [(0, .ref q), (1, .int x1)])
    (hw : q_m_end_0 f_code a_size x1 post) :
    W p l e rm_m_end s m args below meth c H locs 0 0 (MQ below (zQi (S := (Int32) × (Nat → Int32)) (fun r u => post r u.1 u.2) (fun u H => mW E q u.1 a_tape u.2 a_fault a_faultPlace a_many a_lands a_evenings a_sights a_choirs f_reached f_length f_begins f_sort f_value f_word f_wrongAt f_laterFault f_laterPlace a_told a_read f_farHut f_farSinger f_good f_land f_huts f_singers f_evening a_at a_knows a_climbed a_snow a_level f_begun f_minute f_avalanches a_run a_covers a_routes a_longest a_steep a_laid a_far f_sight a_runs f_choir f_voices a_rest a_wins f_seed a_other a_kept H) (mA q)) args s 0 0 (mA q)) (F0 m 0 ls []) := by
  have hx := zc.1
  have hb := zc.2.1
  refine lv_aload_n hx hb dX11_end_0 rfl (lv_at hl 0 rfl) ?_
  refine lv_iconst (v := (0 : Int32)) hx hb dX11_end_1 (by decide) ?_
  refine mp_11_97_0 zc hK hM hS dX11_end_2 (fun H locs hM hS => ?_)
  refine lv_iload_n hx hb dX11_end_5 rfl (lv_at hl 1 rfl) ?_
  refine lv_iconst (v := (0 : Int32)) hx hb dX11_end_6 (by decide) ?_
  refine lv_aload_n hx hb dX11_end_7 rfl (lv_at hl 0 rfl) ?_
  refine mg_11_13_0 zc hK hM dX11_end_8 ?_
  refine lv_iconst (v := (0 : Int32)) hx hb dX11_end_11 (by decide) ?_
  refine mld_2 zc hK hM (by unfold vp_in; decide) dX11_end_12 ?_
  refine zS_i [.int x1, .int (0 : Int32), .int (a_size (Int32.toNatClampNeg (0 : Int32)))] [] zc ky_X11_in kz_X11_in km_11_109 (c_m_in l hw) (zPre0 _) rfl rfl hl.1 (Nat.le_of_ble_eq_true rfl) ⟨rfl, rfl⟩ ⟨Nat.le_of_ble_eq_true rfl, Nat.le_of_ble_eq_true rfl⟩ ⟨(Nat.zero_le _), (Nat.zero_le _)⟩ dX11_end_13 (fun r_1 hw => ?_)
  refine lv_if_ne (tgt := 21) hx hb dX11_end_16 (by decide) (fun hc => ?_) (fun hc => ?_)
  · have hw := hw.1 hc
    refine lv_aload_n hx hb dX11_end_21 rfl (lv_at hl 0 rfl) ?_
    refine mg_11_13_0 zc hK hM dX11_end_22 ?_
    refine lv_iconst (v := (0 : Int32)) hx hb dX11_end_25 (by decide) ?_
    refine lv_iload_n hx hb dX11_end_26 rfl (lv_at hl 1 rfl) ?_
    refine mst_2 zc hK hM hS (by unfold vp_in; decide) dX11_end_27 (fun a_size_1 H locs ea_size_1 hM hS => ?_)
    have hw := hw a_size_1 ea_size_1
    refine lv_iload_n hx hb dX11_end_28 rfl (lv_at hl 1 rfl) ?_
    exact zret_iw ⟨(0 : Int32), a_size_1⟩ zc hS hw hM dX11_end_29
  · have hw := hw.2 hc
    refine lv_iconst (v := (-1 : Int32)) hx hb dX11_end_19 (by decide) ?_
    exact zret_iw ⟨(0 : Int32), a_size⟩ zc hS hw hM dX11_end_20
set_option maxRecDepth 20000 in
theorem c_m_end (l : Launch) {E : zE} {q : Nat} {f_code : Int32} {a_tape : Nat → Int32} {a_size : Nat → Int32} {a_fault : Nat → Int32} {a_faultPlace : Nat → Int32} {a_many : Nat → Int32} {a_lands : Nat → Int32} {a_evenings : Nat → Int32} {a_sights : Nat → Int32} {a_choirs : Nat → Int32} {f_reached : Int32} {f_length : Int32} {f_begins : Int32} {f_sort : Int32} {f_value : Int32} {f_word : Int64} {f_wrongAt : Int32} {f_laterFault : Int32} {f_laterPlace : Int32} {a_told : Nat → Int32} {a_read : Nat → Int32} {f_farHut : Int32} {f_farSinger : Int32} {f_good : Int32} {f_land : Int32} {f_huts : Int32} {f_singers : Int32} {f_evening : Int32} {a_at : Nat → Int32} {a_knows : Nat → Int32} {a_climbed : Nat → Int32} {a_snow : Nat → Int32} {a_level : Nat → Int32} {f_begun : Int32} {f_minute : Int32} {f_avalanches : Int32} {a_run : Nat → Int32} {a_covers : Nat → Int32} {a_routes : Nat → Int32} {a_longest : Nat → Int32} {a_steep : Nat → Int32} {a_laid : Nat → Int32} {a_far : Nat → Int32} {f_sight : Int32} {a_runs : Nat → Int32} {f_choir : Int32} {f_voices : Int32} {a_rest : Nat → Int64} {a_wins : Nat → Int32} {f_seed : Int32} {a_other : Nat → Int32} {a_kept : Nat → Int32} {x1 : Int32} {post : Int32 → (Int32) → (Nat → Int32) → Prop} (hw : q_m_end_0 f_code a_size x1 post) : Met l yX11_end (Cond.code yX11_end cX11_end 2 (some .int) :: zb) rm_m_end (va_Pc [.ref q, .int x1] (fun U => mW E q f_code a_tape a_size a_fault a_faultPlace a_many a_lands a_evenings a_sights a_choirs f_reached f_length f_begins f_sort f_value f_word f_wrongAt f_laterFault f_laterPlace a_told a_read f_farHut f_farSinger f_good f_land f_huts f_singers f_evening a_at a_knows a_climbed a_snow a_level f_begun f_minute f_avalanches a_run a_covers a_routes a_longest a_steep a_laid a_far f_sight a_runs f_choir f_voices a_rest a_wins f_seed a_other a_kept U.heap ∧ zK E U)) (zQi (S := (Int32) × (Nat → Int32)) (fun r u => post r u.1 u.2) (fun u H => mW E q u.1 a_tape u.2 a_fault a_faultPlace a_many a_lands a_evenings a_sights a_choirs f_reached f_length f_begins f_sort f_value f_word f_wrongAt f_laterFault f_laterPlace a_told a_read f_farHut f_farSinger f_good f_land f_huts f_singers f_evening a_at a_knows a_climbed a_snow a_level f_begun f_minute f_avalanches a_run a_covers a_routes a_longest a_steep a_laid a_far f_sight a_runs f_choir f_voices a_rest a_wins f_seed a_other a_kept H) (mA q)) 0 0 (mA q) := by
  refine Met.ofW (cc := cX11_end) (maxL := 2) (ret := (some .int)) (by decide) rfl ?_
  intro p e s m args below meth c s₁ B hml hv
  obtain ⟨rfl, hM, hK⟩ := hv
  have zc := zc_of B hml
  have hl := lv_entry ([.ref q, .int x1]) (n := 2) (Nat.le_of_ble_eq_true rfl)
  rw [lg_entry_eq]
  generalize (lg_sl ([.ref q, .int x1]) ++ List.replicate (2 - (lg_sl ([.ref q, .int x1])).length) Slot.unset).toArray = ls at hl ⊢
  have hl : lv_has ls 2 [(0, .ref q), (1, .int x1)] := hl
  exact t_m_end_0 zc hK hM va_S.rf (lv_sub hl [0, 1] rfl) hw
-- m_see
abbrev rm_m_see : Room := { frames := 0, cells := 0, slots := 0, locals := 0 }
def q_m_see_0 (a_tape : Nat → Int32) (f_reached : Int32) (f_length : Int32) (post : Int32 → Prop) : Prop :=
  (f_length ≤ f_reached → (post (-1 : Int32))) ∧ (¬ f_length ≤ f_reached → (vp_in f_reached 2400 ∧ (post ((a_tape (Int32.toNatClampNeg f_reached)) &&& (255 : Int32)))))
set_option maxRecDepth 20000 in
theorem t_m_see_0 {p : Program} {l : Launch} {e : Env} {s : State} {m : MethodId} {args : Array Value} {below : List Frame} {meth : Method} {c : Code} {E : zE} {q : Nat} {f_code : Int32} {a_tape : Nat → Int32} {a_size : Nat → Int32} {a_fault : Nat → Int32} {a_faultPlace : Nat → Int32} {a_many : Nat → Int32} {a_lands : Nat → Int32} {a_evenings : Nat → Int32} {a_sights : Nat → Int32} {a_choirs : Nat → Int32} {f_reached : Int32} {f_length : Int32} {f_begins : Int32} {f_sort : Int32} {f_value : Int32} {f_word : Int64} {f_wrongAt : Int32} {f_laterFault : Int32} {f_laterPlace : Int32} {a_told : Nat → Int32} {a_read : Nat → Int32} {f_farHut : Int32} {f_farSinger : Int32} {f_good : Int32} {f_land : Int32} {f_huts : Int32} {f_singers : Int32} {f_evening : Int32} {a_at : Nat → Int32} {a_knows : Nat → Int32} {a_climbed : Nat → Int32} {a_snow : Nat → Int32} {a_level : Nat → Int32} {f_begun : Int32} {f_minute : Int32} {f_avalanches : Int32} {a_run : Nat → Int32} {a_covers : Nat → Int32} {a_routes : Nat → Int32} {a_longest : Nat → Int32} {a_steep : Nat → Int32} {a_laid : Nat → Int32} {a_far : Nat → Int32} {f_sight : Int32} {a_runs : Nat → Int32} {f_choir : Int32} {f_voices : Int32} {a_rest : Nat → Int64} {a_wins : Nat → Int32} {f_seed : Int32} {a_other : Nat → Int32} {a_kept : Nat → Int32} {post : Int32 → Prop} {ls : Array Slot}
    (zc : zC p s m args meth c cX11_see 1 RX11 (some .int))
    (hK : zK E s)
    (hM : mW E q f_code a_tape a_size a_fault a_faultPlace a_many a_lands a_evenings a_sights a_choirs f_reached f_length f_begins f_sort f_value f_word f_wrongAt f_laterFault f_laterPlace a_told a_read f_farHut f_farSinger f_good f_land f_huts f_singers f_evening a_at a_knows a_climbed a_snow a_level f_begun f_minute f_avalanches a_run a_covers a_routes a_longest a_steep a_laid a_far f_sight a_runs f_choir f_voices a_rest a_wins f_seed a_other a_kept s.heap)
    (hl : lv_has ls 1 [(0, .ref q)])
    (hw : q_m_see_0 a_tape f_reached f_length post) :
    W p l e rm_m_see s m args below meth c s.heap [] 0 0 (MQ below (vp_Si post) args s 0 0 (fun _ => False)) (F0 m 0 ls []) := by
  have hx := zc.1
  have hb := zc.2.1
  refine lv_aload_n hx hb dX11_see_0 rfl (lv_at hl 0 rfl) ?_
  refine mg_11_117_0 zc hK hM dX11_see_1 ?_
  refine lv_aload_n hx hb dX11_see_4 rfl (lv_at hl 0 rfl) ?_
  refine mg_11_120_0 zc hK hM dX11_see_5 ?_
  refine lv_icmp_ge (tgt := 27) hx hb dX11_see_8 (by decide) (fun hc => ?_) (fun hc => ?_)
  · have hw := hw.1 hc
    refine lv_iconst (v := (-1 : Int32)) hx hb dX11_see_27 (by decide) ?_
    exact zret_i zc hw dX11_see_28
  · have hw := hw.2 hc
    refine lv_aload_n hx hb dX11_see_11 rfl (lv_at hl 0 rfl) ?_
    refine mg_11_7_0 zc hK hM dX11_see_12 ?_
    refine lv_aload_n hx hb dX11_see_15 rfl (lv_at hl 0 rfl) ?_
    refine mg_11_117_0 zc hK hM dX11_see_16 ?_
    refine mld_1 zc hK hM hw.1 dX11_see_19 ?_
    have hw := hw.2
    refine lv_sipush (v := (255 : Int32)) hx hb dX11_see_20 (by decide) ?_
    refine lv_iand hx hb dX11_see_23 ?_
    refine lv_goto (tgt := 28) hx hb dX11_see_24 (by decide) ?_
    exact zret_i zc hw dX11_see_28
set_option maxRecDepth 20000 in
theorem c_m_see (l : Launch) {E : zE} {q : Nat} {f_code : Int32} {a_tape : Nat → Int32} {a_size : Nat → Int32} {a_fault : Nat → Int32} {a_faultPlace : Nat → Int32} {a_many : Nat → Int32} {a_lands : Nat → Int32} {a_evenings : Nat → Int32} {a_sights : Nat → Int32} {a_choirs : Nat → Int32} {f_reached : Int32} {f_length : Int32} {f_begins : Int32} {f_sort : Int32} {f_value : Int32} {f_word : Int64} {f_wrongAt : Int32} {f_laterFault : Int32} {f_laterPlace : Int32} {a_told : Nat → Int32} {a_read : Nat → Int32} {f_farHut : Int32} {f_farSinger : Int32} {f_good : Int32} {f_land : Int32} {f_huts : Int32} {f_singers : Int32} {f_evening : Int32} {a_at : Nat → Int32} {a_knows : Nat → Int32} {a_climbed : Nat → Int32} {a_snow : Nat → Int32} {a_level : Nat → Int32} {f_begun : Int32} {f_minute : Int32} {f_avalanches : Int32} {a_run : Nat → Int32} {a_covers : Nat → Int32} {a_routes : Nat → Int32} {a_longest : Nat → Int32} {a_steep : Nat → Int32} {a_laid : Nat → Int32} {a_far : Nat → Int32} {f_sight : Int32} {a_runs : Nat → Int32} {f_choir : Int32} {f_voices : Int32} {a_rest : Nat → Int64} {a_wins : Nat → Int32} {f_seed : Int32} {a_other : Nat → Int32} {a_kept : Nat → Int32} {post : Int32 → Prop} (hw : q_m_see_0 a_tape f_reached f_length post) : Met l yX11_see (Cond.code yX11_see cX11_see 1 (some .int) :: zb) rm_m_see (va_Pc [.ref q] (fun U => mW E q f_code a_tape a_size a_fault a_faultPlace a_many a_lands a_evenings a_sights a_choirs f_reached f_length f_begins f_sort f_value f_word f_wrongAt f_laterFault f_laterPlace a_told a_read f_farHut f_farSinger f_good f_land f_huts f_singers f_evening a_at a_knows a_climbed a_snow a_level f_begun f_minute f_avalanches a_run a_covers a_routes a_longest a_steep a_laid a_far f_sight a_runs f_choir f_voices a_rest a_wins f_seed a_other a_kept U.heap ∧ zK E U)) (vp_Si post) 0 0 (fun _ => False) := by
  refine Met.ofW (cc := cX11_see) (maxL := 1) (ret := (some .int)) (by decide) rfl ?_
  intro p e s m args below meth c s₁ B hml hv
  obtain ⟨rfl, hM, hK⟩ := hv
  have zc := zc_of B hml
  have hl := lv_entry ([.ref q]) (n := 1) (Nat.le_of_ble_eq_true rfl)
  rw [lg_entry_eq]
  generalize (lg_sl ([.ref q]) ++ List.replicate (1 - (lg_sl ([.ref q])).length) Slot.unset).toArray = ls at hl ⊢
  have hl : lv_has ls 1 [(0, .ref q)] := hl
  exact t_m_see_0 zc hK hM (lv_sub hl [0] rfl) hw
-- m_token
abbrev rm_m_token : Room := { frames := 1, cells := 0, slots := 0, locals := 22 }
def q_m_token_205 (P163 : Int32 → (Int32) → (Int32) → Prop) (a_tape : Nat → Int32) (f_reached : Int32) (f_length : Int32) (f_begins : Int32) (f_sort : Int32) (f_value : Int32) (f_word : Int64) (x2 : Int32) (y0 : Int32) (post : (Int32) → (Int32) → (Int32) → (Int32) → (Int64) → Prop) : Prop :=
  ∀ v_1 : Int32, v_1 = (f_reached + (1 : Int32)) → (∀ v_2 : Int32, v_2 = x2 + (1 : Int32) → (P163 v_2 v_1 y0))
def q_m_token_235 (a_tape : Nat → Int32) (f_reached : Int32) (f_length : Int32) (f_begins : Int32) (f_sort : Int32) (f_value : Int32) (f_word : Int64) (y0 : Int32) (post : (Int32) → (Int32) → (Int32) → (Int32) → (Int64) → Prop) : Prop :=
  post f_reached f_begins y0 f_value f_word
def q_m_token_163 (a_tape : Nat → Int32) (f_reached : Int32) (f_length : Int32) (f_begins : Int32) (f_sort : Int32) (f_value : Int32) (f_word : Int64) (x2 : Int32) (post : (Int32) → (Int32) → (Int32) → (Int32) → (Int64) → Prop) : Prop :=
  ∀ P163 : Int32 → (Int32) → (Int32) → Prop, (∀ (x2 : Int32) (f_reached : Int32) (f_value : Int32), (q_m_see_0 a_tape f_reached f_length (fun r_1 => q_m_in_0 r_1 (48 : Int32) (57 : Int32) (fun r_2 => (r_2 = 0 → ((x2 ≤ (2 : Int32) → (q_m_token_235 a_tape f_reached f_length f_begins f_sort f_value f_word (3 : Int32) post)) ∧ (¬ x2 ≤ (2 : Int32) → (q_m_token_235 a_tape f_reached f_length f_begins f_sort f_value f_word (1 : Int32) post)))) ∧ (¬ r_2 = 0 → (((2 : Int32) ≤ x2 → (q_m_token_205 P163 a_tape f_reached f_length f_begins f_sort f_value f_word x2 f_value post)) ∧ (¬ (2 : Int32) ≤ x2 → (q_m_see_0 a_tape f_reached f_length (fun r_3 => q_m_token_205 P163 a_tape f_reached f_length f_begins f_sort f_value f_word x2 ((((10 : Int32) * f_value) + r_3) - (48 : Int32)) post)))))))) → P163 x2 f_reached f_value) → P163 x2 f_reached f_value
def q_m_token_18 (P0 : (Int32) → Prop) (a_tape : Nat → Int32) (f_reached : Int32) (f_length : Int32) (f_begins : Int32) (f_sort : Int32) (f_value : Int32) (f_word : Int64) (post : (Int32) → (Int32) → (Int32) → (Int32) → (Int64) → Prop) : Prop :=
  ∀ v_1 : Int32, v_1 = (f_reached + (1 : Int32)) → (P0 v_1)
def q_m_token_263 (a_tape : Nat → Int32) (f_reached : Int32) (f_length : Int32) (f_begins : Int32) (f_sort : Int32) (f_value : Int32) (f_word : Int64) (y0 : Int32) (post : (Int32) → (Int32) → (Int32) → (Int32) → (Int64) → Prop) : Prop :=
  post f_reached f_begins y0 f_value f_word
def q_m_token_136 (a_tape : Nat → Int32) (f_reached : Int32) (f_length : Int32) (f_begins : Int32) (f_sort : Int32) (f_value : Int32) (f_word : Int64) (y0 : Int64) (post : (Int32) → (Int32) → (Int32) → (Int32) → (Int64) → Prop) : Prop :=
  post f_reached f_begins (2 : Int32) f_value y0
def q_m_token_74 (a_tape : Nat → Int32) (f_reached : Int32) (f_length : Int32) (f_begins : Int32) (f_sort : Int32) (f_value : Int32) (f_word : Int64) (x2 : Int32) (post : (Int32) → (Int32) → (Int32) → (Int32) → (Int64) → Prop) : Prop :=
  ∀ P74 : Int32 → (Int32) → (Int64) → Prop, (∀ (x2 : Int32) (f_reached : Int32) (f_word : Int64), (q_m_see_0 a_tape f_reached f_length (fun r_1 => q_m_in_0 r_1 (97 : Int32) (122 : Int32) (fun r_2 => (r_2 = 0 → ((x2 ≤ (8 : Int32) → (q_m_token_136 a_tape f_reached f_length f_begins f_sort f_value f_word f_word post)) ∧ (¬ x2 ≤ (8 : Int32) → (q_m_token_136 a_tape f_reached f_length f_begins f_sort f_value f_word (0 : Int64) post)))) ∧ (¬ r_2 = 0 → (q_m_see_0 a_tape f_reached f_length (fun r_3 => ∀ v_1 : Int64, v_1 = ((f_word <<< (Int32.toInt64 (8 : Int32) &&& 63)) ||| (Int32.toInt64 r_3)) → (∀ v_2 : Int32, v_2 = (f_reached + (1 : Int32)) → (∀ v_3 : Int32, v_3 = x2 + (1 : Int32) → (P74 v_3 v_2 v_1))))))))) → P74 x2 f_reached f_word) → P74 x2 f_reached f_word
def q_m_token_0 (a_tape : Nat → Int32) (f_reached : Int32) (f_length : Int32) (f_begins : Int32) (f_sort : Int32) (f_value : Int32) (f_word : Int64) (post : (Int32) → (Int32) → (Int32) → (Int32) → (Int64) → Prop) : Prop :=
  ∀ P0 : (Int32) → Prop, (∀ (f_reached : Int32), (q_m_see_0 a_tape f_reached f_length (fun r_1 => (r_1 = (10 : Int32) → (q_m_token_18 P0 a_tape f_reached f_length f_begins f_sort f_value f_word post)) ∧ (¬ r_1 = (10 : Int32) → (q_m_see_0 a_tape f_reached f_length (fun r_2 => (¬ r_2 = (32 : Int32) → (q_m_see_0 a_tape f_reached f_length (fun r_3 => (0 ≤ r_3 → (q_m_in_0 r_3 (97 : Int32) (122 : Int32) (fun r_4 => (r_4 = 0 → (q_m_in_0 r_3 (48 : Int32) (57 : Int32) (fun r_5 => (r_5 = 0 → (∀ v_1 : Int32, v_1 = (f_reached + (1 : Int32)) → ((¬ r_3 = (59 : Int32) → (q_m_token_263 a_tape v_1 f_length f_reached f_sort f_value (0 : Int64) (1 : Int32) post)) ∧ (r_3 = (59 : Int32) → (q_m_token_263 a_tape v_1 f_length f_reached f_sort f_value (0 : Int64) (4 : Int32) post))))) ∧ (¬ r_5 = 0 → (q_m_token_163 a_tape f_reached f_length f_reached f_sort (0 : Int32) (0 : Int64) (0 : Int32) post))))) ∧ (¬ r_4 = 0 → (q_m_token_74 a_tape f_reached f_length f_reached f_sort f_value (0 : Int64) (0 : Int32) post))))) ∧ (¬ 0 ≤ r_3 → (post f_reached f_reached (0 : Int32) f_value (0 : Int64)))))) ∧ (r_2 = (32 : Int32) → (q_m_token_18 P0 a_tape f_reached f_length f_begins f_sort f_value f_word post))))))) → P0 f_reached) → P0 f_reached
set_option maxRecDepth 20000 in
theorem t_m_token_205 {p : Program} {l : Launch} {e : Env} {s : State} {m : MethodId} {args : Array Value} {below : List Frame} {meth : Method} {c : Code} {E : zE} {q : Nat} {f_code : Int32} {a_tape : Nat → Int32} {a_size : Nat → Int32} {a_fault : Nat → Int32} {a_faultPlace : Nat → Int32} {a_many : Nat → Int32} {a_lands : Nat → Int32} {a_evenings : Nat → Int32} {a_sights : Nat → Int32} {a_choirs : Nat → Int32} {f_reached : Int32} {f_length : Int32} {f_begins : Int32} {f_sort : Int32} {f_value : Int32} {f_word : Int64} {f_wrongAt : Int32} {f_laterFault : Int32} {f_laterPlace : Int32} {a_told : Nat → Int32} {a_read : Nat → Int32} {f_farHut : Int32} {f_farSinger : Int32} {f_good : Int32} {f_land : Int32} {f_huts : Int32} {f_singers : Int32} {f_evening : Int32} {a_at : Nat → Int32} {a_knows : Nat → Int32} {a_climbed : Nat → Int32} {a_snow : Nat → Int32} {a_level : Nat → Int32} {f_begun : Int32} {f_minute : Int32} {f_avalanches : Int32} {a_run : Nat → Int32} {a_covers : Nat → Int32} {a_routes : Nat → Int32} {a_longest : Nat → Int32} {a_steep : Nat → Int32} {a_laid : Nat → Int32} {a_far : Nat → Int32} {f_sight : Int32} {a_runs : Nat → Int32} {f_choir : Int32} {f_voices : Int32} {a_rest : Nat → Int64} {a_wins : Nat → Int32} {f_seed : Int32} {a_other : Nat → Int32} {a_kept : Nat → Int32} {P163 : Int32 → (Int32) → (Int32) → Prop} {post : (Int32) → (Int32) → (Int32) → (Int32) → (Int64) → Prop} {x2 : Int32} {y0 : Int32} {ls : Array Slot} {H : Heap} {locs : List Loc}
    (zc : zC p s m args meth c cX11_token 3 RX11 none)
    (hK : zK E s)
    (hM : mW E q f_code a_tape a_size a_fault a_faultPlace a_many a_lands a_evenings a_sights a_choirs f_reached f_length f_begins f_sort f_value f_word f_wrongAt f_laterFault f_laterPlace a_told a_read f_farHut f_farSinger f_good f_land f_huts f_singers f_evening a_at a_knows a_climbed a_snow a_level f_begun f_minute f_avalanches a_run a_covers a_routes a_longest a_steep a_laid a_far f_sight a_runs f_choir f_voices a_rest a_wins f_seed a_other a_kept H)
    (hS : va_S (mA q) s.heap H locs)
    (hP163 : ∀ (x2 : Int32) (f_reached : Int32) (f_value : Int32) (H : Heap) (locs : List Loc) (ls : Array Slot), P163 x2 f_reached f_value → lv_has ls 3 [(0, .ref q), (2, .int x2)] → mW E q f_code a_tape a_size a_fault a_faultPlace a_many a_lands a_evenings a_sights a_choirs f_reached f_length f_begins f_sort f_value f_word f_wrongAt f_laterFault f_laterPlace a_told a_read f_farHut f_farSinger f_good f_land f_huts f_singers f_evening a_at a_knows a_climbed a_snow a_level f_begun f_minute f_avalanches a_run a_covers a_routes a_longest a_steep a_laid a_far f_sight a_runs f_choir f_voices a_rest a_wins f_seed a_other a_kept H → va_S (mA q) s.heap H locs → W p l e rm_m_token s m args below meth c H locs 0 0 (MQ below (zQv (S := (Int32) × (Int32) × (Int32) × (Int32) × (Int64)) (fun u => post u.1 u.2.1 u.2.2.1 u.2.2.2.1 u.2.2.2.2) (fun u H => mW E q f_code a_tape a_size a_fault a_faultPlace a_many a_lands a_evenings a_sights a_choirs u.1 f_length u.2.1 u.2.2.1 u.2.2.2.1 u.2.2.2.2 f_wrongAt f_laterFault f_laterPlace a_told a_read f_farHut f_farSinger f_good f_land f_huts f_singers f_evening a_at a_knows a_climbed a_snow a_level f_begun f_minute f_avalanches a_run a_covers a_routes a_longest a_steep a_laid a_far f_sight a_runs f_choir f_voices a_rest a_wins f_seed a_other a_kept H) (mA q)) args s 0 0 (mA q)) (F0 m 163 ls []))
    (hl : lv_has ls 3 [(0, .ref q), (2, .int x2)])
    (hw : q_m_token_205 P163 a_tape f_reached f_length f_begins f_sort f_value f_word x2 y0 post) :
    W p l e rm_m_token s m args below meth c H locs 0 0 (MQ below (zQv (S := (Int32) × (Int32) × (Int32) × (Int32) × (Int64)) (fun u => post u.1 u.2.1 u.2.2.1 u.2.2.2.1 u.2.2.2.2) (fun u H => mW E q f_code a_tape a_size a_fault a_faultPlace a_many a_lands a_evenings a_sights a_choirs u.1 f_length u.2.1 u.2.2.1 u.2.2.2.1 u.2.2.2.2 f_wrongAt f_laterFault f_laterPlace a_told a_read f_farHut f_farSinger f_good f_land f_huts f_singers f_evening a_at a_knows a_climbed a_snow a_level f_begun f_minute f_avalanches a_run a_covers a_routes a_longest a_steep a_laid a_far f_sight a_runs f_choir f_voices a_rest a_wins f_seed a_other a_kept H) (mA q)) args s 0 0 (mA q)) (F0 m 205 ls [.int y0, .ref q]) := by
  have hx := zc.1
  have hb := zc.2.1
  refine mp_11_137_0 zc hK hM hS dX11_token_205 (fun H locs hM hS => ?_)
  refine lv_aload_n hx hb dX11_token_208 rfl (lv_at hl 0 rfl) ?_
  refine lv_dup hx hb dX11_token_209 rfl ?_
  refine mg_11_117_0 zc hK hM dX11_token_210 ?_
  refine lv_iconst (v := (1 : Int32)) hx hb dX11_token_213 (by decide) ?_
  refine lv_iadd hx hb dX11_token_214 ?_
  refine lv_topi (fun v_1 ev_1 => ?_)
  have hw := hw v_1 ev_1
  refine mp_11_117_0 zc hK hM hS dX11_token_215 (fun H locs hM hS => ?_)
  obtain ⟨v_2, ev_2⟩ : ∃ y : Int32, y = x2 + (1 : Int32) := ⟨_, rfl⟩
  have hw := hw v_2 ev_2
  refine lv_iinc (v := v_2) (k := 1) (lv' := [(2, .int v_2), (0, .ref q)]) hx hb dX11_token_218 hl rfl (by rw [ev_2]; rfl) (by decide) rfl (fun ls hl => ?_)
  refine lv_goto (tgt := 163) hx hb dX11_token_221 (by decide) ?_
  exact hP163 _ _ _ _ _ _ hw (lv_sub hl [1, 0] rfl) hM hS
set_option maxRecDepth 20000 in
theorem t_m_token_235 {p : Program} {l : Launch} {e : Env} {s : State} {m : MethodId} {args : Array Value} {below : List Frame} {meth : Method} {c : Code} {E : zE} {q : Nat} {f_code : Int32} {a_tape : Nat → Int32} {a_size : Nat → Int32} {a_fault : Nat → Int32} {a_faultPlace : Nat → Int32} {a_many : Nat → Int32} {a_lands : Nat → Int32} {a_evenings : Nat → Int32} {a_sights : Nat → Int32} {a_choirs : Nat → Int32} {f_reached : Int32} {f_length : Int32} {f_begins : Int32} {f_sort : Int32} {f_value : Int32} {f_word : Int64} {f_wrongAt : Int32} {f_laterFault : Int32} {f_laterPlace : Int32} {a_told : Nat → Int32} {a_read : Nat → Int32} {f_farHut : Int32} {f_farSinger : Int32} {f_good : Int32} {f_land : Int32} {f_huts : Int32} {f_singers : Int32} {f_evening : Int32} {a_at : Nat → Int32} {a_knows : Nat → Int32} {a_climbed : Nat → Int32} {a_snow : Nat → Int32} {a_level : Nat → Int32} {f_begun : Int32} {f_minute : Int32} {f_avalanches : Int32} {a_run : Nat → Int32} {a_covers : Nat → Int32} {a_routes : Nat → Int32} {a_longest : Nat → Int32} {a_steep : Nat → Int32} {a_laid : Nat → Int32} {a_far : Nat → Int32} {f_sight : Int32} {a_runs : Nat → Int32} {f_choir : Int32} {f_voices : Int32} {a_rest : Nat → Int64} {a_wins : Nat → Int32} {f_seed : Int32} {a_other : Nat → Int32} {a_kept : Nat → Int32} {post : (Int32) → (Int32) → (Int32) → (Int32) → (Int64) → Prop} {y0 : Int32} {ls : Array Slot} {H : Heap} {locs : List Loc}
    (zc : zC p s m args meth c cX11_token 3 RX11 none)
    (hK : zK E s)
    (hM : mW E q f_code a_tape a_size a_fault a_faultPlace a_many a_lands a_evenings a_sights a_choirs f_reached f_length f_begins f_sort f_value f_word f_wrongAt f_laterFault f_laterPlace a_told a_read f_farHut f_farSinger f_good f_land f_huts f_singers f_evening a_at a_knows a_climbed a_snow a_level f_begun f_minute f_avalanches a_run a_covers a_routes a_longest a_steep a_laid a_far f_sight a_runs f_choir f_voices a_rest a_wins f_seed a_other a_kept H)
    (hS : va_S (mA q) s.heap H locs)
    (hl : lv_has ls 3 [])
    (hw : q_m_token_235 a_tape f_reached f_length f_begins f_sort f_value f_word y0 post) :
    W p l e rm_m_token s m args below meth c H locs 0 0 (MQ below (zQv (S := (Int32) × (Int32) × (Int32) × (Int32) × (Int64)) (fun u => post u.1 u.2.1 u.2.2.1 u.2.2.2.1 u.2.2.2.2) (fun u H => mW E q f_code a_tape a_size a_fault a_faultPlace a_many a_lands a_evenings a_sights a_choirs u.1 f_length u.2.1 u.2.2.1 u.2.2.2.1 u.2.2.2.2 f_wrongAt f_laterFault f_laterPlace a_told a_read f_farHut f_farSinger f_good f_land f_huts f_singers f_evening a_at a_knows a_climbed a_snow a_level f_begun f_minute f_avalanches a_run a_covers a_routes a_longest a_steep a_laid a_far f_sight a_runs f_choir f_voices a_rest a_wins f_seed a_other a_kept H) (mA q)) args s 0 0 (mA q)) (F0 m 235 ls [.int y0, .ref q]) := by
  have hx := zc.1
  have hb := zc.2.1
  refine mp_11_134_0 zc hK hM hS dX11_token_235 (fun H locs hM hS => ?_)
  refine lv_goto (tgt := 266) hx hb dX11_token_238 (by decide) ?_
  exact zret_vw ⟨f_reached, f_begins, y0, f_value, f_word⟩ zc hS hw hM dX11_token_266
set_option maxRecDepth 20000 in
theorem t_m_token_163 {p : Program} {l : Launch} {e : Env} {s : State} {m : MethodId} {args : Array Value} {below : List Frame} {meth : Method} {c : Code} {E : zE} {q : Nat} {f_code : Int32} {a_tape : Nat → Int32} {a_size : Nat → Int32} {a_fault : Nat → Int32} {a_faultPlace : Nat → Int32} {a_many : Nat → Int32} {a_lands : Nat → Int32} {a_evenings : Nat → Int32} {a_sights : Nat → Int32} {a_choirs : Nat → Int32} {f_reached : Int32} {f_length : Int32} {f_begins : Int32} {f_sort : Int32} {f_value : Int32} {f_word : Int64} {f_wrongAt : Int32} {f_laterFault : Int32} {f_laterPlace : Int32} {a_told : Nat → Int32} {a_read : Nat → Int32} {f_farHut : Int32} {f_farSinger : Int32} {f_good : Int32} {f_land : Int32} {f_huts : Int32} {f_singers : Int32} {f_evening : Int32} {a_at : Nat → Int32} {a_knows : Nat → Int32} {a_climbed : Nat → Int32} {a_snow : Nat → Int32} {a_level : Nat → Int32} {f_begun : Int32} {f_minute : Int32} {f_avalanches : Int32} {a_run : Nat → Int32} {a_covers : Nat → Int32} {a_routes : Nat → Int32} {a_longest : Nat → Int32} {a_steep : Nat → Int32} {a_laid : Nat → Int32} {a_far : Nat → Int32} {f_sight : Int32} {a_runs : Nat → Int32} {f_choir : Int32} {f_voices : Int32} {a_rest : Nat → Int64} {a_wins : Nat → Int32} {f_seed : Int32} {a_other : Nat → Int32} {a_kept : Nat → Int32} {post : (Int32) → (Int32) → (Int32) → (Int32) → (Int64) → Prop} {x2 : Int32} {ls : Array Slot} {H : Heap} {locs : List Loc}
    (zc : zC p s m args meth c cX11_token 3 RX11 none)
    (hK : zK E s)
    (hM : mW E q f_code a_tape a_size a_fault a_faultPlace a_many a_lands a_evenings a_sights a_choirs f_reached f_length f_begins f_sort f_value f_word f_wrongAt f_laterFault f_laterPlace a_told a_read f_farHut f_farSinger f_good f_land f_huts f_singers f_evening a_at a_knows a_climbed a_snow a_level f_begun f_minute f_avalanches a_run a_covers a_routes a_longest a_steep a_laid a_far f_sight a_runs f_choir f_voices a_rest a_wins f_seed a_other a_kept H)
    (hS : va_S (mA q) s.heap H locs)
    (hl : lv_has ls 3 [(0, .ref q), (2, .int x2)])
    (hw : q_m_token_163 a_tape f_reached f_length f_begins f_sort f_value f_word x2 post) :
    W p l e rm_m_token s m args below meth c H locs 0 0 (MQ below (zQv (S := (Int32) × (Int32) × (Int32) × (Int32) × (Int64)) (fun u => post u.1 u.2.1 u.2.2.1 u.2.2.2.1 u.2.2.2.2) (fun u H => mW E q f_code a_tape a_size a_fault a_faultPlace a_many a_lands a_evenings a_sights a_choirs u.1 f_length u.2.1 u.2.2.1 u.2.2.2.1 u.2.2.2.2 f_wrongAt f_laterFault f_laterPlace a_told a_read f_farHut f_farSinger f_good f_land f_huts f_singers f_evening a_at a_knows a_climbed a_snow a_level f_begun f_minute f_avalanches a_run a_covers a_routes a_longest a_steep a_laid a_far f_sight a_runs f_choir f_voices a_rest a_wins f_seed a_other a_kept H) (mA q)) args s 0 0 (mA q)) (F0 m 163 ls []) := by
  have hx := zc.1
  have hb := zc.2.1
  refine hw (fun x2 f_reached f_value => ∀ (H : Heap) (locs : List Loc) (ls : Array Slot), lv_has ls 3 [(0, .ref q), (2, .int x2)] → mW E q f_code a_tape a_size a_fault a_faultPlace a_many a_lands a_evenings a_sights a_choirs f_reached f_length f_begins f_sort f_value f_word f_wrongAt f_laterFault f_laterPlace a_told a_read f_farHut f_farSinger f_good f_land f_huts f_singers f_evening a_at a_knows a_climbed a_snow a_level f_begun f_minute f_avalanches a_run a_covers a_routes a_longest a_steep a_laid a_far f_sight a_runs f_choir f_voices a_rest a_wins f_seed a_other a_kept H → va_S (mA q) s.heap H locs → W p l e rm_m_token s m args below meth c H locs 0 0 (MQ below (zQv (S := (Int32) × (Int32) × (Int32) × (Int32) × (Int64)) (fun u => post u.1 u.2.1 u.2.2.1 u.2.2.2.1 u.2.2.2.2) (fun u H => mW E q f_code a_tape a_size a_fault a_faultPlace a_many a_lands a_evenings a_sights a_choirs u.1 f_length u.2.1 u.2.2.1 u.2.2.2.1 u.2.2.2.2 f_wrongAt f_laterFault f_laterPlace a_told a_read f_farHut f_farSinger f_good f_land f_huts f_singers f_evening a_at a_knows a_climbed a_snow a_level f_begun f_minute f_avalanches a_run a_covers a_routes a_longest a_steep a_laid a_far f_sight a_runs f_choir f_voices a_rest a_wins f_seed a_other a_kept H) (mA q)) args s 0 0 (mA q)) (F0 m 163 ls [])) ?_ _ _ _ hl hM hS
  intro x2 f_reached f_value hw H locs ls hl hM hS
  refine lv_aload_n hx hb dX11_token_163 rfl (lv_at hl 0 rfl) ?_
  refine zV_i [] [] zc ky_X11_see kz_X11_see km_11_123 (c_m_see l hw) (mPreV0 hK hM) rfl rfl hl.1 (Nat.le_of_ble_eq_true rfl) ⟨rfl, rfl⟩ ⟨Nat.le_of_ble_eq_true rfl, Nat.le_of_ble_eq_true rfl⟩ ⟨(Nat.zero_le _), (Nat.zero_le _)⟩ dX11_token_164 (fun r_1 hw => ?_)
  refine lv_bipush (v := (48 : Int32)) hx hb dX11_token_167 (by decide) ?_
  refine lv_bipush (v := (57 : Int32)) hx hb dX11_token_169 (by decide) ?_
  refine zS_i [.int r_1, .int (48 : Int32), .int (57 : Int32)] [] zc ky_X11_in kz_X11_in km_11_109 (c_m_in l hw) (zPre0 _) rfl rfl hl.1 (Nat.le_of_ble_eq_true rfl) ⟨rfl, rfl⟩ ⟨Nat.le_of_ble_eq_true rfl, Nat.le_of_ble_eq_true rfl⟩ ⟨(Nat.zero_le _), (Nat.zero_le _)⟩ dX11_token_171 (fun r_2 hw => ?_)
  refine lv_if_eq (tgt := 224) hx hb dX11_token_174 (by decide) (fun hc => ?_) (fun hc => ?_)
  · have hw := hw.1 hc
    refine lv_aload_n hx hb dX11_token_224 rfl (lv_at hl 0 rfl) ?_
    refine lv_iload_n hx hb dX11_token_225 rfl (lv_at hl 1 rfl) ?_
    refine lv_iconst (v := (2 : Int32)) hx hb dX11_token_226 (by decide) ?_
    refine lv_icmp_le (tgt := 234) hx hb dX11_token_227 (by decide) (fun hc => ?_) (fun hc => ?_)
    · have hw := hw.1 hc
      refine lv_iconst (v := (3 : Int32)) hx hb dX11_token_234 (by decide) ?_
      exact t_m_token_235 zc hK hM hS  (lv_sub hl [] rfl) hw
    · have hw := hw.2 hc
      refine lv_iconst (v := (1 : Int32)) hx hb dX11_token_230 (by decide) ?_
      refine lv_goto (tgt := 235) hx hb dX11_token_231 (by decide) ?_
      exact t_m_token_235 zc hK hM hS  (lv_sub hl [] rfl) hw
  · have hw := hw.2 hc
    refine lv_aload_n hx hb dX11_token_177 rfl (lv_at hl 0 rfl) ?_
    refine lv_iload_n hx hb dX11_token_178 rfl (lv_at hl 1 rfl) ?_
    refine lv_iconst (v := (2 : Int32)) hx hb dX11_token_179 (by decide) ?_
    refine lv_icmp_ge (tgt := 201) hx hb dX11_token_180 (by decide) (fun hc => ?_) (fun hc => ?_)
    · have hw := hw.1 hc
      refine lv_aload_n hx hb dX11_token_201 rfl (lv_at hl 0 rfl) ?_
      refine mg_11_137_0 zc hK hM dX11_token_202 ?_
      exact t_m_token_205 zc hK hM hS (fun _ _ _ H locs ls h hl hM hS => h H locs ls hl hM hS) (lv_sub hl [0, 1] rfl) hw
    · have hw := hw.2 hc
      refine lv_bipush (v := (10 : Int32)) hx hb dX11_token_183 (by decide) ?_
      refine lv_aload_n hx hb dX11_token_185 rfl (lv_at hl 0 rfl) ?_
      refine mg_11_137_0 zc hK hM dX11_token_186 ?_
      refine lv_imul hx hb dX11_token_189 ?_
      refine lv_aload_n hx hb dX11_token_190 rfl (lv_at hl 0 rfl) ?_
      refine zV_i [] [.int ((10 : Int32) * f_value), .ref q] zc ky_X11_see kz_X11_see km_11_123 (c_m_see l hw) (mPreV0 hK hM) rfl rfl hl.1 (Nat.le_of_ble_eq_true rfl) ⟨rfl, rfl⟩ ⟨Nat.le_of_ble_eq_true rfl, Nat.le_of_ble_eq_true rfl⟩ ⟨(Nat.zero_le _), (Nat.zero_le _)⟩ dX11_token_191 (fun r_3 hw => ?_)
      refine lv_iadd hx hb dX11_token_194 ?_
      refine lv_bipush (v := (48 : Int32)) hx hb dX11_token_195 (by decide) ?_
      refine lv_isub hx hb dX11_token_197 ?_
      refine lv_goto (tgt := 205) hx hb dX11_token_198 (by decide) ?_
      exact t_m_token_205 zc hK hM hS (fun _ _ _ H locs ls h hl hM hS => h H locs ls hl hM hS) (lv_sub hl [0, 1] rfl) hw
set_option maxRecDepth 20000 in
theorem t_m_token_18 {p : Program} {l : Launch} {e : Env} {s : State} {m : MethodId} {args : Array Value} {below : List Frame} {meth : Method} {c : Code} {E : zE} {q : Nat} {f_code : Int32} {a_tape : Nat → Int32} {a_size : Nat → Int32} {a_fault : Nat → Int32} {a_faultPlace : Nat → Int32} {a_many : Nat → Int32} {a_lands : Nat → Int32} {a_evenings : Nat → Int32} {a_sights : Nat → Int32} {a_choirs : Nat → Int32} {f_reached : Int32} {f_length : Int32} {f_begins : Int32} {f_sort : Int32} {f_value : Int32} {f_word : Int64} {f_wrongAt : Int32} {f_laterFault : Int32} {f_laterPlace : Int32} {a_told : Nat → Int32} {a_read : Nat → Int32} {f_farHut : Int32} {f_farSinger : Int32} {f_good : Int32} {f_land : Int32} {f_huts : Int32} {f_singers : Int32} {f_evening : Int32} {a_at : Nat → Int32} {a_knows : Nat → Int32} {a_climbed : Nat → Int32} {a_snow : Nat → Int32} {a_level : Nat → Int32} {f_begun : Int32} {f_minute : Int32} {f_avalanches : Int32} {a_run : Nat → Int32} {a_covers : Nat → Int32} {a_routes : Nat → Int32} {a_longest : Nat → Int32} {a_steep : Nat → Int32} {a_laid : Nat → Int32} {a_far : Nat → Int32} {f_sight : Int32} {a_runs : Nat → Int32} {f_choir : Int32} {f_voices : Int32} {a_rest : Nat → Int64} {a_wins : Nat → Int32} {f_seed : Int32} {a_other : Nat → Int32} {a_kept : Nat → Int32} {P0 : (Int32) → Prop} {post : (Int32) → (Int32) → (Int32) → (Int32) → (Int64) → Prop} {ls : Array Slot} {H : Heap} {locs : List Loc}
    (zc : zC p s m args meth c cX11_token 3 RX11 none)
    (hK : zK E s)
    (hM : mW E q f_code a_tape a_size a_fault a_faultPlace a_many a_lands a_evenings a_sights a_choirs f_reached f_length f_begins f_sort f_value f_word f_wrongAt f_laterFault f_laterPlace a_told a_read f_farHut f_farSinger f_good f_land f_huts f_singers f_evening a_at a_knows a_climbed a_snow a_level f_begun f_minute f_avalanches a_run a_covers a_routes a_longest a_steep a_laid a_far f_sight a_runs f_choir f_voices a_rest a_wins f_seed a_other a_kept H)
    (hS : va_S (mA q) s.heap H locs)
    (hP0 : ∀ (f_reached : Int32) (H : Heap) (locs : List Loc) (ls : Array Slot), P0 f_reached → lv_has ls 3 [(0, .ref q)] → mW E q f_code a_tape a_size a_fault a_faultPlace a_many a_lands a_evenings a_sights a_choirs f_reached f_length f_begins f_sort f_value f_word f_wrongAt f_laterFault f_laterPlace a_told a_read f_farHut f_farSinger f_good f_land f_huts f_singers f_evening a_at a_knows a_climbed a_snow a_level f_begun f_minute f_avalanches a_run a_covers a_routes a_longest a_steep a_laid a_far f_sight a_runs f_choir f_voices a_rest a_wins f_seed a_other a_kept H → va_S (mA q) s.heap H locs → W p l e rm_m_token s m args below meth c H locs 0 0 (MQ below (zQv (S := (Int32) × (Int32) × (Int32) × (Int32) × (Int64)) (fun u => post u.1 u.2.1 u.2.2.1 u.2.2.2.1 u.2.2.2.2) (fun u H => mW E q f_code a_tape a_size a_fault a_faultPlace a_many a_lands a_evenings a_sights a_choirs u.1 f_length u.2.1 u.2.2.1 u.2.2.2.1 u.2.2.2.2 f_wrongAt f_laterFault f_laterPlace a_told a_read f_farHut f_farSinger f_good f_land f_huts f_singers f_evening a_at a_knows a_climbed a_snow a_level f_begun f_minute f_avalanches a_run a_covers a_routes a_longest a_steep a_laid a_far f_sight a_runs f_choir f_voices a_rest a_wins f_seed a_other a_kept H) (mA q)) args s 0 0 (mA q)) (F0 m 0 ls []))
    (hl : lv_has ls 3 [(0, .ref q)])
    (hw : q_m_token_18 P0 a_tape f_reached f_length f_begins f_sort f_value f_word post) :
    W p l e rm_m_token s m args below meth c H locs 0 0 (MQ below (zQv (S := (Int32) × (Int32) × (Int32) × (Int32) × (Int64)) (fun u => post u.1 u.2.1 u.2.2.1 u.2.2.2.1 u.2.2.2.2) (fun u H => mW E q f_code a_tape a_size a_fault a_faultPlace a_many a_lands a_evenings a_sights a_choirs u.1 f_length u.2.1 u.2.2.1 u.2.2.2.1 u.2.2.2.2 f_wrongAt f_laterFault f_laterPlace a_told a_read f_farHut f_farSinger f_good f_land f_huts f_singers f_evening a_at a_knows a_climbed a_snow a_level f_begun f_minute f_avalanches a_run a_covers a_routes a_longest a_steep a_laid a_far f_sight a_runs f_choir f_voices a_rest a_wins f_seed a_other a_kept H) (mA q)) args s 0 0 (mA q)) (F0 m 18 ls []) := by
  have hx := zc.1
  have hb := zc.2.1
  refine lv_aload_n hx hb dX11_token_18 rfl (lv_at hl 0 rfl) ?_
  refine lv_dup hx hb dX11_token_19 rfl ?_
  refine mg_11_117_0 zc hK hM dX11_token_20 ?_
  refine lv_iconst (v := (1 : Int32)) hx hb dX11_token_23 (by decide) ?_
  refine lv_iadd hx hb dX11_token_24 ?_
  refine lv_topi (fun v_1 ev_1 => ?_)
  have hw := hw v_1 ev_1
  refine mp_11_117_0 zc hK hM hS dX11_token_25 (fun H locs hM hS => ?_)
  refine lv_goto (tgt := 0) hx hb dX11_token_28 (by decide) ?_
  exact hP0 _ _ _ _ hw (lv_sub hl [0] rfl) hM hS
set_option maxRecDepth 20000 in
theorem t_m_token_263 {p : Program} {l : Launch} {e : Env} {s : State} {m : MethodId} {args : Array Value} {below : List Frame} {meth : Method} {c : Code} {E : zE} {q : Nat} {f_code : Int32} {a_tape : Nat → Int32} {a_size : Nat → Int32} {a_fault : Nat → Int32} {a_faultPlace : Nat → Int32} {a_many : Nat → Int32} {a_lands : Nat → Int32} {a_evenings : Nat → Int32} {a_sights : Nat → Int32} {a_choirs : Nat → Int32} {f_reached : Int32} {f_length : Int32} {f_begins : Int32} {f_sort : Int32} {f_value : Int32} {f_word : Int64} {f_wrongAt : Int32} {f_laterFault : Int32} {f_laterPlace : Int32} {a_told : Nat → Int32} {a_read : Nat → Int32} {f_farHut : Int32} {f_farSinger : Int32} {f_good : Int32} {f_land : Int32} {f_huts : Int32} {f_singers : Int32} {f_evening : Int32} {a_at : Nat → Int32} {a_knows : Nat → Int32} {a_climbed : Nat → Int32} {a_snow : Nat → Int32} {a_level : Nat → Int32} {f_begun : Int32} {f_minute : Int32} {f_avalanches : Int32} {a_run : Nat → Int32} {a_covers : Nat → Int32} {a_routes : Nat → Int32} {a_longest : Nat → Int32} {a_steep : Nat → Int32} {a_laid : Nat → Int32} {a_far : Nat → Int32} {f_sight : Int32} {a_runs : Nat → Int32} {f_choir : Int32} {f_voices : Int32} {a_rest : Nat → Int64} {a_wins : Nat → Int32} {f_seed : Int32} {a_other : Nat → Int32} {a_kept : Nat → Int32} {post : (Int32) → (Int32) → (Int32) → (Int32) → (Int64) → Prop} {y0 : Int32} {ls : Array Slot} {H : Heap} {locs : List Loc}
    (zc : zC p s m args meth c cX11_token 3 RX11 none)
    (hK : zK E s)
    (hM : mW E q f_code a_tape a_size a_fault a_faultPlace a_many a_lands a_evenings a_sights a_choirs f_reached f_length f_begins f_sort f_value f_word f_wrongAt f_laterFault f_laterPlace a_told a_read f_farHut f_farSinger f_good f_land f_huts f_singers f_evening a_at a_knows a_climbed a_snow a_level f_begun f_minute f_avalanches a_run a_covers a_routes a_longest a_steep a_laid a_far f_sight a_runs f_choir f_voices a_rest a_wins f_seed a_other a_kept H)
    (hS : va_S (mA q) s.heap H locs)
    (hl : lv_has ls 3 [])
    (hw : q_m_token_263 a_tape f_reached f_length f_begins f_sort f_value f_word y0 post) :
    W p l e rm_m_token s m args below meth c H locs 0 0 (MQ below (zQv (S := (Int32) × (Int32) × (Int32) × (Int32) × (Int64)) (fun u => post u.1 u.2.1 u.2.2.1 u.2.2.2.1 u.2.2.2.2) (fun u H => mW E q f_code a_tape a_size a_fault a_faultPlace a_many a_lands a_evenings a_sights a_choirs u.1 f_length u.2.1 u.2.2.1 u.2.2.2.1 u.2.2.2.2 f_wrongAt f_laterFault f_laterPlace a_told a_read f_farHut f_farSinger f_good f_land f_huts f_singers f_evening a_at a_knows a_climbed a_snow a_level f_begun f_minute f_avalanches a_run a_covers a_routes a_longest a_steep a_laid a_far f_sight a_runs f_choir f_voices a_rest a_wins f_seed a_other a_kept H) (mA q)) args s 0 0 (mA q)) (F0 m 263 ls [.int y0, .ref q]) := by
  have hx := zc.1
  have hb := zc.2.1
  refine mp_11_134_0 zc hK hM hS dX11_token_263 (fun H locs hM hS => ?_)
  exact zret_vw ⟨f_reached, f_begins, y0, f_value, f_word⟩ zc hS hw hM dX11_token_266
set_option maxRecDepth 20000 in
theorem t_m_token_136 {p : Program} {l : Launch} {e : Env} {s : State} {m : MethodId} {args : Array Value} {below : List Frame} {meth : Method} {c : Code} {E : zE} {q : Nat} {f_code : Int32} {a_tape : Nat → Int32} {a_size : Nat → Int32} {a_fault : Nat → Int32} {a_faultPlace : Nat → Int32} {a_many : Nat → Int32} {a_lands : Nat → Int32} {a_evenings : Nat → Int32} {a_sights : Nat → Int32} {a_choirs : Nat → Int32} {f_reached : Int32} {f_length : Int32} {f_begins : Int32} {f_sort : Int32} {f_value : Int32} {f_word : Int64} {f_wrongAt : Int32} {f_laterFault : Int32} {f_laterPlace : Int32} {a_told : Nat → Int32} {a_read : Nat → Int32} {f_farHut : Int32} {f_farSinger : Int32} {f_good : Int32} {f_land : Int32} {f_huts : Int32} {f_singers : Int32} {f_evening : Int32} {a_at : Nat → Int32} {a_knows : Nat → Int32} {a_climbed : Nat → Int32} {a_snow : Nat → Int32} {a_level : Nat → Int32} {f_begun : Int32} {f_minute : Int32} {f_avalanches : Int32} {a_run : Nat → Int32} {a_covers : Nat → Int32} {a_routes : Nat → Int32} {a_longest : Nat → Int32} {a_steep : Nat → Int32} {a_laid : Nat → Int32} {a_far : Nat → Int32} {f_sight : Int32} {a_runs : Nat → Int32} {f_choir : Int32} {f_voices : Int32} {a_rest : Nat → Int64} {a_wins : Nat → Int32} {f_seed : Int32} {a_other : Nat → Int32} {a_kept : Nat → Int32} {post : (Int32) → (Int32) → (Int32) → (Int32) → (Int64) → Prop} {y0 : Int64} {ls : Array Slot} {H : Heap} {locs : List Loc}
    (zc : zC p s m args meth c cX11_token 3 RX11 none)
    (hK : zK E s)
    (hM : mW E q f_code a_tape a_size a_fault a_faultPlace a_many a_lands a_evenings a_sights a_choirs f_reached f_length f_begins f_sort f_value f_word f_wrongAt f_laterFault f_laterPlace a_told a_read f_farHut f_farSinger f_good f_land f_huts f_singers f_evening a_at a_knows a_climbed a_snow a_level f_begun f_minute f_avalanches a_run a_covers a_routes a_longest a_steep a_laid a_far f_sight a_runs f_choir f_voices a_rest a_wins f_seed a_other a_kept H)
    (hS : va_S (mA q) s.heap H locs)
    (hl : lv_has ls 3 [(0, .ref q)])
    (hw : q_m_token_136 a_tape f_reached f_length f_begins f_sort f_value f_word y0 post) :
    W p l e rm_m_token s m args below meth c H locs 0 0 (MQ below (zQv (S := (Int32) × (Int32) × (Int32) × (Int32) × (Int64)) (fun u => post u.1 u.2.1 u.2.2.1 u.2.2.2.1 u.2.2.2.2) (fun u H => mW E q f_code a_tape a_size a_fault a_faultPlace a_many a_lands a_evenings a_sights a_choirs u.1 f_length u.2.1 u.2.2.1 u.2.2.2.1 u.2.2.2.2 f_wrongAt f_laterFault f_laterPlace a_told a_read f_farHut f_farSinger f_good f_land f_huts f_singers f_evening a_at a_knows a_climbed a_snow a_level f_begun f_minute f_avalanches a_run a_covers a_routes a_longest a_steep a_laid a_far f_sight a_runs f_choir f_voices a_rest a_wins f_seed a_other a_kept H) (mA q)) args s 0 0 (mA q)) (F0 m 136 ls [.long y0, .ref q]) := by
  have hx := zc.1
  have hb := zc.2.1
  refine mp_11_130_0 zc hK hM hS dX11_token_136 (fun H locs hM hS => ?_)
  refine lv_aload_n hx hb dX11_token_139 rfl (lv_at hl 0 rfl) ?_
  refine lv_iconst (v := (2 : Int32)) hx hb dX11_token_140 (by decide) ?_
  refine mp_11_134_0 zc hK hM hS dX11_token_141 (fun H locs hM hS => ?_)
  refine lv_goto (tgt := 266) hx hb dX11_token_144 (by decide) ?_
  exact zret_vw ⟨f_reached, f_begins, (2 : Int32), f_value, y0⟩ zc hS hw hM dX11_token_266
set_option maxRecDepth 20000 in
theorem t_m_token_74 {p : Program} {l : Launch} {e : Env} {s : State} {m : MethodId} {args : Array Value} {below : List Frame} {meth : Method} {c : Code} {E : zE} {q : Nat} {f_code : Int32} {a_tape : Nat → Int32} {a_size : Nat → Int32} {a_fault : Nat → Int32} {a_faultPlace : Nat → Int32} {a_many : Nat → Int32} {a_lands : Nat → Int32} {a_evenings : Nat → Int32} {a_sights : Nat → Int32} {a_choirs : Nat → Int32} {f_reached : Int32} {f_length : Int32} {f_begins : Int32} {f_sort : Int32} {f_value : Int32} {f_word : Int64} {f_wrongAt : Int32} {f_laterFault : Int32} {f_laterPlace : Int32} {a_told : Nat → Int32} {a_read : Nat → Int32} {f_farHut : Int32} {f_farSinger : Int32} {f_good : Int32} {f_land : Int32} {f_huts : Int32} {f_singers : Int32} {f_evening : Int32} {a_at : Nat → Int32} {a_knows : Nat → Int32} {a_climbed : Nat → Int32} {a_snow : Nat → Int32} {a_level : Nat → Int32} {f_begun : Int32} {f_minute : Int32} {f_avalanches : Int32} {a_run : Nat → Int32} {a_covers : Nat → Int32} {a_routes : Nat → Int32} {a_longest : Nat → Int32} {a_steep : Nat → Int32} {a_laid : Nat → Int32} {a_far : Nat → Int32} {f_sight : Int32} {a_runs : Nat → Int32} {f_choir : Int32} {f_voices : Int32} {a_rest : Nat → Int64} {a_wins : Nat → Int32} {f_seed : Int32} {a_other : Nat → Int32} {a_kept : Nat → Int32} {post : (Int32) → (Int32) → (Int32) → (Int32) → (Int64) → Prop} {x2 : Int32} {ls : Array Slot} {H : Heap} {locs : List Loc}
    (zc : zC p s m args meth c cX11_token 3 RX11 none)
    (hK : zK E s)
    (hM : mW E q f_code a_tape a_size a_fault a_faultPlace a_many a_lands a_evenings a_sights a_choirs f_reached f_length f_begins f_sort f_value f_word f_wrongAt f_laterFault f_laterPlace a_told a_read f_farHut f_farSinger f_good f_land f_huts f_singers f_evening a_at a_knows a_climbed a_snow a_level f_begun f_minute f_avalanches a_run a_covers a_routes a_longest a_steep a_laid a_far f_sight a_runs f_choir f_voices a_rest a_wins f_seed a_other a_kept H)
    (hS : va_S (mA q) s.heap H locs)
    (hl : lv_has ls 3 [(0, .ref q), (2, .int x2)])
    (hw : q_m_token_74 a_tape f_reached f_length f_begins f_sort f_value f_word x2 post) :
    W p l e rm_m_token s m args below meth c H locs 0 0 (MQ below (zQv (S := (Int32) × (Int32) × (Int32) × (Int32) × (Int64)) (fun u => post u.1 u.2.1 u.2.2.1 u.2.2.2.1 u.2.2.2.2) (fun u H => mW E q f_code a_tape a_size a_fault a_faultPlace a_many a_lands a_evenings a_sights a_choirs u.1 f_length u.2.1 u.2.2.1 u.2.2.2.1 u.2.2.2.2 f_wrongAt f_laterFault f_laterPlace a_told a_read f_farHut f_farSinger f_good f_land f_huts f_singers f_evening a_at a_knows a_climbed a_snow a_level f_begun f_minute f_avalanches a_run a_covers a_routes a_longest a_steep a_laid a_far f_sight a_runs f_choir f_voices a_rest a_wins f_seed a_other a_kept H) (mA q)) args s 0 0 (mA q)) (F0 m 74 ls []) := by
  have hx := zc.1
  have hb := zc.2.1
  refine hw (fun x2 f_reached f_word => ∀ (H : Heap) (locs : List Loc) (ls : Array Slot), lv_has ls 3 [(0, .ref q), (2, .int x2)] → mW E q f_code a_tape a_size a_fault a_faultPlace a_many a_lands a_evenings a_sights a_choirs f_reached f_length f_begins f_sort f_value f_word f_wrongAt f_laterFault f_laterPlace a_told a_read f_farHut f_farSinger f_good f_land f_huts f_singers f_evening a_at a_knows a_climbed a_snow a_level f_begun f_minute f_avalanches a_run a_covers a_routes a_longest a_steep a_laid a_far f_sight a_runs f_choir f_voices a_rest a_wins f_seed a_other a_kept H → va_S (mA q) s.heap H locs → W p l e rm_m_token s m args below meth c H locs 0 0 (MQ below (zQv (S := (Int32) × (Int32) × (Int32) × (Int32) × (Int64)) (fun u => post u.1 u.2.1 u.2.2.1 u.2.2.2.1 u.2.2.2.2) (fun u H => mW E q f_code a_tape a_size a_fault a_faultPlace a_many a_lands a_evenings a_sights a_choirs u.1 f_length u.2.1 u.2.2.1 u.2.2.2.1 u.2.2.2.2 f_wrongAt f_laterFault f_laterPlace a_told a_read f_farHut f_farSinger f_good f_land f_huts f_singers f_evening a_at a_knows a_climbed a_snow a_level f_begun f_minute f_avalanches a_run a_covers a_routes a_longest a_steep a_laid a_far f_sight a_runs f_choir f_voices a_rest a_wins f_seed a_other a_kept H) (mA q)) args s 0 0 (mA q)) (F0 m 74 ls [])) ?_ _ _ _ hl hM hS
  intro x2 f_reached f_word hw H locs ls hl hM hS
  refine lv_aload_n hx hb dX11_token_74 rfl (lv_at hl 0 rfl) ?_
  refine zV_i [] [] zc ky_X11_see kz_X11_see km_11_123 (c_m_see l hw) (mPreV0 hK hM) rfl rfl hl.1 (Nat.le_of_ble_eq_true rfl) ⟨rfl, rfl⟩ ⟨Nat.le_of_ble_eq_true rfl, Nat.le_of_ble_eq_true rfl⟩ ⟨(Nat.zero_le _), (Nat.zero_le _)⟩ dX11_token_75 (fun r_1 hw => ?_)
  refine lv_bipush (v := (97 : Int32)) hx hb dX11_token_78 (by decide) ?_
  refine lv_bipush (v := (122 : Int32)) hx hb dX11_token_80 (by decide) ?_
  refine zS_i [.int r_1, .int (97 : Int32), .int (122 : Int32)] [] zc ky_X11_in kz_X11_in km_11_109 (c_m_in l hw) (zPre0 _) rfl rfl hl.1 (Nat.le_of_ble_eq_true rfl) ⟨rfl, rfl⟩ ⟨Nat.le_of_ble_eq_true rfl, Nat.le_of_ble_eq_true rfl⟩ ⟨(Nat.zero_le _), (Nat.zero_le _)⟩ dX11_token_82 (fun r_2 hw => ?_)
  refine lv_if_eq (tgt := 121) hx hb dX11_token_85 (by decide) (fun hc => ?_) (fun hc => ?_)
  · have hw := hw.1 hc
    refine lv_aload_n hx hb dX11_token_121 rfl (lv_at hl 0 rfl) ?_
    refine lv_iload_n hx hb dX11_token_122 rfl (lv_at hl 1 rfl) ?_
    refine lv_bipush (v := (8 : Int32)) hx hb dX11_token_123 (by decide) ?_
    refine lv_icmp_le (tgt := 132) hx hb dX11_token_125 (by decide) (fun hc => ?_) (fun hc => ?_)
    · have hw := hw.1 hc
      refine lv_aload_n hx hb dX11_token_132 rfl (lv_at hl 0 rfl) ?_
      refine mg_11_130_0 zc hK hM dX11_token_133 ?_
      exact t_m_token_136 zc hK hM hS  (lv_sub hl [0] rfl) hw
    · have hw := hw.2 hc
      refine lv_lconst (v := (0 : Int64)) hx hb dX11_token_128 (by decide) ?_
      refine lv_goto (tgt := 136) hx hb dX11_token_129 (by decide) ?_
      exact t_m_token_136 zc hK hM hS  (lv_sub hl [0] rfl) hw
  · have hw := hw.2 hc
    refine lv_aload_n hx hb dX11_token_88 rfl (lv_at hl 0 rfl) ?_
    refine lv_aload_n hx hb dX11_token_89 rfl (lv_at hl 0 rfl) ?_
    refine mg_11_130_0 zc hK hM dX11_token_90 ?_
    refine lv_bipush (v := (8 : Int32)) hx hb dX11_token_93 (by decide) ?_
    refine lv_lshl hx hb dX11_token_95 rfl ?_
    refine lv_aload_n hx hb dX11_token_96 rfl (lv_at hl 0 rfl) ?_
    refine zV_i [] [.long (f_word <<< (Int32.toInt64 (8 : Int32) &&& 63)), .ref q] zc ky_X11_see kz_X11_see km_11_123 (c_m_see l hw) (mPreV0 hK hM) rfl rfl hl.1 (Nat.le_of_ble_eq_true rfl) ⟨rfl, rfl⟩ ⟨Nat.le_of_ble_eq_true rfl, Nat.le_of_ble_eq_true rfl⟩ ⟨(Nat.zero_le _), (Nat.zero_le _)⟩ dX11_token_97 (fun r_3 hw => ?_)
    refine lv_i2l hx hb dX11_token_100 rfl ?_
    refine lv_lor hx hb dX11_token_101 ?_
    refine lv_topl (fun v_1 ev_1 => ?_)
    have hw := hw v_1 ev_1
    refine mp_11_130_0 zc hK hM hS dX11_token_102 (fun H locs hM hS => ?_)
    refine lv_aload_n hx hb dX11_token_105 rfl (lv_at hl 0 rfl) ?_
    refine lv_dup hx hb dX11_token_106 rfl ?_
    refine mg_11_117_0 zc hK hM dX11_token_107 ?_
    refine lv_iconst (v := (1 : Int32)) hx hb dX11_token_110 (by decide) ?_
    refine lv_iadd hx hb dX11_token_111 ?_
    refine lv_topi (fun v_2 ev_2 => ?_)
    have hw := hw v_2 ev_2
    refine mp_11_117_0 zc hK hM hS dX11_token_112 (fun H locs hM hS => ?_)
    obtain ⟨v_3, ev_3⟩ : ∃ y : Int32, y = x2 + (1 : Int32) := ⟨_, rfl⟩
    have hw := hw v_3 ev_3
    refine lv_iinc (v := v_3) (k := 1) (lv' := [(2, .int v_3), (0, .ref q)]) hx hb dX11_token_115 hl rfl (by rw [ev_3]; rfl) (by decide) rfl (fun ls hl => ?_)
    refine lv_goto (tgt := 74) hx hb dX11_token_118 (by decide) ?_
    exact hw _ _ _ (lv_sub hl [1, 0] rfl) hM hS
set_option maxRecDepth 20000 in
theorem t_m_token_0 {p : Program} {l : Launch} {e : Env} {s : State} {m : MethodId} {args : Array Value} {below : List Frame} {meth : Method} {c : Code} {E : zE} {q : Nat} {f_code : Int32} {a_tape : Nat → Int32} {a_size : Nat → Int32} {a_fault : Nat → Int32} {a_faultPlace : Nat → Int32} {a_many : Nat → Int32} {a_lands : Nat → Int32} {a_evenings : Nat → Int32} {a_sights : Nat → Int32} {a_choirs : Nat → Int32} {f_reached : Int32} {f_length : Int32} {f_begins : Int32} {f_sort : Int32} {f_value : Int32} {f_word : Int64} {f_wrongAt : Int32} {f_laterFault : Int32} {f_laterPlace : Int32} {a_told : Nat → Int32} {a_read : Nat → Int32} {f_farHut : Int32} {f_farSinger : Int32} {f_good : Int32} {f_land : Int32} {f_huts : Int32} {f_singers : Int32} {f_evening : Int32} {a_at : Nat → Int32} {a_knows : Nat → Int32} {a_climbed : Nat → Int32} {a_snow : Nat → Int32} {a_level : Nat → Int32} {f_begun : Int32} {f_minute : Int32} {f_avalanches : Int32} {a_run : Nat → Int32} {a_covers : Nat → Int32} {a_routes : Nat → Int32} {a_longest : Nat → Int32} {a_steep : Nat → Int32} {a_laid : Nat → Int32} {a_far : Nat → Int32} {f_sight : Int32} {a_runs : Nat → Int32} {f_choir : Int32} {f_voices : Int32} {a_rest : Nat → Int64} {a_wins : Nat → Int32} {f_seed : Int32} {a_other : Nat → Int32} {a_kept : Nat → Int32} {post : (Int32) → (Int32) → (Int32) → (Int32) → (Int64) → Prop} {ls : Array Slot} {H : Heap} {locs : List Loc}
    (zc : zC p s m args meth c cX11_token 3 RX11 none)
    (hK : zK E s)
    (hM : mW E q f_code a_tape a_size a_fault a_faultPlace a_many a_lands a_evenings a_sights a_choirs f_reached f_length f_begins f_sort f_value f_word f_wrongAt f_laterFault f_laterPlace a_told a_read f_farHut f_farSinger f_good f_land f_huts f_singers f_evening a_at a_knows a_climbed a_snow a_level f_begun f_minute f_avalanches a_run a_covers a_routes a_longest a_steep a_laid a_far f_sight a_runs f_choir f_voices a_rest a_wins f_seed a_other a_kept H)
    (hS : va_S (mA q) s.heap H locs)
    (hl : lv_has ls 3 [(0, .ref q)])
    (hw : q_m_token_0 a_tape f_reached f_length f_begins f_sort f_value f_word post) :
    W p l e rm_m_token s m args below meth c H locs 0 0 (MQ below (zQv (S := (Int32) × (Int32) × (Int32) × (Int32) × (Int64)) (fun u => post u.1 u.2.1 u.2.2.1 u.2.2.2.1 u.2.2.2.2) (fun u H => mW E q f_code a_tape a_size a_fault a_faultPlace a_many a_lands a_evenings a_sights a_choirs u.1 f_length u.2.1 u.2.2.1 u.2.2.2.1 u.2.2.2.2 f_wrongAt f_laterFault f_laterPlace a_told a_read f_farHut f_farSinger f_good f_land f_huts f_singers f_evening a_at a_knows a_climbed a_snow a_level f_begun f_minute f_avalanches a_run a_covers a_routes a_longest a_steep a_laid a_far f_sight a_runs f_choir f_voices a_rest a_wins f_seed a_other a_kept H) (mA q)) args s 0 0 (mA q)) (F0 m 0 ls []) := by
  have hx := zc.1
  have hb := zc.2.1
  refine hw (fun f_reached => ∀ (H : Heap) (locs : List Loc) (ls : Array Slot), lv_has ls 3 [(0, .ref q)] → mW E q f_code a_tape a_size a_fault a_faultPlace a_many a_lands a_evenings a_sights a_choirs f_reached f_length f_begins f_sort f_value f_word f_wrongAt f_laterFault f_laterPlace a_told a_read f_farHut f_farSinger f_good f_land f_huts f_singers f_evening a_at a_knows a_climbed a_snow a_level f_begun f_minute f_avalanches a_run a_covers a_routes a_longest a_steep a_laid a_far f_sight a_runs f_choir f_voices a_rest a_wins f_seed a_other a_kept H → va_S (mA q) s.heap H locs → W p l e rm_m_token s m args below meth c H locs 0 0 (MQ below (zQv (S := (Int32) × (Int32) × (Int32) × (Int32) × (Int64)) (fun u => post u.1 u.2.1 u.2.2.1 u.2.2.2.1 u.2.2.2.2) (fun u H => mW E q f_code a_tape a_size a_fault a_faultPlace a_many a_lands a_evenings a_sights a_choirs u.1 f_length u.2.1 u.2.2.1 u.2.2.2.1 u.2.2.2.2 f_wrongAt f_laterFault f_laterPlace a_told a_read f_farHut f_farSinger f_good f_land f_huts f_singers f_evening a_at a_knows a_climbed a_snow a_level f_begun f_minute f_avalanches a_run a_covers a_routes a_longest a_steep a_laid a_far f_sight a_runs f_choir f_voices a_rest a_wins f_seed a_other a_kept H) (mA q)) args s 0 0 (mA q)) (F0 m 0 ls [])) ?_ _ _ _ hl hM hS
  intro f_reached hw H locs ls hl hM hS
  refine lv_aload_n hx hb dX11_token_0 rfl (lv_at hl 0 rfl) ?_
  refine zV_i [] [] zc ky_X11_see kz_X11_see km_11_123 (c_m_see l hw) (mPreV0 hK hM) rfl rfl hl.1 (Nat.le_of_ble_eq_true rfl) ⟨rfl, rfl⟩ ⟨Nat.le_of_ble_eq_true rfl, Nat.le_of_ble_eq_true rfl⟩ ⟨(Nat.zero_le _), (Nat.zero_le _)⟩ dX11_token_1 (fun r_1 hw => ?_)
  refine lv_bipush (v := (10 : Int32)) hx hb dX11_token_4 (by decide) ?_
  refine lv_icmp_eq (tgt := 18) hx hb dX11_token_6 (by decide) (fun hc => ?_) (fun hc => ?_)
  · have hw := hw.1 hc
    exact t_m_token_18 zc hK hM hS (fun _ H locs ls h hl hM hS => h H locs ls hl hM hS) (lv_sub hl [0] rfl) hw
  · have hw := hw.2 hc
    refine lv_aload_n hx hb dX11_token_9 rfl (lv_at hl 0 rfl) ?_
    refine zV_i [] [] zc ky_X11_see kz_X11_see km_11_123 (c_m_see l hw) (mPreV0 hK hM) rfl rfl hl.1 (Nat.le_of_ble_eq_true rfl) ⟨rfl, rfl⟩ ⟨Nat.le_of_ble_eq_true rfl, Nat.le_of_ble_eq_true rfl⟩ ⟨(Nat.zero_le _), (Nat.zero_le _)⟩ dX11_token_10 (fun r_2 hw => ?_)
    refine lv_bipush (v := (32 : Int32)) hx hb dX11_token_13 (by decide) ?_
    refine lv_icmp_ne (tgt := 31) hx hb dX11_token_15 (by decide) (fun hc => ?_) (fun hc => ?_)
    · have hw := hw.1 hc
      refine lv_aload_n hx hb dX11_token_31 rfl (lv_at hl 0 rfl) ?_
      refine lv_aload_n hx hb dX11_token_32 rfl (lv_at hl 0 rfl) ?_
      refine mg_11_117_0 zc hK hM dX11_token_33 ?_
      refine mp_11_127_0 zc hK hM hS dX11_token_36 (fun H locs hM hS => ?_)
      refine lv_aload_n hx hb dX11_token_39 rfl (lv_at hl 0 rfl) ?_
      refine zV_i [] [] zc ky_X11_see kz_X11_see km_11_123 (c_m_see l hw) (mPreV0 hK hM) rfl rfl hl.1 (Nat.le_of_ble_eq_true rfl) ⟨rfl, rfl⟩ ⟨Nat.le_of_ble_eq_true rfl, Nat.le_of_ble_eq_true rfl⟩ ⟨(Nat.zero_le _), (Nat.zero_le _)⟩ dX11_token_40 (fun r_3 hw => ?_)
      refine lv_istore_n (lv' := [(1, .int r_3), (0, .ref q)]) hx hb dX11_token_43 rfl hl (by decide) rfl (fun ls hl => ?_)
      refine lv_aload_n hx hb dX11_token_44 rfl (lv_at hl 1 rfl) ?_
      refine lv_lconst (v := (0 : Int64)) hx hb dX11_token_45 (by decide) ?_
      refine mp_11_130_0 zc hK hM hS dX11_token_46 (fun H locs hM hS => ?_)
      refine lv_iconst (v := (0 : Int32)) hx hb dX11_token_49 (by decide) ?_
      refine lv_istore_n (lv' := [(2, .int (0 : Int32)), (1, .int r_3), (0, .ref q)]) hx hb dX11_token_50 rfl hl (by decide) rfl (fun ls hl => ?_)
      refine lv_iload_n hx hb dX11_token_51 rfl (lv_at hl 1 rfl) ?_
      refine lv_if_ge (tgt := 63) hx hb dX11_token_52 (by decide) (fun hc => ?_) (fun hc => ?_)
      · have hw := hw.1 hc
        refine lv_iload_n hx hb dX11_token_63 rfl (lv_at hl 1 rfl) ?_
        refine lv_bipush (v := (97 : Int32)) hx hb dX11_token_64 (by decide) ?_
        refine lv_bipush (v := (122 : Int32)) hx hb dX11_token_66 (by decide) ?_
        refine zS_i [.int r_3, .int (97 : Int32), .int (122 : Int32)] [] zc ky_X11_in kz_X11_in km_11_109 (c_m_in l hw) (zPre0 _) rfl rfl hl.1 (Nat.le_of_ble_eq_true rfl) ⟨rfl, rfl⟩ ⟨Nat.le_of_ble_eq_true rfl, Nat.le_of_ble_eq_true rfl⟩ ⟨(Nat.zero_le _), (Nat.zero_le _)⟩ dX11_token_68 (fun r_4 hw => ?_)
        refine lv_if_eq (tgt := 147) hx hb dX11_token_71 (by decide) (fun hc => ?_) (fun hc => ?_)
        · have hw := hw.1 hc
          refine lv_iload_n hx hb dX11_token_147 rfl (lv_at hl 1 rfl) ?_
          refine lv_bipush (v := (48 : Int32)) hx hb dX11_token_148 (by decide) ?_
          refine lv_bipush (v := (57 : Int32)) hx hb dX11_token_150 (by decide) ?_
          refine zS_i [.int r_3, .int (48 : Int32), .int (57 : Int32)] [] zc ky_X11_in kz_X11_in km_11_109 (c_m_in l hw) (zPre0 _) rfl rfl hl.1 (Nat.le_of_ble_eq_true rfl) ⟨rfl, rfl⟩ ⟨Nat.le_of_ble_eq_true rfl, Nat.le_of_ble_eq_true rfl⟩ ⟨(Nat.zero_le _), (Nat.zero_le _)⟩ dX11_token_152 (fun r_5 hw => ?_)
          refine lv_if_eq (tgt := 241) hx hb dX11_token_155 (by decide) (fun hc => ?_) (fun hc => ?_)
          · have hw := hw.1 hc
            refine lv_aload_n hx hb dX11_token_241 rfl (lv_at hl 2 rfl) ?_
            refine lv_dup hx hb dX11_token_242 rfl ?_
            refine mg_11_117_0 zc hK hM dX11_token_243 ?_
            refine lv_iconst (v := (1 : Int32)) hx hb dX11_token_246 (by decide) ?_
            refine lv_iadd hx hb dX11_token_247 ?_
            refine lv_topi (fun v_1 ev_1 => ?_)
            have hw := hw v_1 ev_1
            refine mp_11_117_0 zc hK hM hS dX11_token_248 (fun H locs hM hS => ?_)
            refine lv_aload_n hx hb dX11_token_251 rfl (lv_at hl 2 rfl) ?_
            refine lv_iload_n hx hb dX11_token_252 rfl (lv_at hl 1 rfl) ?_
            refine lv_bipush (v := (59 : Int32)) hx hb dX11_token_253 (by decide) ?_
            refine lv_icmp_ne (tgt := 262) hx hb dX11_token_255 (by decide) (fun hc => ?_) (fun hc => ?_)
            · have hw := hw.1 hc
              refine lv_iconst (v := (1 : Int32)) hx hb dX11_token_262 (by decide) ?_
              exact t_m_token_263 zc hK hM hS  (lv_sub hl [] rfl) hw
            · have hw := hw.2 hc
              refine lv_iconst (v := (4 : Int32)) hx hb dX11_token_258 (by decide) ?_
              refine lv_goto (tgt := 263) hx hb dX11_token_259 (by decide) ?_
              exact t_m_token_263 zc hK hM hS  (lv_sub hl [] rfl) hw
          · have hw := hw.2 hc
            refine lv_aload_n hx hb dX11_token_158 rfl (lv_at hl 2 rfl) ?_
            refine lv_iconst (v := (0 : Int32)) hx hb dX11_token_159 (by decide) ?_
            refine mp_11_137_0 zc hK hM hS dX11_token_160 (fun H locs hM hS => ?_)
            exact t_m_token_163 zc hK hM hS  (lv_sub hl [2, 0] rfl) hw
        · have hw := hw.2 hc
          exact t_m_token_74 zc hK hM hS  (lv_sub hl [2, 0] rfl) hw
      · have hw := hw.2 hc
        refine lv_aload_n hx hb dX11_token_55 rfl (lv_at hl 2 rfl) ?_
        refine lv_iconst (v := (0 : Int32)) hx hb dX11_token_56 (by decide) ?_
        refine mp_11_134_0 zc hK hM hS dX11_token_57 (fun H locs hM hS => ?_)
        refine lv_goto (tgt := 266) hx hb dX11_token_60 (by decide) ?_
        exact zret_vw ⟨f_reached, f_reached, (0 : Int32), f_value, (0 : Int64)⟩ zc hS hw hM dX11_token_266
    · have hw := hw.2 hc
      exact t_m_token_18 zc hK hM hS (fun _ H locs ls h hl hM hS => h H locs ls hl hM hS) (lv_sub hl [0] rfl) hw
set_option maxRecDepth 20000 in
theorem c_m_token (l : Launch) {E : zE} {q : Nat} {f_code : Int32} {a_tape : Nat → Int32} {a_size : Nat → Int32} {a_fault : Nat → Int32} {a_faultPlace : Nat → Int32} {a_many : Nat → Int32} {a_lands : Nat → Int32} {a_evenings : Nat → Int32} {a_sights : Nat → Int32} {a_choirs : Nat → Int32} {f_reached : Int32} {f_length : Int32} {f_begins : Int32} {f_sort : Int32} {f_value : Int32} {f_word : Int64} {f_wrongAt : Int32} {f_laterFault : Int32} {f_laterPlace : Int32} {a_told : Nat → Int32} {a_read : Nat → Int32} {f_farHut : Int32} {f_farSinger : Int32} {f_good : Int32} {f_land : Int32} {f_huts : Int32} {f_singers : Int32} {f_evening : Int32} {a_at : Nat → Int32} {a_knows : Nat → Int32} {a_climbed : Nat → Int32} {a_snow : Nat → Int32} {a_level : Nat → Int32} {f_begun : Int32} {f_minute : Int32} {f_avalanches : Int32} {a_run : Nat → Int32} {a_covers : Nat → Int32} {a_routes : Nat → Int32} {a_longest : Nat → Int32} {a_steep : Nat → Int32} {a_laid : Nat → Int32} {a_far : Nat → Int32} {f_sight : Int32} {a_runs : Nat → Int32} {f_choir : Int32} {f_voices : Int32} {a_rest : Nat → Int64} {a_wins : Nat → Int32} {f_seed : Int32} {a_other : Nat → Int32} {a_kept : Nat → Int32} {post : (Int32) → (Int32) → (Int32) → (Int32) → (Int64) → Prop} (hw : q_m_token_0 a_tape f_reached f_length f_begins f_sort f_value f_word post) : Met l yX11_token (Cond.code yX11_token cX11_token 3 none :: zb) rm_m_token (va_Pc [.ref q] (fun U => mW E q f_code a_tape a_size a_fault a_faultPlace a_many a_lands a_evenings a_sights a_choirs f_reached f_length f_begins f_sort f_value f_word f_wrongAt f_laterFault f_laterPlace a_told a_read f_farHut f_farSinger f_good f_land f_huts f_singers f_evening a_at a_knows a_climbed a_snow a_level f_begun f_minute f_avalanches a_run a_covers a_routes a_longest a_steep a_laid a_far f_sight a_runs f_choir f_voices a_rest a_wins f_seed a_other a_kept U.heap ∧ zK E U)) (zQv (S := (Int32) × (Int32) × (Int32) × (Int32) × (Int64)) (fun u => post u.1 u.2.1 u.2.2.1 u.2.2.2.1 u.2.2.2.2) (fun u H => mW E q f_code a_tape a_size a_fault a_faultPlace a_many a_lands a_evenings a_sights a_choirs u.1 f_length u.2.1 u.2.2.1 u.2.2.2.1 u.2.2.2.2 f_wrongAt f_laterFault f_laterPlace a_told a_read f_farHut f_farSinger f_good f_land f_huts f_singers f_evening a_at a_knows a_climbed a_snow a_level f_begun f_minute f_avalanches a_run a_covers a_routes a_longest a_steep a_laid a_far f_sight a_runs f_choir f_voices a_rest a_wins f_seed a_other a_kept H) (mA q)) 0 0 (mA q) := by
  refine Met.ofW (cc := cX11_token) (maxL := 3) (ret := none) (by decide) rfl ?_
  intro p e s m args below meth c s₁ B hml hv
  obtain ⟨rfl, hM, hK⟩ := hv
  have zc := zc_of B hml
  have hl := lv_entry ([.ref q]) (n := 3) (Nat.le_of_ble_eq_true rfl)
  rw [lg_entry_eq]
  generalize (lg_sl ([.ref q]) ++ List.replicate (3 - (lg_sl ([.ref q])).length) Slot.unset).toArray = ls at hl ⊢
  have hl : lv_has ls 3 [(0, .ref q)] := hl
  exact t_m_token_0 zc hK hM va_S.rf (lv_sub hl [0] rfl) hw
-- m_fails
abbrev rm_m_fails : Room := { frames := 0, cells := 0, slots := 0, locals := 0 }
def q_m_fails_0 (f_begins : Int32) (f_wrongAt : Int32) (post : Int32 → (Int32) → Prop) : Prop :=
  post (0 : Int32) f_begins
set_option maxRecDepth 20000 in
theorem t_m_fails_0 {p : Program} {l : Launch} {e : Env} {s : State} {m : MethodId} {args : Array Value} {below : List Frame} {meth : Method} {c : Code} {E : zE} {q : Nat} {f_code : Int32} {a_tape : Nat → Int32} {a_size : Nat → Int32} {a_fault : Nat → Int32} {a_faultPlace : Nat → Int32} {a_many : Nat → Int32} {a_lands : Nat → Int32} {a_evenings : Nat → Int32} {a_sights : Nat → Int32} {a_choirs : Nat → Int32} {f_reached : Int32} {f_length : Int32} {f_begins : Int32} {f_sort : Int32} {f_value : Int32} {f_word : Int64} {f_wrongAt : Int32} {f_laterFault : Int32} {f_laterPlace : Int32} {a_told : Nat → Int32} {a_read : Nat → Int32} {f_farHut : Int32} {f_farSinger : Int32} {f_good : Int32} {f_land : Int32} {f_huts : Int32} {f_singers : Int32} {f_evening : Int32} {a_at : Nat → Int32} {a_knows : Nat → Int32} {a_climbed : Nat → Int32} {a_snow : Nat → Int32} {a_level : Nat → Int32} {f_begun : Int32} {f_minute : Int32} {f_avalanches : Int32} {a_run : Nat → Int32} {a_covers : Nat → Int32} {a_routes : Nat → Int32} {a_longest : Nat → Int32} {a_steep : Nat → Int32} {a_laid : Nat → Int32} {a_far : Nat → Int32} {f_sight : Int32} {a_runs : Nat → Int32} {f_choir : Int32} {f_voices : Int32} {a_rest : Nat → Int64} {a_wins : Nat → Int32} {f_seed : Int32} {a_other : Nat → Int32} {a_kept : Nat → Int32} {post : Int32 → (Int32) → Prop} {ls : Array Slot} {H : Heap} {locs : List Loc}
    (zc : zC p s m args meth c cX11_fails 1 RX11 (some .boolean))
    (hK : zK E s)
    (hM : mW E q f_code a_tape a_size a_fault a_faultPlace a_many a_lands a_evenings a_sights a_choirs f_reached f_length f_begins f_sort f_value f_word f_wrongAt f_laterFault f_laterPlace a_told a_read f_farHut f_farSinger f_good f_land f_huts f_singers f_evening a_at a_knows a_climbed a_snow a_level f_begun f_minute f_avalanches a_run a_covers a_routes a_longest a_steep a_laid a_far f_sight a_runs f_choir f_voices a_rest a_wins f_seed a_other a_kept H)
    (hS : va_S (mA q) s.heap H locs)
    (hl : lv_has ls 1 [(0, .ref q)])
    (hw : q_m_fails_0 f_begins f_wrongAt post) :
    W p l e rm_m_fails s m args below meth c H locs 0 0 (MQ below (zQi (S := (Int32)) (fun r u => post r u) (fun u H => mW E q f_code a_tape a_size a_fault a_faultPlace a_many a_lands a_evenings a_sights a_choirs f_reached f_length f_begins f_sort f_value f_word u f_laterFault f_laterPlace a_told a_read f_farHut f_farSinger f_good f_land f_huts f_singers f_evening a_at a_knows a_climbed a_snow a_level f_begun f_minute f_avalanches a_run a_covers a_routes a_longest a_steep a_laid a_far f_sight a_runs f_choir f_voices a_rest a_wins f_seed a_other a_kept H) (mA q)) args s 0 0 (mA q)) (F0 m 0 ls []) := by
  have hx := zc.1
  have hb := zc.2.1
  refine lv_aload_n hx hb dX11_fails_0 rfl (lv_at hl 0 rfl) ?_
  refine lv_aload_n hx hb dX11_fails_1 rfl (lv_at hl 0 rfl) ?_
  refine mg_11_127_0 zc hK hM dX11_fails_2 ?_
  refine mp_11_140_0 zc hK hM hS dX11_fails_5 (fun H locs hM hS => ?_)
  refine lv_iconst (v := (0 : Int32)) hx hb dX11_fails_8 (by decide) ?_
  exact zret_zw f_begins zc hS rfl hw hM dX11_fails_9
set_option maxRecDepth 20000 in
theorem c_m_fails (l : Launch) {E : zE} {q : Nat} {f_code : Int32} {a_tape : Nat → Int32} {a_size : Nat → Int32} {a_fault : Nat → Int32} {a_faultPlace : Nat → Int32} {a_many : Nat → Int32} {a_lands : Nat → Int32} {a_evenings : Nat → Int32} {a_sights : Nat → Int32} {a_choirs : Nat → Int32} {f_reached : Int32} {f_length : Int32} {f_begins : Int32} {f_sort : Int32} {f_value : Int32} {f_word : Int64} {f_wrongAt : Int32} {f_laterFault : Int32} {f_laterPlace : Int32} {a_told : Nat → Int32} {a_read : Nat → Int32} {f_farHut : Int32} {f_farSinger : Int32} {f_good : Int32} {f_land : Int32} {f_huts : Int32} {f_singers : Int32} {f_evening : Int32} {a_at : Nat → Int32} {a_knows : Nat → Int32} {a_climbed : Nat → Int32} {a_snow : Nat → Int32} {a_level : Nat → Int32} {f_begun : Int32} {f_minute : Int32} {f_avalanches : Int32} {a_run : Nat → Int32} {a_covers : Nat → Int32} {a_routes : Nat → Int32} {a_longest : Nat → Int32} {a_steep : Nat → Int32} {a_laid : Nat → Int32} {a_far : Nat → Int32} {f_sight : Int32} {a_runs : Nat → Int32} {f_choir : Int32} {f_voices : Int32} {a_rest : Nat → Int64} {a_wins : Nat → Int32} {f_seed : Int32} {a_other : Nat → Int32} {a_kept : Nat → Int32} {post : Int32 → (Int32) → Prop} (hw : q_m_fails_0 f_begins f_wrongAt post) : Met l yX11_fails (Cond.code yX11_fails cX11_fails 1 (some .boolean) :: zb) rm_m_fails (va_Pc [.ref q] (fun U => mW E q f_code a_tape a_size a_fault a_faultPlace a_many a_lands a_evenings a_sights a_choirs f_reached f_length f_begins f_sort f_value f_word f_wrongAt f_laterFault f_laterPlace a_told a_read f_farHut f_farSinger f_good f_land f_huts f_singers f_evening a_at a_knows a_climbed a_snow a_level f_begun f_minute f_avalanches a_run a_covers a_routes a_longest a_steep a_laid a_far f_sight a_runs f_choir f_voices a_rest a_wins f_seed a_other a_kept U.heap ∧ zK E U)) (zQi (S := (Int32)) (fun r u => post r u) (fun u H => mW E q f_code a_tape a_size a_fault a_faultPlace a_many a_lands a_evenings a_sights a_choirs f_reached f_length f_begins f_sort f_value f_word u f_laterFault f_laterPlace a_told a_read f_farHut f_farSinger f_good f_land f_huts f_singers f_evening a_at a_knows a_climbed a_snow a_level f_begun f_minute f_avalanches a_run a_covers a_routes a_longest a_steep a_laid a_far f_sight a_runs f_choir f_voices a_rest a_wins f_seed a_other a_kept H) (mA q)) 0 0 (mA q) := by
  refine Met.ofW (cc := cX11_fails) (maxL := 1) (ret := (some .boolean)) (by decide) rfl ?_
  intro p e s m args below meth c s₁ B hml hv
  obtain ⟨rfl, hM, hK⟩ := hv
  have zc := zc_of B hml
  have hl := lv_entry ([.ref q]) (n := 1) (Nat.le_of_ble_eq_true rfl)
  rw [lg_entry_eq]
  generalize (lg_sl ([.ref q]) ++ List.replicate (1 - (lg_sl ([.ref q])).length) Slot.unset).toArray = ls at hl ⊢
  have hl : lv_has ls 1 [(0, .ref q)] := hl
  exact t_m_fails_0 zc hK hM va_S.rf (lv_sub hl [0] rfl) hw
-- m_later
abbrev rm_m_later : Room := { frames := 0, cells := 0, slots := 0, locals := 0 }
def q_m_later_31 (f_laterFault : Int32) (f_laterPlace : Int32) (x1 : Int32) (x2 : Int32) (post : (Int32) → (Int32) → Prop) : Prop :=
  post x1 x2
def q_m_later_0 (f_laterFault : Int32) (f_laterPlace : Int32) (x1 : Int32) (x2 : Int32) (post : (Int32) → (Int32) → Prop) : Prop :=
  (f_laterFault = 0 → (q_m_later_31 f_laterFault f_laterPlace x1 x2 post)) ∧ (¬ f_laterFault = 0 → ((x2 < f_laterPlace → (q_m_later_31 f_laterFault f_laterPlace x1 x2 post)) ∧ (¬ x2 < f_laterPlace → ((¬ x2 = f_laterPlace → (post f_laterFault f_laterPlace)) ∧ (x2 = f_laterPlace → ((f_laterFault ≤ x1 → (post f_laterFault f_laterPlace)) ∧ (¬ f_laterFault ≤ x1 → (q_m_later_31 f_laterFault f_laterPlace x1 x2 post))))))))
set_option maxRecDepth 20000 in
theorem t_m_later_31 {p : Program} {l : Launch} {e : Env} {s : State} {m : MethodId} {args : Array Value} {below : List Frame} {meth : Method} {c : Code} {E : zE} {q : Nat} {f_code : Int32} {a_tape : Nat → Int32} {a_size : Nat → Int32} {a_fault : Nat → Int32} {a_faultPlace : Nat → Int32} {a_many : Nat → Int32} {a_lands : Nat → Int32} {a_evenings : Nat → Int32} {a_sights : Nat → Int32} {a_choirs : Nat → Int32} {f_reached : Int32} {f_length : Int32} {f_begins : Int32} {f_sort : Int32} {f_value : Int32} {f_word : Int64} {f_wrongAt : Int32} {f_laterFault : Int32} {f_laterPlace : Int32} {a_told : Nat → Int32} {a_read : Nat → Int32} {f_farHut : Int32} {f_farSinger : Int32} {f_good : Int32} {f_land : Int32} {f_huts : Int32} {f_singers : Int32} {f_evening : Int32} {a_at : Nat → Int32} {a_knows : Nat → Int32} {a_climbed : Nat → Int32} {a_snow : Nat → Int32} {a_level : Nat → Int32} {f_begun : Int32} {f_minute : Int32} {f_avalanches : Int32} {a_run : Nat → Int32} {a_covers : Nat → Int32} {a_routes : Nat → Int32} {a_longest : Nat → Int32} {a_steep : Nat → Int32} {a_laid : Nat → Int32} {a_far : Nat → Int32} {f_sight : Int32} {a_runs : Nat → Int32} {f_choir : Int32} {f_voices : Int32} {a_rest : Nat → Int64} {a_wins : Nat → Int32} {f_seed : Int32} {a_other : Nat → Int32} {a_kept : Nat → Int32} {post : (Int32) → (Int32) → Prop} {x1 : Int32} {x2 : Int32} {ls : Array Slot} {H : Heap} {locs : List Loc}
    (zc : zC p s m args meth c cX11_later 3 RX11 none)
    (hK : zK E s)
    (hM : mW E q f_code a_tape a_size a_fault a_faultPlace a_many a_lands a_evenings a_sights a_choirs f_reached f_length f_begins f_sort f_value f_word f_wrongAt f_laterFault f_laterPlace a_told a_read f_farHut f_farSinger f_good f_land f_huts f_singers f_evening a_at a_knows a_climbed a_snow a_level f_begun f_minute f_avalanches a_run a_covers a_routes a_longest a_steep a_laid a_far f_sight a_runs f_choir f_voices a_rest a_wins f_seed a_other a_kept H)
    (hS : va_S (mA q) s.heap H locs)
    (hl : lv_has ls 3 [(0, .ref q), (1, .int x1), (2, .int x2)])
    (hw : q_m_later_31 f_laterFault f_laterPlace x1 x2 post) :
    W p l e rm_m_later s m args below meth c H locs 0 0 (MQ below (zQv (S := (Int32) × (Int32)) (fun u => post u.1 u.2) (fun u H => mW E q f_code a_tape a_size a_fault a_faultPlace a_many a_lands a_evenings a_sights a_choirs f_reached f_length f_begins f_sort f_value f_word f_wrongAt u.1 u.2 a_told a_read f_farHut f_farSinger f_good f_land f_huts f_singers f_evening a_at a_knows a_climbed a_snow a_level f_begun f_minute f_avalanches a_run a_covers a_routes a_longest a_steep a_laid a_far f_sight a_runs f_choir f_voices a_rest a_wins f_seed a_other a_kept H) (mA q)) args s 0 0 (mA q)) (F0 m 31 ls []) := by
  have hx := zc.1
  have hb := zc.2.1
  refine lv_aload_n hx hb dX11_later_31 rfl (lv_at hl 0 rfl) ?_
  refine lv_iload_n hx hb dX11_later_32 rfl (lv_at hl 1 rfl) ?_
  refine mp_11_143_0 zc hK hM hS dX11_later_33 (fun H locs hM hS => ?_)
  refine lv_aload_n hx hb dX11_later_36 rfl (lv_at hl 0 rfl) ?_
  refine lv_iload_n hx hb dX11_later_37 rfl (lv_at hl 2 rfl) ?_
  refine mp_11_146_0 zc hK hM hS dX11_later_38 (fun H locs hM hS => ?_)
  exact zret_vw ⟨x1, x2⟩ zc hS hw hM dX11_later_41
set_option maxRecDepth 20000 in
theorem t_m_later_0 {p : Program} {l : Launch} {e : Env} {s : State} {m : MethodId} {args : Array Value} {below : List Frame} {meth : Method} {c : Code} {E : zE} {q : Nat} {f_code : Int32} {a_tape : Nat → Int32} {a_size : Nat → Int32} {a_fault : Nat → Int32} {a_faultPlace : Nat → Int32} {a_many : Nat → Int32} {a_lands : Nat → Int32} {a_evenings : Nat → Int32} {a_sights : Nat → Int32} {a_choirs : Nat → Int32} {f_reached : Int32} {f_length : Int32} {f_begins : Int32} {f_sort : Int32} {f_value : Int32} {f_word : Int64} {f_wrongAt : Int32} {f_laterFault : Int32} {f_laterPlace : Int32} {a_told : Nat → Int32} {a_read : Nat → Int32} {f_farHut : Int32} {f_farSinger : Int32} {f_good : Int32} {f_land : Int32} {f_huts : Int32} {f_singers : Int32} {f_evening : Int32} {a_at : Nat → Int32} {a_knows : Nat → Int32} {a_climbed : Nat → Int32} {a_snow : Nat → Int32} {a_level : Nat → Int32} {f_begun : Int32} {f_minute : Int32} {f_avalanches : Int32} {a_run : Nat → Int32} {a_covers : Nat → Int32} {a_routes : Nat → Int32} {a_longest : Nat → Int32} {a_steep : Nat → Int32} {a_laid : Nat → Int32} {a_far : Nat → Int32} {f_sight : Int32} {a_runs : Nat → Int32} {f_choir : Int32} {f_voices : Int32} {a_rest : Nat → Int64} {a_wins : Nat → Int32} {f_seed : Int32} {a_other : Nat → Int32} {a_kept : Nat → Int32} {post : (Int32) → (Int32) → Prop} {x1 : Int32} {x2 : Int32} {ls : Array Slot} {H : Heap} {locs : List Loc}
    (zc : zC p s m args meth c cX11_later 3 RX11 none)
    (hK : zK E s)
    (hM : mW E q f_code a_tape a_size a_fault a_faultPlace a_many a_lands a_evenings a_sights a_choirs f_reached f_length f_begins f_sort f_value f_word f_wrongAt f_laterFault f_laterPlace a_told a_read f_farHut f_farSinger f_good f_land f_huts f_singers f_evening a_at a_knows a_climbed a_snow a_level f_begun f_minute f_avalanches a_run a_covers a_routes a_longest a_steep a_laid a_far f_sight a_runs f_choir f_voices a_rest a_wins f_seed a_other a_kept H)
    (hS : va_S (mA q) s.heap H locs)
    (hl : lv_has ls 3 [(0, .ref q), (1, .int x1), (2, .int x2)])
    (hw : q_m_later_0 f_laterFault f_laterPlace x1 x2 post) :
    W p l e rm_m_later s m args below meth c H locs 0 0 (MQ below (zQv (S := (Int32) × (Int32)) (fun u => post u.1 u.2) (fun u H => mW E q f_code a_tape a_size a_fault a_faultPlace a_many a_lands a_evenings a_sights a_choirs f_reached f_length f_begins f_sort f_value f_word f_wrongAt u.1 u.2 a_told a_read f_farHut f_farSinger f_good f_land f_huts f_singers f_evening a_at a_knows a_climbed a_snow a_level f_begun f_minute f_avalanches a_run a_covers a_routes a_longest a_steep a_laid a_far f_sight a_runs f_choir f_voices a_rest a_wins f_seed a_other a_kept H) (mA q)) args s 0 0 (mA q)) (F0 m 0 ls []) := by
  have hx := zc.1
  have hb := zc.2.1
  refine lv_aload_n hx hb dX11_later_0 rfl (lv_at hl 0 rfl) ?_
  refine mg_11_143_0 zc hK hM dX11_later_1 ?_
  refine lv_if_eq (tgt := 31) hx hb dX11_later_4 (by decide) (fun hc => ?_) (fun hc => ?_)
  · have hw := hw.1 hc
    exact t_m_later_31 zc hK hM hS  (lv_sub hl [0, 1, 2] rfl) hw
  · have hw := hw.2 hc
    refine lv_iload_n hx hb dX11_later_7 rfl (lv_at hl 2 rfl) ?_
    refine lv_aload_n hx hb dX11_later_8 rfl (lv_at hl 0 rfl) ?_
    refine mg_11_146_0 zc hK hM dX11_later_9 ?_
    refine lv_icmp_lt (tgt := 31) hx hb dX11_later_12 (by decide) (fun hc => ?_) (fun hc => ?_)
    · have hw := hw.1 hc
      exact t_m_later_31 zc hK hM hS  (lv_sub hl [0, 1, 2] rfl) hw
    · have hw := hw.2 hc
      refine lv_iload_n hx hb dX11_later_15 rfl (lv_at hl 2 rfl) ?_
      refine lv_aload_n hx hb dX11_later_16 rfl (lv_at hl 0 rfl) ?_
      refine mg_11_146_0 zc hK hM dX11_later_17 ?_
      refine lv_icmp_ne (tgt := 41) hx hb dX11_later_20 (by decide) (fun hc => ?_) (fun hc => ?_)
      · have hw := hw.1 hc
        exact zret_vw ⟨f_laterFault, f_laterPlace⟩ zc hS hw hM dX11_later_41
      · have hw := hw.2 hc
        refine lv_iload_n hx hb dX11_later_23 rfl (lv_at hl 1 rfl) ?_
        refine lv_aload_n hx hb dX11_later_24 rfl (lv_at hl 0 rfl) ?_
        refine mg_11_143_0 zc hK hM dX11_later_25 ?_
        refine lv_icmp_ge (tgt := 41) hx hb dX11_later_28 (by decide) (fun hc => ?_) (fun hc => ?_)
        · have hw := hw.1 hc
          exact zret_vw ⟨f_laterFault, f_laterPlace⟩ zc hS hw hM dX11_later_41
        · have hw := hw.2 hc
          exact t_m_later_31 zc hK hM hS  (lv_sub hl [0, 1, 2] rfl) hw
set_option maxRecDepth 20000 in
theorem c_m_later (l : Launch) {E : zE} {q : Nat} {f_code : Int32} {a_tape : Nat → Int32} {a_size : Nat → Int32} {a_fault : Nat → Int32} {a_faultPlace : Nat → Int32} {a_many : Nat → Int32} {a_lands : Nat → Int32} {a_evenings : Nat → Int32} {a_sights : Nat → Int32} {a_choirs : Nat → Int32} {f_reached : Int32} {f_length : Int32} {f_begins : Int32} {f_sort : Int32} {f_value : Int32} {f_word : Int64} {f_wrongAt : Int32} {f_laterFault : Int32} {f_laterPlace : Int32} {a_told : Nat → Int32} {a_read : Nat → Int32} {f_farHut : Int32} {f_farSinger : Int32} {f_good : Int32} {f_land : Int32} {f_huts : Int32} {f_singers : Int32} {f_evening : Int32} {a_at : Nat → Int32} {a_knows : Nat → Int32} {a_climbed : Nat → Int32} {a_snow : Nat → Int32} {a_level : Nat → Int32} {f_begun : Int32} {f_minute : Int32} {f_avalanches : Int32} {a_run : Nat → Int32} {a_covers : Nat → Int32} {a_routes : Nat → Int32} {a_longest : Nat → Int32} {a_steep : Nat → Int32} {a_laid : Nat → Int32} {a_far : Nat → Int32} {f_sight : Int32} {a_runs : Nat → Int32} {f_choir : Int32} {f_voices : Int32} {a_rest : Nat → Int64} {a_wins : Nat → Int32} {f_seed : Int32} {a_other : Nat → Int32} {a_kept : Nat → Int32} {x1 : Int32} {x2 : Int32} {post : (Int32) → (Int32) → Prop} (hw : q_m_later_0 f_laterFault f_laterPlace x1 x2 post) : Met l yX11_later (Cond.code yX11_later cX11_later 3 none :: zb) rm_m_later (va_Pc [.ref q, .int x1, .int x2] (fun U => mW E q f_code a_tape a_size a_fault a_faultPlace a_many a_lands a_evenings a_sights a_choirs f_reached f_length f_begins f_sort f_value f_word f_wrongAt f_laterFault f_laterPlace a_told a_read f_farHut f_farSinger f_good f_land f_huts f_singers f_evening a_at a_knows a_climbed a_snow a_level f_begun f_minute f_avalanches a_run a_covers a_routes a_longest a_steep a_laid a_far f_sight a_runs f_choir f_voices a_rest a_wins f_seed a_other a_kept U.heap ∧ zK E U)) (zQv (S := (Int32) × (Int32)) (fun u => post u.1 u.2) (fun u H => mW E q f_code a_tape a_size a_fault a_faultPlace a_many a_lands a_evenings a_sights a_choirs f_reached f_length f_begins f_sort f_value f_word f_wrongAt u.1 u.2 a_told a_read f_farHut f_farSinger f_good f_land f_huts f_singers f_evening a_at a_knows a_climbed a_snow a_level f_begun f_minute f_avalanches a_run a_covers a_routes a_longest a_steep a_laid a_far f_sight a_runs f_choir f_voices a_rest a_wins f_seed a_other a_kept H) (mA q)) 0 0 (mA q) := by
  refine Met.ofW (cc := cX11_later) (maxL := 3) (ret := none) (by decide) rfl ?_
  intro p e s m args below meth c s₁ B hml hv
  obtain ⟨rfl, hM, hK⟩ := hv
  have zc := zc_of B hml
  have hl := lv_entry ([.ref q, .int x1, .int x2]) (n := 3) (Nat.le_of_ble_eq_true rfl)
  rw [lg_entry_eq]
  generalize (lg_sl ([.ref q, .int x1, .int x2]) ++ List.replicate (3 - (lg_sl ([.ref q, .int x1, .int x2])).length) Slot.unset).toArray = ls at hl ⊢
  have hl : lv_has ls 3 [(0, .ref q), (1, .int x1), (2, .int x2)] := hl
  exact t_m_later_0 zc hK hM va_S.rf (lv_sub hl [0, 1, 2] rfl) hw
-- m_takeBut
abbrev rm_m_takeBut : Room := { frames := 2, cells := 0, slots := 0, locals := 44 }
def q_m_takeBut_58 (a_tape : Nat → Int32) (f_reached : Int32) (f_length : Int32) (f_begins : Int32) (f_sort : Int32) (f_value : Int32) (f_word : Int64) (f_wrongAt : Int32) (f_laterFault : Int32) (f_laterPlace : Int32) (a_read : Nat → Int32) (f_good : Int32) (post : Int32 → (Int32) → (Int32) → (Int32) → (Int32) → (Int64) → (Int32) → (Int32) → (Int32) → (Nat → Int32) → (Int32) → Prop) : Prop :=
  q_m_token_0 a_tape f_reached f_length f_begins f_sort f_value f_word (fun f_reached_1 f_begins_1 f_sort_1 f_value_1 f_word_1 => post (1 : Int32) f_reached_1 f_begins_1 f_sort_1 f_value_1 f_word_1 f_wrongAt f_laterFault f_laterPlace a_read f_good)
def q_m_takeBut_44 (a_tape : Nat → Int32) (f_reached : Int32) (f_length : Int32) (f_begins : Int32) (f_sort : Int32) (f_value : Int32) (f_word : Int64) (f_wrongAt : Int32) (f_laterFault : Int32) (f_laterPlace : Int32) (a_read : Nat → Int32) (f_good : Int32) (post : Int32 → (Int32) → (Int32) → (Int32) → (Int32) → (Int64) → (Int32) → (Int32) → (Int32) → (Nat → Int32) → (Int32) → Prop) : Prop :=
  q_m_later_0 f_laterFault f_laterPlace (2 : Int32) f_begins (fun f_laterFault_1 f_laterPlace_1 => q_m_takeBut_58 a_tape f_reached f_length f_begins f_sort f_value f_word f_wrongAt f_laterFault_1 f_laterPlace_1 a_read (0 : Int32) post)
def q_m_takeBut_0 (a_tape : Nat → Int32) (f_reached : Int32) (f_length : Int32) (f_begins : Int32) (f_sort : Int32) (f_value : Int32) (f_word : Int64) (f_wrongAt : Int32) (f_laterFault : Int32) (f_laterPlace : Int32) (a_read : Nat → Int32) (f_good : Int32) (x1 : Int32) (x2 : Int32) (x3 : Int32) (x4 : Int32) (post : Int32 → (Int32) → (Int32) → (Int32) → (Int32) → (Int64) → (Int32) → (Int32) → (Int32) → (Nat → Int32) → (Int32) → Prop) : Prop :=
  (f_sort = (3 : Int32) → (vp_in x1 3 ∧ (∀ a_read_1 : Nat → Int32, a_read_1 = upd a_read (Int32.toNatClampNeg x1) f_value → (q_m_in_0 f_value x2 x3 (fun r_1 => (r_1 = 0 → (q_m_takeBut_44 a_tape f_reached f_length f_begins f_sort f_value f_word f_wrongAt f_laterFault f_laterPlace a_read_1 f_good post)) ∧ (¬ r_1 = 0 → ((¬ f_value = x4 → (q_m_takeBut_58 a_tape f_reached f_length f_begins f_sort f_value f_word f_wrongAt f_laterFault f_laterPlace a_read_1 f_good post)) ∧ (f_value = x4 → (q_m_takeBut_44 a_tape f_reached f_length f_begins f_sort f_value f_word f_wrongAt f_laterFault f_laterPlace a_read_1 f_good post))))))))) ∧ (¬ f_sort = (3 : Int32) → (q_m_fails_0 f_begins f_wrongAt (fun r_2 f_wrongAt_1 => narrow .boolean (.int r_2) = .int r_2 ∧ post r_2 f_reached f_begins f_sort f_value f_word f_wrongAt_1 f_laterFault f_laterPlace a_read f_good)))
set_option maxRecDepth 20000 in
theorem t_m_takeBut_58 {p : Program} {l : Launch} {e : Env} {s : State} {m : MethodId} {args : Array Value} {below : List Frame} {meth : Method} {c : Code} {E : zE} {q : Nat} {f_code : Int32} {a_tape : Nat → Int32} {a_size : Nat → Int32} {a_fault : Nat → Int32} {a_faultPlace : Nat → Int32} {a_many : Nat → Int32} {a_lands : Nat → Int32} {a_evenings : Nat → Int32} {a_sights : Nat → Int32} {a_choirs : Nat → Int32} {f_reached : Int32} {f_length : Int32} {f_begins : Int32} {f_sort : Int32} {f_value : Int32} {f_word : Int64} {f_wrongAt : Int32} {f_laterFault : Int32} {f_laterPlace : Int32} {a_told : Nat → Int32} {a_read : Nat → Int32} {f_farHut : Int32} {f_farSinger : Int32} {f_good : Int32} {f_land : Int32} {f_huts : Int32} {f_singers : Int32} {f_evening : Int32} {a_at : Nat → Int32} {a_knows : Nat → Int32} {a_climbed : Nat → Int32} {a_snow : Nat → Int32} {a_level : Nat → Int32} {f_begun : Int32} {f_minute : Int32} {f_avalanches : Int32} {a_run : Nat → Int32} {a_covers : Nat → Int32} {a_routes : Nat → Int32} {a_longest : Nat → Int32} {a_steep : Nat → Int32} {a_laid : Nat → Int32} {a_far : Nat → Int32} {f_sight : Int32} {a_runs : Nat → Int32} {f_choir : Int32} {f_voices : Int32} {a_rest : Nat → Int64} {a_wins : Nat → Int32} {f_seed : Int32} {a_other : Nat → Int32} {a_kept : Nat → Int32} {post : Int32 → (Int32) → (Int32) → (Int32) → (Int32) → (Int64) → (Int32) → (Int32) → (Int32) → (Nat → Int32) → (Int32) → Prop} {ls : Array Slot} {H : Heap} {locs : List Loc}
    (zc : zC p s m args meth c cX11_takeBut 5 RX11 (some .boolean))
    (hK : zK E s)
    (hM : mW E q f_code a_tape a_size a_fault a_faultPlace a_many a_lands a_evenings a_sights a_choirs f_reached f_length f_begins f_sort f_value f_word f_wrongAt f_laterFault f_laterPlace a_told a_read f_farHut f_farSinger f_good f_land f_huts f_singers f_evening a_at a_knows a_climbed a_snow a_level f_begun f_minute f_avalanches a_run a_covers a_routes a_longest a_steep a_laid a_far f_sight a_runs f_choir f_voices a_rest a_wins f_seed a_other a_kept H)
    (hS : va_S (mA q) s.heap H locs)
    (hl : lv_has ls 5 [(0, .ref q)])
    (hw : q_m_takeBut_58 a_tape f_reached f_length f_begins f_sort f_value f_word f_wrongAt f_laterFault f_laterPlace a_read f_good post) :
    W p l e rm_m_takeBut s m args below meth c H locs 0 0 (MQ below (zQi (S := (Int32) × (Int32) × (Int32) × (Int32) × (Int64) × (Int32) × (Int32) × (Int32) × (Nat → Int32) × (Int32)) (fun r u => post r u.1 u.2.1 u.2.2.1 u.2.2.2.1 u.2.2.2.2.1 u.2.2.2.2.2.1 u.2.2.2.2.2.2.1 u.2.2.2.2.2.2.2.1 u.2.2.2.2.2.2.2.2.1 u.2.2.2.2.2.2.2.2.2) (fun u H => mW E q f_code a_tape a_size a_fault a_faultPlace a_many a_lands a_evenings a_sights a_choirs u.1 f_length u.2.1 u.2.2.1 u.2.2.2.1 u.2.2.2.2.1 u.2.2.2.2.2.1 u.2.2.2.2.2.2.1 u.2.2.2.2.2.2.2.1 a_told u.2.2.2.2.2.2.2.2.1 f_farHut f_farSinger u.2.2.2.2.2.2.2.2.2 f_land f_huts f_singers f_evening a_at a_knows a_climbed a_snow a_level f_begun f_minute f_avalanches a_run a_covers a_routes a_longest a_steep a_laid a_far f_sight a_runs f_choir f_voices a_rest a_wins f_seed a_other a_kept H) (mA q)) args s 0 0 (mA q)) (F0 m 58 ls []) := by
  have hx := zc.1
  have hb := zc.2.1
  refine lv_aload_n hx hb dX11_takeBut_58 rfl (lv_at hl 0 rfl) ?_
  refine zVw_v [] [] zc ky_X11_token kz_X11_token km_11_161 (c_m_token l hw) (mPreV0 hK hM) hS rfl rfl hl.1 (Nat.le_of_ble_eq_true rfl) ⟨rfl, rfl⟩ ⟨Nat.le_of_ble_eq_true rfl, Nat.le_of_ble_eq_true rfl⟩ ⟨(Nat.zero_le _), (Nat.zero_le _)⟩ dX11_takeBut_59 (fun u H locs hw hM hS => ?_)
  obtain ⟨f_reached_1, f_begins_1, f_sort_1, f_value_1, f_word_1⟩ := u
  refine lv_iconst (v := (1 : Int32)) hx hb dX11_takeBut_62 (by decide) ?_
  exact zret_zw ⟨f_reached_1, f_begins_1, f_sort_1, f_value_1, f_word_1, f_wrongAt, f_laterFault, f_laterPlace, a_read, f_good⟩ zc hS rfl hw hM dX11_takeBut_63
set_option maxRecDepth 20000 in
theorem t_m_takeBut_44 {p : Program} {l : Launch} {e : Env} {s : State} {m : MethodId} {args : Array Value} {below : List Frame} {meth : Method} {c : Code} {E : zE} {q : Nat} {f_code : Int32} {a_tape : Nat → Int32} {a_size : Nat → Int32} {a_fault : Nat → Int32} {a_faultPlace : Nat → Int32} {a_many : Nat → Int32} {a_lands : Nat → Int32} {a_evenings : Nat → Int32} {a_sights : Nat → Int32} {a_choirs : Nat → Int32} {f_reached : Int32} {f_length : Int32} {f_begins : Int32} {f_sort : Int32} {f_value : Int32} {f_word : Int64} {f_wrongAt : Int32} {f_laterFault : Int32} {f_laterPlace : Int32} {a_told : Nat → Int32} {a_read : Nat → Int32} {f_farHut : Int32} {f_farSinger : Int32} {f_good : Int32} {f_land : Int32} {f_huts : Int32} {f_singers : Int32} {f_evening : Int32} {a_at : Nat → Int32} {a_knows : Nat → Int32} {a_climbed : Nat → Int32} {a_snow : Nat → Int32} {a_level : Nat → Int32} {f_begun : Int32} {f_minute : Int32} {f_avalanches : Int32} {a_run : Nat → Int32} {a_covers : Nat → Int32} {a_routes : Nat → Int32} {a_longest : Nat → Int32} {a_steep : Nat → Int32} {a_laid : Nat → Int32} {a_far : Nat → Int32} {f_sight : Int32} {a_runs : Nat → Int32} {f_choir : Int32} {f_voices : Int32} {a_rest : Nat → Int64} {a_wins : Nat → Int32} {f_seed : Int32} {a_other : Nat → Int32} {a_kept : Nat → Int32} {post : Int32 → (Int32) → (Int32) → (Int32) → (Int32) → (Int64) → (Int32) → (Int32) → (Int32) → (Nat → Int32) → (Int32) → Prop} {ls : Array Slot} {H : Heap} {locs : List Loc}
    (zc : zC p s m args meth c cX11_takeBut 5 RX11 (some .boolean))
    (hK : zK E s)
    (hM : mW E q f_code a_tape a_size a_fault a_faultPlace a_many a_lands a_evenings a_sights a_choirs f_reached f_length f_begins f_sort f_value f_word f_wrongAt f_laterFault f_laterPlace a_told a_read f_farHut f_farSinger f_good f_land f_huts f_singers f_evening a_at a_knows a_climbed a_snow a_level f_begun f_minute f_avalanches a_run a_covers a_routes a_longest a_steep a_laid a_far f_sight a_runs f_choir f_voices a_rest a_wins f_seed a_other a_kept H)
    (hS : va_S (mA q) s.heap H locs)
    (hl : lv_has ls 5 [(0, .ref q)])
    (hw : q_m_takeBut_44 a_tape f_reached f_length f_begins f_sort f_value f_word f_wrongAt f_laterFault f_laterPlace a_read f_good post) :
    W p l e rm_m_takeBut s m args below meth c H locs 0 0 (MQ below (zQi (S := (Int32) × (Int32) × (Int32) × (Int32) × (Int64) × (Int32) × (Int32) × (Int32) × (Nat → Int32) × (Int32)) (fun r u => post r u.1 u.2.1 u.2.2.1 u.2.2.2.1 u.2.2.2.2.1 u.2.2.2.2.2.1 u.2.2.2.2.2.2.1 u.2.2.2.2.2.2.2.1 u.2.2.2.2.2.2.2.2.1 u.2.2.2.2.2.2.2.2.2) (fun u H => mW E q f_code a_tape a_size a_fault a_faultPlace a_many a_lands a_evenings a_sights a_choirs u.1 f_length u.2.1 u.2.2.1 u.2.2.2.1 u.2.2.2.2.1 u.2.2.2.2.2.1 u.2.2.2.2.2.2.1 u.2.2.2.2.2.2.2.1 a_told u.2.2.2.2.2.2.2.2.1 f_farHut f_farSinger u.2.2.2.2.2.2.2.2.2 f_land f_huts f_singers f_evening a_at a_knows a_climbed a_snow a_level f_begun f_minute f_avalanches a_run a_covers a_routes a_longest a_steep a_laid a_far f_sight a_runs f_choir f_voices a_rest a_wins f_seed a_other a_kept H) (mA q)) args s 0 0 (mA q)) (F0 m 44 ls []) := by
  have hx := zc.1
  have hb := zc.2.1
  refine lv_aload_n hx hb dX11_takeBut_44 rfl (lv_at hl 0 rfl) ?_
  refine lv_iconst (v := (2 : Int32)) hx hb dX11_takeBut_45 (by decide) ?_
  refine lv_aload_n hx hb dX11_takeBut_46 rfl (lv_at hl 0 rfl) ?_
  refine mg_11_127_0 zc hK hM dX11_takeBut_47 ?_
  refine zVw_v [.int (2 : Int32), .int f_begins] [] zc ky_X11_later kz_X11_later km_11_153 (c_m_later l hw) (mPreV0 hK hM) hS rfl rfl hl.1 (Nat.le_of_ble_eq_true rfl) ⟨rfl, rfl⟩ ⟨Nat.le_of_ble_eq_true rfl, Nat.le_of_ble_eq_true rfl⟩ ⟨(Nat.zero_le _), (Nat.zero_le _)⟩ dX11_takeBut_50 (fun u H locs hw hM hS => ?_)
  obtain ⟨f_laterFault_1, f_laterPlace_1⟩ := u
  refine lv_aload_n hx hb dX11_takeBut_53 rfl (lv_at hl 0 rfl) ?_
  refine lv_iconst (v := (0 : Int32)) hx hb dX11_takeBut_54 (by decide) ?_
  refine mp_11_157_0 zc hK hM hS rfl rfl dX11_takeBut_55 (fun H locs hM hS => ?_)
  exact t_m_takeBut_58 zc hK hM hS  (lv_sub hl [0] rfl) hw
set_option maxRecDepth 20000 in
theorem t_m_takeBut_0 {p : Program} {l : Launch} {e : Env} {s : State} {m : MethodId} {args : Array Value} {below : List Frame} {meth : Method} {c : Code} {E : zE} {q : Nat} {f_code : Int32} {a_tape : Nat → Int32} {a_size : Nat → Int32} {a_fault : Nat → Int32} {a_faultPlace : Nat → Int32} {a_many : Nat → Int32} {a_lands : Nat → Int32} {a_evenings : Nat → Int32} {a_sights : Nat → Int32} {a_choirs : Nat → Int32} {f_reached : Int32} {f_length : Int32} {f_begins : Int32} {f_sort : Int32} {f_value : Int32} {f_word : Int64} {f_wrongAt : Int32} {f_laterFault : Int32} {f_laterPlace : Int32} {a_told : Nat → Int32} {a_read : Nat → Int32} {f_farHut : Int32} {f_farSinger : Int32} {f_good : Int32} {f_land : Int32} {f_huts : Int32} {f_singers : Int32} {f_evening : Int32} {a_at : Nat → Int32} {a_knows : Nat → Int32} {a_climbed : Nat → Int32} {a_snow : Nat → Int32} {a_level : Nat → Int32} {f_begun : Int32} {f_minute : Int32} {f_avalanches : Int32} {a_run : Nat → Int32} {a_covers : Nat → Int32} {a_routes : Nat → Int32} {a_longest : Nat → Int32} {a_steep : Nat → Int32} {a_laid : Nat → Int32} {a_far : Nat → Int32} {f_sight : Int32} {a_runs : Nat → Int32} {f_choir : Int32} {f_voices : Int32} {a_rest : Nat → Int64} {a_wins : Nat → Int32} {f_seed : Int32} {a_other : Nat → Int32} {a_kept : Nat → Int32} {post : Int32 → (Int32) → (Int32) → (Int32) → (Int32) → (Int64) → (Int32) → (Int32) → (Int32) → (Nat → Int32) → (Int32) → Prop} {x1 : Int32} {x2 : Int32} {x3 : Int32} {x4 : Int32} {ls : Array Slot} {H : Heap} {locs : List Loc}
    (zc : zC p s m args meth c cX11_takeBut 5 RX11 (some .boolean))
    (hK : zK E s)
    (hM : mW E q f_code a_tape a_size a_fault a_faultPlace a_many a_lands a_evenings a_sights a_choirs f_reached f_length f_begins f_sort f_value f_word f_wrongAt f_laterFault f_laterPlace a_told a_read f_farHut f_farSinger f_good f_land f_huts f_singers f_evening a_at a_knows a_climbed a_snow a_level f_begun f_minute f_avalanches a_run a_covers a_routes a_longest a_steep a_laid a_far f_sight a_runs f_choir f_voices a_rest a_wins f_seed a_other a_kept H)
    (hS : va_S (mA q) s.heap H locs)
    (hl : lv_has ls 5 [(0, .ref q), (1, .int x1), (2, .int x2), (3, .int x3), (4, .int x4)])
    (hw : q_m_takeBut_0 a_tape f_reached f_length f_begins f_sort f_value f_word f_wrongAt f_laterFault f_laterPlace a_read f_good x1 x2 x3 x4 post) :
    W p l e rm_m_takeBut s m args below meth c H locs 0 0 (MQ below (zQi (S := (Int32) × (Int32) × (Int32) × (Int32) × (Int64) × (Int32) × (Int32) × (Int32) × (Nat → Int32) × (Int32)) (fun r u => post r u.1 u.2.1 u.2.2.1 u.2.2.2.1 u.2.2.2.2.1 u.2.2.2.2.2.1 u.2.2.2.2.2.2.1 u.2.2.2.2.2.2.2.1 u.2.2.2.2.2.2.2.2.1 u.2.2.2.2.2.2.2.2.2) (fun u H => mW E q f_code a_tape a_size a_fault a_faultPlace a_many a_lands a_evenings a_sights a_choirs u.1 f_length u.2.1 u.2.2.1 u.2.2.2.1 u.2.2.2.2.1 u.2.2.2.2.2.1 u.2.2.2.2.2.2.1 u.2.2.2.2.2.2.2.1 a_told u.2.2.2.2.2.2.2.2.1 f_farHut f_farSinger u.2.2.2.2.2.2.2.2.2 f_land f_huts f_singers f_evening a_at a_knows a_climbed a_snow a_level f_begun f_minute f_avalanches a_run a_covers a_routes a_longest a_steep a_laid a_far f_sight a_runs f_choir f_voices a_rest a_wins f_seed a_other a_kept H) (mA q)) args s 0 0 (mA q)) (F0 m 0 ls []) := by
  have hx := zc.1
  have hb := zc.2.1
  refine lv_aload_n hx hb dX11_takeBut_0 rfl (lv_at hl 0 rfl) ?_
  refine mg_11_134_0 zc hK hM dX11_takeBut_1 ?_
  refine lv_iconst (v := (3 : Int32)) hx hb dX11_takeBut_4 (by decide) ?_
  refine lv_icmp_eq (tgt := 13) hx hb dX11_takeBut_5 (by decide) (fun hc => ?_) (fun hc => ?_)
  · have hw := hw.1 hc
    refine lv_aload_n hx hb dX11_takeBut_13 rfl (lv_at hl 0 rfl) ?_
    refine mg_11_41_0 zc hK hM dX11_takeBut_14 ?_
    refine lv_iload_n hx hb dX11_takeBut_17 rfl (lv_at hl 1 rfl) ?_
    refine lv_aload_n hx hb dX11_takeBut_18 rfl (lv_at hl 0 rfl) ?_
    refine mg_11_137_0 zc hK hM dX11_takeBut_19 ?_
    refine mst_11 zc hK hM hS hw.1 dX11_takeBut_22 (fun a_read_1 H locs ea_read_1 hM hS => ?_)
    have hw := hw.2 a_read_1 ea_read_1
    refine lv_aload_n hx hb dX11_takeBut_23 rfl (lv_at hl 0 rfl) ?_
    refine mg_11_137_0 zc hK hM dX11_takeBut_24 ?_
    refine lv_iload_n hx hb dX11_takeBut_27 rfl (lv_at hl 2 rfl) ?_
    refine lv_iload_n hx hb dX11_takeBut_28 rfl (lv_at hl 3 rfl) ?_
    refine zS_i [.int f_value, .int x2, .int x3] [] zc ky_X11_in kz_X11_in km_11_109 (c_m_in l hw) (zPre0 _) rfl rfl hl.1 (Nat.le_of_ble_eq_true rfl) ⟨rfl, rfl⟩ ⟨Nat.le_of_ble_eq_true rfl, Nat.le_of_ble_eq_true rfl⟩ ⟨(Nat.zero_le _), (Nat.zero_le _)⟩ dX11_takeBut_29 (fun r_1 hw => ?_)
    refine lv_if_eq (tgt := 44) hx hb dX11_takeBut_32 (by decide) (fun hc => ?_) (fun hc => ?_)
    · have hw := hw.1 hc
      exact t_m_takeBut_44 zc hK hM hS  (lv_sub hl [0] rfl) hw
    · have hw := hw.2 hc
      refine lv_aload_n hx hb dX11_takeBut_35 rfl (lv_at hl 0 rfl) ?_
      refine mg_11_137_0 zc hK hM dX11_takeBut_36 ?_
      refine lv_iload hx hb dX11_takeBut_39 (lv_at hl 4 rfl) ?_
      refine lv_icmp_ne (tgt := 58) hx hb dX11_takeBut_41 (by decide) (fun hc => ?_) (fun hc => ?_)
      · have hw := hw.1 hc
        exact t_m_takeBut_58 zc hK hM hS  (lv_sub hl [0] rfl) hw
      · have hw := hw.2 hc
        exact t_m_takeBut_44 zc hK hM hS  (lv_sub hl [0] rfl) hw
  · have hw := hw.2 hc
    refine lv_aload_n hx hb dX11_takeBut_8 rfl (lv_at hl 0 rfl) ?_
    refine zVw_i [] [] zc ky_X11_fails kz_X11_fails km_11_149 (c_m_fails l hw) (mPreV0 hK hM) hS rfl rfl hl.1 (Nat.le_of_ble_eq_true rfl) ⟨rfl, rfl⟩ ⟨Nat.le_of_ble_eq_true rfl, Nat.le_of_ble_eq_true rfl⟩ ⟨(Nat.zero_le _), (Nat.zero_le _)⟩ dX11_takeBut_9 (fun r_2 f_wrongAt_1 H locs hw hM hS => ?_)
    exact zret_zw ⟨f_reached, f_begins, f_sort, f_value, f_word, f_wrongAt_1, f_laterFault, f_laterPlace, a_read, f_good⟩ zc hS hw.1 hw.2 hM dX11_takeBut_12
set_option maxRecDepth 20000 in
theorem c_m_takeBut (l : Launch) {E : zE} {q : Nat} {f_code : Int32} {a_tape : Nat → Int32} {a_size : Nat → Int32} {a_fault : Nat → Int32} {a_faultPlace : Nat → Int32} {a_many : Nat → Int32} {a_lands : Nat → Int32} {a_evenings : Nat → Int32} {a_sights : Nat → Int32} {a_choirs : Nat → Int32} {f_reached : Int32} {f_length : Int32} {f_begins : Int32} {f_sort : Int32} {f_value : Int32} {f_word : Int64} {f_wrongAt : Int32} {f_laterFault : Int32} {f_laterPlace : Int32} {a_told : Nat → Int32} {a_read : Nat → Int32} {f_farHut : Int32} {f_farSinger : Int32} {f_good : Int32} {f_land : Int32} {f_huts : Int32} {f_singers : Int32} {f_evening : Int32} {a_at : Nat → Int32} {a_knows : Nat → Int32} {a_climbed : Nat → Int32} {a_snow : Nat → Int32} {a_level : Nat → Int32} {f_begun : Int32} {f_minute : Int32} {f_avalanches : Int32} {a_run : Nat → Int32} {a_covers : Nat → Int32} {a_routes : Nat → Int32} {a_longest : Nat → Int32} {a_steep : Nat → Int32} {a_laid : Nat → Int32} {a_far : Nat → Int32} {f_sight : Int32} {a_runs : Nat → Int32} {f_choir : Int32} {f_voices : Int32} {a_rest : Nat → Int64} {a_wins : Nat → Int32} {f_seed : Int32} {a_other : Nat → Int32} {a_kept : Nat → Int32} {x1 : Int32} {x2 : Int32} {x3 : Int32} {x4 : Int32} {post : Int32 → (Int32) → (Int32) → (Int32) → (Int32) → (Int64) → (Int32) → (Int32) → (Int32) → (Nat → Int32) → (Int32) → Prop} (hw : q_m_takeBut_0 a_tape f_reached f_length f_begins f_sort f_value f_word f_wrongAt f_laterFault f_laterPlace a_read f_good x1 x2 x3 x4 post) : Met l yX11_takeBut (Cond.code yX11_takeBut cX11_takeBut 5 (some .boolean) :: zb) rm_m_takeBut (va_Pc [.ref q, .int x1, .int x2, .int x3, .int x4] (fun U => mW E q f_code a_tape a_size a_fault a_faultPlace a_many a_lands a_evenings a_sights a_choirs f_reached f_length f_begins f_sort f_value f_word f_wrongAt f_laterFault f_laterPlace a_told a_read f_farHut f_farSinger f_good f_land f_huts f_singers f_evening a_at a_knows a_climbed a_snow a_level f_begun f_minute f_avalanches a_run a_covers a_routes a_longest a_steep a_laid a_far f_sight a_runs f_choir f_voices a_rest a_wins f_seed a_other a_kept U.heap ∧ zK E U)) (zQi (S := (Int32) × (Int32) × (Int32) × (Int32) × (Int64) × (Int32) × (Int32) × (Int32) × (Nat → Int32) × (Int32)) (fun r u => post r u.1 u.2.1 u.2.2.1 u.2.2.2.1 u.2.2.2.2.1 u.2.2.2.2.2.1 u.2.2.2.2.2.2.1 u.2.2.2.2.2.2.2.1 u.2.2.2.2.2.2.2.2.1 u.2.2.2.2.2.2.2.2.2) (fun u H => mW E q f_code a_tape a_size a_fault a_faultPlace a_many a_lands a_evenings a_sights a_choirs u.1 f_length u.2.1 u.2.2.1 u.2.2.2.1 u.2.2.2.2.1 u.2.2.2.2.2.1 u.2.2.2.2.2.2.1 u.2.2.2.2.2.2.2.1 a_told u.2.2.2.2.2.2.2.2.1 f_farHut f_farSinger u.2.2.2.2.2.2.2.2.2 f_land f_huts f_singers f_evening a_at a_knows a_climbed a_snow a_level f_begun f_minute f_avalanches a_run a_covers a_routes a_longest a_steep a_laid a_far f_sight a_runs f_choir f_voices a_rest a_wins f_seed a_other a_kept H) (mA q)) 0 0 (mA q) := by
  refine Met.ofW (cc := cX11_takeBut) (maxL := 5) (ret := (some .boolean)) (by decide) rfl ?_
  intro p e s m args below meth c s₁ B hml hv
  obtain ⟨rfl, hM, hK⟩ := hv
  have zc := zc_of B hml
  have hl := lv_entry ([.ref q, .int x1, .int x2, .int x3, .int x4]) (n := 5) (Nat.le_of_ble_eq_true rfl)
  rw [lg_entry_eq]
  generalize (lg_sl ([.ref q, .int x1, .int x2, .int x3, .int x4]) ++ List.replicate (5 - (lg_sl ([.ref q, .int x1, .int x2, .int x3, .int x4])).length) Slot.unset).toArray = ls at hl ⊢
  have hl : lv_has ls 5 [(0, .ref q), (1, .int x1), (2, .int x2), (3, .int x3), (4, .int x4)] := hl
  exact t_m_takeBut_0 zc hK hM va_S.rf (lv_sub hl [0, 1, 2, 3, 4] rfl) hw
-- m_take
abbrev rm_m_take : Room := { frames := 3, cells := 0, slots := 0, locals := 68 }
def q_m_take_0 (a_tape : Nat → Int32) (f_reached : Int32) (f_length : Int32) (f_begins : Int32) (f_sort : Int32) (f_value : Int32) (f_word : Int64) (f_wrongAt : Int32) (f_laterFault : Int32) (f_laterPlace : Int32) (a_read : Nat → Int32) (f_good : Int32) (x1 : Int32) (x2 : Int32) (x3 : Int32) (post : Int32 → (Int32) → (Int32) → (Int32) → (Int32) → (Int64) → (Int32) → (Int32) → (Int32) → (Nat → Int32) → (Int32) → Prop) : Prop :=
  q_m_takeBut_0 a_tape f_reached f_length f_begins f_sort f_value f_word f_wrongAt f_laterFault f_laterPlace a_read f_good x1 x2 x3 (-1 : Int32) (fun r_1 f_reached_1 f_begins_1 f_sort_1 f_value_1 f_word_1 f_wrongAt_1 f_laterFault_1 f_laterPlace_1 a_read_1 f_good_1 => narrow .boolean (.int r_1) = .int r_1 ∧ post r_1 f_reached_1 f_begins_1 f_sort_1 f_value_1 f_word_1 f_wrongAt_1 f_laterFault_1 f_laterPlace_1 a_read_1 f_good_1)
set_option maxRecDepth 20000 in
theorem t_m_take_0 {p : Program} {l : Launch} {e : Env} {s : State} {m : MethodId} {args : Array Value} {below : List Frame} {meth : Method} {c : Code} {E : zE} {q : Nat} {f_code : Int32} {a_tape : Nat → Int32} {a_size : Nat → Int32} {a_fault : Nat → Int32} {a_faultPlace : Nat → Int32} {a_many : Nat → Int32} {a_lands : Nat → Int32} {a_evenings : Nat → Int32} {a_sights : Nat → Int32} {a_choirs : Nat → Int32} {f_reached : Int32} {f_length : Int32} {f_begins : Int32} {f_sort : Int32} {f_value : Int32} {f_word : Int64} {f_wrongAt : Int32} {f_laterFault : Int32} {f_laterPlace : Int32} {a_told : Nat → Int32} {a_read : Nat → Int32} {f_farHut : Int32} {f_farSinger : Int32} {f_good : Int32} {f_land : Int32} {f_huts : Int32} {f_singers : Int32} {f_evening : Int32} {a_at : Nat → Int32} {a_knows : Nat → Int32} {a_climbed : Nat → Int32} {a_snow : Nat → Int32} {a_level : Nat → Int32} {f_begun : Int32} {f_minute : Int32} {f_avalanches : Int32} {a_run : Nat → Int32} {a_covers : Nat → Int32} {a_routes : Nat → Int32} {a_longest : Nat → Int32} {a_steep : Nat → Int32} {a_laid : Nat → Int32} {a_far : Nat → Int32} {f_sight : Int32} {a_runs : Nat → Int32} {f_choir : Int32} {f_voices : Int32} {a_rest : Nat → Int64} {a_wins : Nat → Int32} {f_seed : Int32} {a_other : Nat → Int32} {a_kept : Nat → Int32} {post : Int32 → (Int32) → (Int32) → (Int32) → (Int32) → (Int64) → (Int32) → (Int32) → (Int32) → (Nat → Int32) → (Int32) → Prop} {x1 : Int32} {x2 : Int32} {x3 : Int32} {ls : Array Slot} {H : Heap} {locs : List Loc}
    (zc : zC p s m args meth c cX11_take 4 RX11 (some .boolean))
    (hK : zK E s)
    (hM : mW E q f_code a_tape a_size a_fault a_faultPlace a_many a_lands a_evenings a_sights a_choirs f_reached f_length f_begins f_sort f_value f_word f_wrongAt f_laterFault f_laterPlace a_told a_read f_farHut f_farSinger f_good f_land f_huts f_singers f_evening a_at a_knows a_climbed a_snow a_level f_begun f_minute f_avalanches a_run a_covers a_routes a_longest a_steep a_laid a_far f_sight a_runs f_choir f_voices a_rest a_wins f_seed a_other a_kept H)
    (hS : va_S (mA q) s.heap H locs)
    (hl : lv_has ls 4 [(0, .ref q), (1, .int x1), (2, .int x2), (3, .int x3)])
    (hw : q_m_take_0 a_tape f_reached f_length f_begins f_sort f_value f_word f_wrongAt f_laterFault f_laterPlace a_read f_good x1 x2 x3 post) :
    W p l e rm_m_take s m args below meth c H locs 0 0 (MQ below (zQi (S := (Int32) × (Int32) × (Int32) × (Int32) × (Int64) × (Int32) × (Int32) × (Int32) × (Nat → Int32) × (Int32)) (fun r u => post r u.1 u.2.1 u.2.2.1 u.2.2.2.1 u.2.2.2.2.1 u.2.2.2.2.2.1 u.2.2.2.2.2.2.1 u.2.2.2.2.2.2.2.1 u.2.2.2.2.2.2.2.2.1 u.2.2.2.2.2.2.2.2.2) (fun u H => mW E q f_code a_tape a_size a_fault a_faultPlace a_many a_lands a_evenings a_sights a_choirs u.1 f_length u.2.1 u.2.2.1 u.2.2.2.1 u.2.2.2.2.1 u.2.2.2.2.2.1 u.2.2.2.2.2.2.1 u.2.2.2.2.2.2.2.1 a_told u.2.2.2.2.2.2.2.2.1 f_farHut f_farSinger u.2.2.2.2.2.2.2.2.2 f_land f_huts f_singers f_evening a_at a_knows a_climbed a_snow a_level f_begun f_minute f_avalanches a_run a_covers a_routes a_longest a_steep a_laid a_far f_sight a_runs f_choir f_voices a_rest a_wins f_seed a_other a_kept H) (mA q)) args s 0 0 (mA q)) (F0 m 0 ls []) := by
  have hx := zc.1
  have hb := zc.2.1
  refine lv_aload_n hx hb dX11_take_0 rfl (lv_at hl 0 rfl) ?_
  refine lv_iload_n hx hb dX11_take_1 rfl (lv_at hl 1 rfl) ?_
  refine lv_iload_n hx hb dX11_take_2 rfl (lv_at hl 2 rfl) ?_
  refine lv_iload_n hx hb dX11_take_3 rfl (lv_at hl 3 rfl) ?_
  refine lv_iconst (v := (-1 : Int32)) hx hb dX11_take_4 (by decide) ?_
  refine zVw_i [.int x1, .int x2, .int x3, .int (-1 : Int32)] [] zc ky_X11_takeBut kz_X11_takeBut km_11_164 (c_m_takeBut l hw) (mPreV0 hK hM) hS rfl rfl hl.1 (Nat.le_of_ble_eq_true rfl) ⟨rfl, rfl⟩ ⟨Nat.le_of_ble_eq_true rfl, Nat.le_of_ble_eq_true rfl⟩ ⟨(Nat.zero_le _), (Nat.zero_le _)⟩ dX11_take_5 (fun r_1 u H locs hw hM hS => ?_)
  obtain ⟨f_reached_1, f_begins_1, f_sort_1, f_value_1, f_word_1, f_wrongAt_1, f_laterFault_1, f_laterPlace_1, a_read_1, f_good_1⟩ := u
  exact zret_zw ⟨f_reached_1, f_begins_1, f_sort_1, f_value_1, f_word_1, f_wrongAt_1, f_laterFault_1, f_laterPlace_1, a_read_1, f_good_1⟩ zc hS hw.1 hw.2 hM dX11_take_8
set_option maxRecDepth 20000 in
theorem c_m_take (l : Launch) {E : zE} {q : Nat} {f_code : Int32} {a_tape : Nat → Int32} {a_size : Nat → Int32} {a_fault : Nat → Int32} {a_faultPlace : Nat → Int32} {a_many : Nat → Int32} {a_lands : Nat → Int32} {a_evenings : Nat → Int32} {a_sights : Nat → Int32} {a_choirs : Nat → Int32} {f_reached : Int32} {f_length : Int32} {f_begins : Int32} {f_sort : Int32} {f_value : Int32} {f_word : Int64} {f_wrongAt : Int32} {f_laterFault : Int32} {f_laterPlace : Int32} {a_told : Nat → Int32} {a_read : Nat → Int32} {f_farHut : Int32} {f_farSinger : Int32} {f_good : Int32} {f_land : Int32} {f_huts : Int32} {f_singers : Int32} {f_evening : Int32} {a_at : Nat → Int32} {a_knows : Nat → Int32} {a_climbed : Nat → Int32} {a_snow : Nat → Int32} {a_level : Nat → Int32} {f_begun : Int32} {f_minute : Int32} {f_avalanches : Int32} {a_run : Nat → Int32} {a_covers : Nat → Int32} {a_routes : Nat → Int32} {a_longest : Nat → Int32} {a_steep : Nat → Int32} {a_laid : Nat → Int32} {a_far : Nat → Int32} {f_sight : Int32} {a_runs : Nat → Int32} {f_choir : Int32} {f_voices : Int32} {a_rest : Nat → Int64} {a_wins : Nat → Int32} {f_seed : Int32} {a_other : Nat → Int32} {a_kept : Nat → Int32} {x1 : Int32} {x2 : Int32} {x3 : Int32} {post : Int32 → (Int32) → (Int32) → (Int32) → (Int32) → (Int64) → (Int32) → (Int32) → (Int32) → (Nat → Int32) → (Int32) → Prop} (hw : q_m_take_0 a_tape f_reached f_length f_begins f_sort f_value f_word f_wrongAt f_laterFault f_laterPlace a_read f_good x1 x2 x3 post) : Met l yX11_take (Cond.code yX11_take cX11_take 4 (some .boolean) :: zb) rm_m_take (va_Pc [.ref q, .int x1, .int x2, .int x3] (fun U => mW E q f_code a_tape a_size a_fault a_faultPlace a_many a_lands a_evenings a_sights a_choirs f_reached f_length f_begins f_sort f_value f_word f_wrongAt f_laterFault f_laterPlace a_told a_read f_farHut f_farSinger f_good f_land f_huts f_singers f_evening a_at a_knows a_climbed a_snow a_level f_begun f_minute f_avalanches a_run a_covers a_routes a_longest a_steep a_laid a_far f_sight a_runs f_choir f_voices a_rest a_wins f_seed a_other a_kept U.heap ∧ zK E U)) (zQi (S := (Int32) × (Int32) × (Int32) × (Int32) × (Int64) × (Int32) × (Int32) × (Int32) × (Nat → Int32) × (Int32)) (fun r u => post r u.1 u.2.1 u.2.2.1 u.2.2.2.1 u.2.2.2.2.1 u.2.2.2.2.2.1 u.2.2.2.2.2.2.1 u.2.2.2.2.2.2.2.1 u.2.2.2.2.2.2.2.2.1 u.2.2.2.2.2.2.2.2.2) (fun u H => mW E q f_code a_tape a_size a_fault a_faultPlace a_many a_lands a_evenings a_sights a_choirs u.1 f_length u.2.1 u.2.2.1 u.2.2.2.1 u.2.2.2.2.1 u.2.2.2.2.2.1 u.2.2.2.2.2.2.1 u.2.2.2.2.2.2.2.1 a_told u.2.2.2.2.2.2.2.2.1 f_farHut f_farSinger u.2.2.2.2.2.2.2.2.2 f_land f_huts f_singers f_evening a_at a_knows a_climbed a_snow a_level f_begun f_minute f_avalanches a_run a_covers a_routes a_longest a_steep a_laid a_far f_sight a_runs f_choir f_voices a_rest a_wins f_seed a_other a_kept H) (mA q)) 0 0 (mA q) := by
  refine Met.ofW (cc := cX11_take) (maxL := 4) (ret := (some .boolean)) (by decide) rfl ?_
  intro p e s m args below meth c s₁ B hml hv
  obtain ⟨rfl, hM, hK⟩ := hv
  have zc := zc_of B hml
  have hl := lv_entry ([.ref q, .int x1, .int x2, .int x3]) (n := 4) (Nat.le_of_ble_eq_true rfl)
  rw [lg_entry_eq]
  generalize (lg_sl ([.ref q, .int x1, .int x2, .int x3]) ++ List.replicate (4 - (lg_sl ([.ref q, .int x1, .int x2, .int x3])).length) Slot.unset).toArray = ls at hl ⊢
  have hl : lv_has ls 4 [(0, .ref q), (1, .int x1), (2, .int x2), (3, .int x3)] := hl
  exact t_m_take_0 zc hK hM va_S.rf (lv_sub hl [0, 1, 2, 3] rfl) hw
-- m_takeHut
abbrev rm_m_takeHut : Room := { frames := 3, cells := 0, slots := 0, locals := 68 }
def q_m_takeHut_0 (a_tape : Nat → Int32) (f_reached : Int32) (f_length : Int32) (f_begins : Int32) (f_sort : Int32) (f_value : Int32) (f_word : Int64) (f_wrongAt : Int32) (f_laterFault : Int32) (f_laterPlace : Int32) (a_read : Nat → Int32) (f_farHut : Int32) (f_good : Int32) (x1 : Int32) (x2 : Int32) (post : Int32 → (Int32) → (Int32) → (Int32) → (Int32) → (Int64) → (Int32) → (Int32) → (Int32) → (Nat → Int32) → (Int32) → (Int32) → Prop) : Prop :=
  q_m_takeBut_0 a_tape f_reached f_length f_begins f_sort f_value f_word f_wrongAt f_laterFault f_laterPlace a_read f_good x1 (0 : Int32) (8 : Int32) x2 (fun r_1 f_reached_1 f_begins_1 f_sort_1 f_value_1 f_word_1 f_wrongAt_1 f_laterFault_1 f_laterPlace_1 a_read_1 f_good_1 => (¬ r_1 = 0 → (vp_in x1 3 ∧ (q_m_greater_0 f_farHut (a_read_1 (Int32.toNatClampNeg x1)) (fun r_2 => post (1 : Int32) f_reached_1 f_begins_1 f_sort_1 f_value_1 f_word_1 f_wrongAt_1 f_laterFault_1 f_laterPlace_1 a_read_1 r_2 f_good_1)))) ∧ (r_1 = 0 → (post (0 : Int32) f_reached_1 f_begins_1 f_sort_1 f_value_1 f_word_1 f_wrongAt_1 f_laterFault_1 f_laterPlace_1 a_read_1 f_farHut f_good_1)))
set_option maxRecDepth 20000 in
theorem t_m_takeHut_0 {p : Program} {l : Launch} {e : Env} {s : State} {m : MethodId} {args : Array Value} {below : List Frame} {meth : Method} {c : Code} {E : zE} {q : Nat} {f_code : Int32} {a_tape : Nat → Int32} {a_size : Nat → Int32} {a_fault : Nat → Int32} {a_faultPlace : Nat → Int32} {a_many : Nat → Int32} {a_lands : Nat → Int32} {a_evenings : Nat → Int32} {a_sights : Nat → Int32} {a_choirs : Nat → Int32} {f_reached : Int32} {f_length : Int32} {f_begins : Int32} {f_sort : Int32} {f_value : Int32} {f_word : Int64} {f_wrongAt : Int32} {f_laterFault : Int32} {f_laterPlace : Int32} {a_told : Nat → Int32} {a_read : Nat → Int32} {f_farHut : Int32} {f_farSinger : Int32} {f_good : Int32} {f_land : Int32} {f_huts : Int32} {f_singers : Int32} {f_evening : Int32} {a_at : Nat → Int32} {a_knows : Nat → Int32} {a_climbed : Nat → Int32} {a_snow : Nat → Int32} {a_level : Nat → Int32} {f_begun : Int32} {f_minute : Int32} {f_avalanches : Int32} {a_run : Nat → Int32} {a_covers : Nat → Int32} {a_routes : Nat → Int32} {a_longest : Nat → Int32} {a_steep : Nat → Int32} {a_laid : Nat → Int32} {a_far : Nat → Int32} {f_sight : Int32} {a_runs : Nat → Int32} {f_choir : Int32} {f_voices : Int32} {a_rest : Nat → Int64} {a_wins : Nat → Int32} {f_seed : Int32} {a_other : Nat → Int32} {a_kept : Nat → Int32} {post : Int32 → (Int32) → (Int32) → (Int32) → (Int32) → (Int64) → (Int32) → (Int32) → (Int32) → (Nat → Int32) → (Int32) → (Int32) → Prop} {x1 : Int32} {x2 : Int32} {ls : Array Slot} {H : Heap} {locs : List Loc}
    (zc : zC p s m args meth c cX11_takeHut 3 RX11 (some .boolean))
    (hK : zK E s)
    (hM : mW E q f_code a_tape a_size a_fault a_faultPlace a_many a_lands a_evenings a_sights a_choirs f_reached f_length f_begins f_sort f_value f_word f_wrongAt f_laterFault f_laterPlace a_told a_read f_farHut f_farSinger f_good f_land f_huts f_singers f_evening a_at a_knows a_climbed a_snow a_level f_begun f_minute f_avalanches a_run a_covers a_routes a_longest a_steep a_laid a_far f_sight a_runs f_choir f_voices a_rest a_wins f_seed a_other a_kept H)
    (hS : va_S (mA q) s.heap H locs)
    (hl : lv_has ls 3 [(0, .ref q), (1, .int x1), (2, .int x2)])
    (hw : q_m_takeHut_0 a_tape f_reached f_length f_begins f_sort f_value f_word f_wrongAt f_laterFault f_laterPlace a_read f_farHut f_good x1 x2 post) :
    W p l e rm_m_takeHut s m args below meth c H locs 0 0 (MQ below (zQi (S := (Int32) × (Int32) × (Int32) × (Int32) × (Int64) × (Int32) × (Int32) × (Int32) × (Nat → Int32) × (Int32) × (Int32)) (fun r u => post r u.1 u.2.1 u.2.2.1 u.2.2.2.1 u.2.2.2.2.1 u.2.2.2.2.2.1 u.2.2.2.2.2.2.1 u.2.2.2.2.2.2.2.1 u.2.2.2.2.2.2.2.2.1 u.2.2.2.2.2.2.2.2.2.1 u.2.2.2.2.2.2.2.2.2.2) (fun u H => mW E q f_code a_tape a_size a_fault a_faultPlace a_many a_lands a_evenings a_sights a_choirs u.1 f_length u.2.1 u.2.2.1 u.2.2.2.1 u.2.2.2.2.1 u.2.2.2.2.2.1 u.2.2.2.2.2.2.1 u.2.2.2.2.2.2.2.1 a_told u.2.2.2.2.2.2.2.2.1 u.2.2.2.2.2.2.2.2.2.1 f_farSinger u.2.2.2.2.2.2.2.2.2.2 f_land f_huts f_singers f_evening a_at a_knows a_climbed a_snow a_level f_begun f_minute f_avalanches a_run a_covers a_routes a_longest a_steep a_laid a_far f_sight a_runs f_choir f_voices a_rest a_wins f_seed a_other a_kept H) (mA q)) args s 0 0 (mA q)) (F0 m 0 ls []) := by
  have hx := zc.1
  have hb := zc.2.1
  refine lv_aload_n hx hb dX11_takeHut_0 rfl (lv_at hl 0 rfl) ?_
  refine lv_iload_n hx hb dX11_takeHut_1 rfl (lv_at hl 1 rfl) ?_
  refine lv_iconst (v := (0 : Int32)) hx hb dX11_takeHut_2 (by decide) ?_
  refine lv_bipush (v := (8 : Int32)) hx hb dX11_takeHut_3 (by decide) ?_
  refine lv_iload_n hx hb dX11_takeHut_5 rfl (lv_at hl 2 rfl) ?_
  refine zVw_i [.int x1, .int (0 : Int32), .int (8 : Int32), .int x2] [] zc ky_X11_takeBut kz_X11_takeBut km_11_164 (c_m_takeBut l hw) (mPreV0 hK hM) hS rfl rfl hl.1 (Nat.le_of_ble_eq_true rfl) ⟨rfl, rfl⟩ ⟨Nat.le_of_ble_eq_true rfl, Nat.le_of_ble_eq_true rfl⟩ ⟨(Nat.zero_le _), (Nat.zero_le _)⟩ dX11_takeHut_6 (fun r_1 u H locs hw hM hS => ?_)
  obtain ⟨f_reached_1, f_begins_1, f_sort_1, f_value_1, f_word_1, f_wrongAt_1, f_laterFault_1, f_laterPlace_1, a_read_1, f_good_1⟩ := u
  refine lv_if_ne (tgt := 14) hx hb dX11_takeHut_9 (by decide) (fun hc => ?_) (fun hc => ?_)
  · have hw := hw.1 hc
    refine lv_aload_n hx hb dX11_takeHut_14 rfl (lv_at hl 0 rfl) ?_
    refine lv_aload_n hx hb dX11_takeHut_15 rfl (lv_at hl 0 rfl) ?_
    refine mg_11_168_0 zc hK hM dX11_takeHut_16 ?_
    refine lv_aload_n hx hb dX11_takeHut_19 rfl (lv_at hl 0 rfl) ?_
    refine mg_11_41_0 zc hK hM dX11_takeHut_20 ?_
    refine lv_iload_n hx hb dX11_takeHut_23 rfl (lv_at hl 1 rfl) ?_
    refine mld_11 zc hK hM hw.1 dX11_takeHut_24 ?_
    have hw := hw.2
    refine zS_i [.int f_farHut, .int (a_read_1 (Int32.toNatClampNeg x1))] [.ref q] zc ky_X11_greater kz_X11_greater km_11_171 (c_m_greater l hw) (zPre0 _) rfl rfl hl.1 (Nat.le_of_ble_eq_true rfl) ⟨rfl, rfl⟩ ⟨Nat.le_of_ble_eq_true rfl, Nat.le_of_ble_eq_true rfl⟩ ⟨(Nat.zero_le _), (Nat.zero_le _)⟩ dX11_takeHut_25 (fun r_2 hw => ?_)
    refine mp_11_168_0 zc hK hM hS dX11_takeHut_28 (fun H locs hM hS => ?_)
    refine lv_iconst (v := (1 : Int32)) hx hb dX11_takeHut_31 (by decide) ?_
    exact zret_zw ⟨f_reached_1, f_begins_1, f_sort_1, f_value_1, f_word_1, f_wrongAt_1, f_laterFault_1, f_laterPlace_1, a_read_1, r_2, f_good_1⟩ zc hS rfl hw hM dX11_takeHut_32
  · have hw := hw.2 hc
    refine lv_iconst (v := (0 : Int32)) hx hb dX11_takeHut_12 (by decide) ?_
    exact zret_zw ⟨f_reached_1, f_begins_1, f_sort_1, f_value_1, f_word_1, f_wrongAt_1, f_laterFault_1, f_laterPlace_1, a_read_1, f_farHut, f_good_1⟩ zc hS rfl hw hM dX11_takeHut_13
set_option maxRecDepth 20000 in
theorem c_m_takeHut (l : Launch) {E : zE} {q : Nat} {f_code : Int32} {a_tape : Nat → Int32} {a_size : Nat → Int32} {a_fault : Nat → Int32} {a_faultPlace : Nat → Int32} {a_many : Nat → Int32} {a_lands : Nat → Int32} {a_evenings : Nat → Int32} {a_sights : Nat → Int32} {a_choirs : Nat → Int32} {f_reached : Int32} {f_length : Int32} {f_begins : Int32} {f_sort : Int32} {f_value : Int32} {f_word : Int64} {f_wrongAt : Int32} {f_laterFault : Int32} {f_laterPlace : Int32} {a_told : Nat → Int32} {a_read : Nat → Int32} {f_farHut : Int32} {f_farSinger : Int32} {f_good : Int32} {f_land : Int32} {f_huts : Int32} {f_singers : Int32} {f_evening : Int32} {a_at : Nat → Int32} {a_knows : Nat → Int32} {a_climbed : Nat → Int32} {a_snow : Nat → Int32} {a_level : Nat → Int32} {f_begun : Int32} {f_minute : Int32} {f_avalanches : Int32} {a_run : Nat → Int32} {a_covers : Nat → Int32} {a_routes : Nat → Int32} {a_longest : Nat → Int32} {a_steep : Nat → Int32} {a_laid : Nat → Int32} {a_far : Nat → Int32} {f_sight : Int32} {a_runs : Nat → Int32} {f_choir : Int32} {f_voices : Int32} {a_rest : Nat → Int64} {a_wins : Nat → Int32} {f_seed : Int32} {a_other : Nat → Int32} {a_kept : Nat → Int32} {x1 : Int32} {x2 : Int32} {post : Int32 → (Int32) → (Int32) → (Int32) → (Int32) → (Int64) → (Int32) → (Int32) → (Int32) → (Nat → Int32) → (Int32) → (Int32) → Prop} (hw : q_m_takeHut_0 a_tape f_reached f_length f_begins f_sort f_value f_word f_wrongAt f_laterFault f_laterPlace a_read f_farHut f_good x1 x2 post) : Met l yX11_takeHut (Cond.code yX11_takeHut cX11_takeHut 3 (some .boolean) :: zb) rm_m_takeHut (va_Pc [.ref q, .int x1, .int x2] (fun U => mW E q f_code a_tape a_size a_fault a_faultPlace a_many a_lands a_evenings a_sights a_choirs f_reached f_length f_begins f_sort f_value f_word f_wrongAt f_laterFault f_laterPlace a_told a_read f_farHut f_farSinger f_good f_land f_huts f_singers f_evening a_at a_knows a_climbed a_snow a_level f_begun f_minute f_avalanches a_run a_covers a_routes a_longest a_steep a_laid a_far f_sight a_runs f_choir f_voices a_rest a_wins f_seed a_other a_kept U.heap ∧ zK E U)) (zQi (S := (Int32) × (Int32) × (Int32) × (Int32) × (Int64) × (Int32) × (Int32) × (Int32) × (Nat → Int32) × (Int32) × (Int32)) (fun r u => post r u.1 u.2.1 u.2.2.1 u.2.2.2.1 u.2.2.2.2.1 u.2.2.2.2.2.1 u.2.2.2.2.2.2.1 u.2.2.2.2.2.2.2.1 u.2.2.2.2.2.2.2.2.1 u.2.2.2.2.2.2.2.2.2.1 u.2.2.2.2.2.2.2.2.2.2) (fun u H => mW E q f_code a_tape a_size a_fault a_faultPlace a_many a_lands a_evenings a_sights a_choirs u.1 f_length u.2.1 u.2.2.1 u.2.2.2.1 u.2.2.2.2.1 u.2.2.2.2.2.1 u.2.2.2.2.2.2.1 u.2.2.2.2.2.2.2.1 a_told u.2.2.2.2.2.2.2.2.1 u.2.2.2.2.2.2.2.2.2.1 f_farSinger u.2.2.2.2.2.2.2.2.2.2 f_land f_huts f_singers f_evening a_at a_knows a_climbed a_snow a_level f_begun f_minute f_avalanches a_run a_covers a_routes a_longest a_steep a_laid a_far f_sight a_runs f_choir f_voices a_rest a_wins f_seed a_other a_kept H) (mA q)) 0 0 (mA q) := by
  refine Met.ofW (cc := cX11_takeHut) (maxL := 3) (ret := (some .boolean)) (by decide) rfl ?_
  intro p e s m args below meth c s₁ B hml hv
  obtain ⟨rfl, hM, hK⟩ := hv
  have zc := zc_of B hml
  have hl := lv_entry ([.ref q, .int x1, .int x2]) (n := 3) (Nat.le_of_ble_eq_true rfl)
  rw [lg_entry_eq]
  generalize (lg_sl ([.ref q, .int x1, .int x2]) ++ List.replicate (3 - (lg_sl ([.ref q, .int x1, .int x2])).length) Slot.unset).toArray = ls at hl ⊢
  have hl : lv_has ls 3 [(0, .ref q), (1, .int x1), (2, .int x2)] := hl
  exact t_m_takeHut_0 zc hK hM va_S.rf (lv_sub hl [0, 1, 2] rfl) hw
-- m_full
abbrev rm_m_full : Room := { frames := 1, cells := 0, slots := 0, locals := 22 }
def q_m_full_0 (f_laterFault : Int32) (f_laterPlace : Int32) (a_told : Nat → Int32) (x1 : Int32) (x2 : Int32) (x3 : Int32) (post : (Int32) → (Int32) → Prop) : Prop :=
  vp_in x1 132 ∧ ((¬ (a_told (Int32.toNatClampNeg x1)) = x2 → (post f_laterFault f_laterPlace)) ∧ ((a_told (Int32.toNatClampNeg x1)) = x2 → (q_m_later_0 f_laterFault f_laterPlace (3 : Int32) x3 (fun f_laterFault_1 f_laterPlace_1 => post f_laterFault_1 f_laterPlace_1))))
set_option maxRecDepth 20000 in
theorem t_m_full_0 {p : Program} {l : Launch} {e : Env} {s : State} {m : MethodId} {args : Array Value} {below : List Frame} {meth : Method} {c : Code} {E : zE} {q : Nat} {f_code : Int32} {a_tape : Nat → Int32} {a_size : Nat → Int32} {a_fault : Nat → Int32} {a_faultPlace : Nat → Int32} {a_many : Nat → Int32} {a_lands : Nat → Int32} {a_evenings : Nat → Int32} {a_sights : Nat → Int32} {a_choirs : Nat → Int32} {f_reached : Int32} {f_length : Int32} {f_begins : Int32} {f_sort : Int32} {f_value : Int32} {f_word : Int64} {f_wrongAt : Int32} {f_laterFault : Int32} {f_laterPlace : Int32} {a_told : Nat → Int32} {a_read : Nat → Int32} {f_farHut : Int32} {f_farSinger : Int32} {f_good : Int32} {f_land : Int32} {f_huts : Int32} {f_singers : Int32} {f_evening : Int32} {a_at : Nat → Int32} {a_knows : Nat → Int32} {a_climbed : Nat → Int32} {a_snow : Nat → Int32} {a_level : Nat → Int32} {f_begun : Int32} {f_minute : Int32} {f_avalanches : Int32} {a_run : Nat → Int32} {a_covers : Nat → Int32} {a_routes : Nat → Int32} {a_longest : Nat → Int32} {a_steep : Nat → Int32} {a_laid : Nat → Int32} {a_far : Nat → Int32} {f_sight : Int32} {a_runs : Nat → Int32} {f_choir : Int32} {f_voices : Int32} {a_rest : Nat → Int64} {a_wins : Nat → Int32} {f_seed : Int32} {a_other : Nat → Int32} {a_kept : Nat → Int32} {post : (Int32) → (Int32) → Prop} {x1 : Int32} {x2 : Int32} {x3 : Int32} {ls : Array Slot} {H : Heap} {locs : List Loc}
    (zc : zC p s m args meth c cX11_full 4 RX11 none)
    (hK : zK E s)
    (hM : mW E q f_code a_tape a_size a_fault a_faultPlace a_many a_lands a_evenings a_sights a_choirs f_reached f_length f_begins f_sort f_value f_word f_wrongAt f_laterFault f_laterPlace a_told a_read f_farHut f_farSinger f_good f_land f_huts f_singers f_evening a_at a_knows a_climbed a_snow a_level f_begun f_minute f_avalanches a_run a_covers a_routes a_longest a_steep a_laid a_far f_sight a_runs f_choir f_voices a_rest a_wins f_seed a_other a_kept H)
    (hS : va_S (mA q) s.heap H locs)
    (hl : lv_has ls 4 [(0, .ref q), (1, .int x1), (2, .int x2), (3, .int x3)])
    (hw : q_m_full_0 f_laterFault f_laterPlace a_told x1 x2 x3 post) :
    W p l e rm_m_full s m args below meth c H locs 0 0 (MQ below (zQv (S := (Int32) × (Int32)) (fun u => post u.1 u.2) (fun u H => mW E q f_code a_tape a_size a_fault a_faultPlace a_many a_lands a_evenings a_sights a_choirs f_reached f_length f_begins f_sort f_value f_word f_wrongAt u.1 u.2 a_told a_read f_farHut f_farSinger f_good f_land f_huts f_singers f_evening a_at a_knows a_climbed a_snow a_level f_begun f_minute f_avalanches a_run a_covers a_routes a_longest a_steep a_laid a_far f_sight a_runs f_choir f_voices a_rest a_wins f_seed a_other a_kept H) (mA q)) args s 0 0 (mA q)) (F0 m 0 ls []) := by
  have hx := zc.1
  have hb := zc.2.1
  refine lv_aload_n hx hb dX11_full_0 rfl (lv_at hl 0 rfl) ?_
  refine mg_11_38_0 zc hK hM dX11_full_1 ?_
  refine lv_iload_n hx hb dX11_full_4 rfl (lv_at hl 1 rfl) ?_
  refine mld_10 zc hK hM hw.1 dX11_full_5 ?_
  have hw := hw.2
  refine lv_iload_n hx hb dX11_full_6 rfl (lv_at hl 2 rfl) ?_
  refine lv_icmp_ne (tgt := 16) hx hb dX11_full_7 (by decide) (fun hc => ?_) (fun hc => ?_)
  · have hw := hw.1 hc
    exact zret_vw ⟨f_laterFault, f_laterPlace⟩ zc hS hw hM dX11_full_16
  · have hw := hw.2 hc
    refine lv_aload_n hx hb dX11_full_10 rfl (lv_at hl 0 rfl) ?_
    refine lv_iconst (v := (3 : Int32)) hx hb dX11_full_11 (by decide) ?_
    refine lv_iload_n hx hb dX11_full_12 rfl (lv_at hl 3 rfl) ?_
    refine zVw_v [.int (3 : Int32), .int x3] [] zc ky_X11_later kz_X11_later km_11_153 (c_m_later l hw) (mPreV0 hK hM) hS rfl rfl hl.1 (Nat.le_of_ble_eq_true rfl) ⟨rfl, rfl⟩ ⟨Nat.le_of_ble_eq_true rfl, Nat.le_of_ble_eq_true rfl⟩ ⟨(Nat.zero_le _), (Nat.zero_le _)⟩ dX11_full_13 (fun u H locs hw hM hS => ?_)
    obtain ⟨f_laterFault_1, f_laterPlace_1⟩ := u
    exact zret_vw ⟨f_laterFault_1, f_laterPlace_1⟩ zc hS hw hM dX11_full_16
set_option maxRecDepth 20000 in
theorem c_m_full (l : Launch) {E : zE} {q : Nat} {f_code : Int32} {a_tape : Nat → Int32} {a_size : Nat → Int32} {a_fault : Nat → Int32} {a_faultPlace : Nat → Int32} {a_many : Nat → Int32} {a_lands : Nat → Int32} {a_evenings : Nat → Int32} {a_sights : Nat → Int32} {a_choirs : Nat → Int32} {f_reached : Int32} {f_length : Int32} {f_begins : Int32} {f_sort : Int32} {f_value : Int32} {f_word : Int64} {f_wrongAt : Int32} {f_laterFault : Int32} {f_laterPlace : Int32} {a_told : Nat → Int32} {a_read : Nat → Int32} {f_farHut : Int32} {f_farSinger : Int32} {f_good : Int32} {f_land : Int32} {f_huts : Int32} {f_singers : Int32} {f_evening : Int32} {a_at : Nat → Int32} {a_knows : Nat → Int32} {a_climbed : Nat → Int32} {a_snow : Nat → Int32} {a_level : Nat → Int32} {f_begun : Int32} {f_minute : Int32} {f_avalanches : Int32} {a_run : Nat → Int32} {a_covers : Nat → Int32} {a_routes : Nat → Int32} {a_longest : Nat → Int32} {a_steep : Nat → Int32} {a_laid : Nat → Int32} {a_far : Nat → Int32} {f_sight : Int32} {a_runs : Nat → Int32} {f_choir : Int32} {f_voices : Int32} {a_rest : Nat → Int64} {a_wins : Nat → Int32} {f_seed : Int32} {a_other : Nat → Int32} {a_kept : Nat → Int32} {x1 : Int32} {x2 : Int32} {x3 : Int32} {post : (Int32) → (Int32) → Prop} (hw : q_m_full_0 f_laterFault f_laterPlace a_told x1 x2 x3 post) : Met l yX11_full (Cond.code yX11_full cX11_full 4 none :: zb) rm_m_full (va_Pc [.ref q, .int x1, .int x2, .int x3] (fun U => mW E q f_code a_tape a_size a_fault a_faultPlace a_many a_lands a_evenings a_sights a_choirs f_reached f_length f_begins f_sort f_value f_word f_wrongAt f_laterFault f_laterPlace a_told a_read f_farHut f_farSinger f_good f_land f_huts f_singers f_evening a_at a_knows a_climbed a_snow a_level f_begun f_minute f_avalanches a_run a_covers a_routes a_longest a_steep a_laid a_far f_sight a_runs f_choir f_voices a_rest a_wins f_seed a_other a_kept U.heap ∧ zK E U)) (zQv (S := (Int32) × (Int32)) (fun u => post u.1 u.2) (fun u H => mW E q f_code a_tape a_size a_fault a_faultPlace a_many a_lands a_evenings a_sights a_choirs f_reached f_length f_begins f_sort f_value f_word f_wrongAt u.1 u.2 a_told a_read f_farHut f_farSinger f_good f_land f_huts f_singers f_evening a_at a_knows a_climbed a_snow a_level f_begun f_minute f_avalanches a_run a_covers a_routes a_longest a_steep a_laid a_far f_sight a_runs f_choir f_voices a_rest a_wins f_seed a_other a_kept H) (mA q)) 0 0 (mA q) := by
  refine Met.ofW (cc := cX11_full) (maxL := 4) (ret := none) (by decide) rfl ?_
  intro p e s m args below meth c s₁ B hml hv
  obtain ⟨rfl, hM, hK⟩ := hv
  have zc := zc_of B hml
  have hl := lv_entry ([.ref q, .int x1, .int x2, .int x3]) (n := 4) (Nat.le_of_ble_eq_true rfl)
  rw [lg_entry_eq]
  generalize (lg_sl ([.ref q, .int x1, .int x2, .int x3]) ++ List.replicate (4 - (lg_sl ([.ref q, .int x1, .int x2, .int x3])).length) Slot.unset).toArray = ls at hl ⊢
  have hl : lv_has ls 4 [(0, .ref q), (1, .int x1), (2, .int x2), (3, .int x3)] := hl
  exact t_m_full_0 zc hK hM va_S.rf (lv_sub hl [0, 1, 2, 3] rfl) hw
-- m_further
abbrev rm_m_further : Room := { frames := 0, cells := 0, slots := 0, locals := 0 }
def q_m_further_0 (a_told : Nat → Int32) (x1 : Int32) (x2 : Int32) (post : Int32 → (Nat → Int32) → Prop) : Prop :=
  vp_in x1 132 ∧ (∀ v_1 : Int32, v_1 = (a_told (Int32.toNatClampNeg x1)) → ((¬ v_1 = x2 → (vp_in x1 132 ∧ (∀ v_2 : Int32, v_2 = ((a_told (Int32.toNatClampNeg x1)) + (1 : Int32)) → (vp_in x1 132 ∧ (∀ a_told_1 : Nat → Int32, a_told_1 = upd a_told (Int32.toNatClampNeg x1) v_2 → (post v_1 a_told_1)))))) ∧ (v_1 = x2 → (post (-1 : Int32) a_told))))
set_option maxRecDepth 20000 in
theorem t_m_further_0 {p : Program} {l : Launch} {e : Env} {s : State} {m : MethodId} {args : Array Value} {below : List Frame} {meth : Method} {c : Code} {E : zE} {q : Nat} {f_code : Int32} {a_tape : Nat → Int32} {a_size : Nat → Int32} {a_fault : Nat → Int32} {a_faultPlace : Nat → Int32} {a_many : Nat → Int32} {a_lands : Nat → Int32} {a_evenings : Nat → Int32} {a_sights : Nat → Int32} {a_choirs : Nat → Int32} {f_reached : Int32} {f_length : Int32} {f_begins : Int32} {f_sort : Int32} {f_value : Int32} {f_word : Int64} {f_wrongAt : Int32} {f_laterFault : Int32} {f_laterPlace : Int32} {a_told : Nat → Int32} {a_read : Nat → Int32} {f_farHut : Int32} {f_farSinger : Int32} {f_good : Int32} {f_land : Int32} {f_huts : Int32} {f_singers : Int32} {f_evening : Int32} {a_at : Nat → Int32} {a_knows : Nat → Int32} {a_climbed : Nat → Int32} {a_snow : Nat → Int32} {a_level : Nat → Int32} {f_begun : Int32} {f_minute : Int32} {f_avalanches : Int32} {a_run : Nat → Int32} {a_covers : Nat → Int32} {a_routes : Nat → Int32} {a_longest : Nat → Int32} {a_steep : Nat → Int32} {a_laid : Nat → Int32} {a_far : Nat → Int32} {f_sight : Int32} {a_runs : Nat → Int32} {f_choir : Int32} {f_voices : Int32} {a_rest : Nat → Int64} {a_wins : Nat → Int32} {f_seed : Int32} {a_other : Nat → Int32} {a_kept : Nat → Int32} {post : Int32 → (Nat → Int32) → Prop} {x1 : Int32} {x2 : Int32} {ls : Array Slot} {H : Heap} {locs : List Loc}
    (zc : zC p s m args meth c cX11_further 4 RX11 (some .int))
    (hK : zK E s)
    (hM : mW E q f_code a_tape a_size a_fault a_faultPlace a_many a_lands a_evenings a_sights a_choirs f_reached f_length f_begins f_sort f_value f_word f_wrongAt f_laterFault f_laterPlace a_told a_read f_farHut f_farSinger f_good f_land f_huts f_singers f_evening a_at a_knows a_climbed a_snow a_level f_begun f_minute f_avalanches a_run a_covers a_routes a_longest a_steep a_laid a_far f_sight a_runs f_choir f_voices a_rest a_wins f_seed a_other a_kept H)
    (hS : va_S (mA q) s.heap H locs)
    (hl : lv_has ls 4 [(0, .ref q), (1, .int x1), (2, .int x2)])
    (hw : q_m_further_0 a_told x1 x2 post) :
    W p l e rm_m_further s m args below meth c H locs 0 0 (MQ below (zQi (S := (Nat → Int32)) (fun r u => post r u) (fun u H => mW E q f_code a_tape a_size a_fault a_faultPlace a_many a_lands a_evenings a_sights a_choirs f_reached f_length f_begins f_sort f_value f_word f_wrongAt f_laterFault f_laterPlace u a_read f_farHut f_farSinger f_good f_land f_huts f_singers f_evening a_at a_knows a_climbed a_snow a_level f_begun f_minute f_avalanches a_run a_covers a_routes a_longest a_steep a_laid a_far f_sight a_runs f_choir f_voices a_rest a_wins f_seed a_other a_kept H) (mA q)) args s 0 0 (mA q)) (F0 m 0 ls []) := by
  have hx := zc.1
  have hb := zc.2.1
  refine lv_aload_n hx hb dX11_further_0 rfl (lv_at hl 0 rfl) ?_
  refine mg_11_38_0 zc hK hM dX11_further_1 ?_
  refine lv_iload_n hx hb dX11_further_4 rfl (lv_at hl 1 rfl) ?_
  refine mld_10 zc hK hM hw.1 dX11_further_5 ?_
  have hw := hw.2
  refine lv_topi (fun v_1 ev_1 => ?_)
  have hw := hw v_1 ev_1
  refine lv_istore_n (lv' := [(3, .int v_1), (0, .ref q), (1, .int x1), (2, .int x2)]) hx hb dX11_further_6 rfl hl (by decide) rfl (fun ls hl => ?_)
  refine lv_iload_n hx hb dX11_further_7 rfl (lv_at hl 0 rfl) ?_
  refine lv_iload_n hx hb dX11_further_8 rfl (lv_at hl 3 rfl) ?_
  refine lv_icmp_ne (tgt := 14) hx hb dX11_further_9 (by decide) (fun hc => ?_) (fun hc => ?_)
  · have hw := hw.1 hc
    refine lv_aload_n hx hb dX11_further_14 rfl (lv_at hl 1 rfl) ?_
    refine mg_11_38_0 zc hK hM dX11_further_15 ?_
    refine lv_iload_n hx hb dX11_further_18 rfl (lv_at hl 2 rfl) ?_
    refine lv_dup2_11 hx hb dX11_further_19 rfl rfl ?_
    refine mld_10 zc hK hM hw.1 dX11_further_20 ?_
    have hw := hw.2
    refine lv_iconst (v := (1 : Int32)) hx hb dX11_further_21 (by decide) ?_
    refine lv_iadd hx hb dX11_further_22 ?_
    refine lv_topi (fun v_2 ev_2 => ?_)
    have hw := hw v_2 ev_2
    refine mst_10 zc hK hM hS hw.1 dX11_further_23 (fun a_told_1 H locs ea_told_1 hM hS => ?_)
    have hw := hw.2 a_told_1 ea_told_1
    refine lv_iload_n hx hb dX11_further_24 rfl (lv_at hl 0 rfl) ?_
    exact zret_iw a_told_1 zc hS hw hM dX11_further_25
  · have hw := hw.2 hc
    refine lv_iconst (v := (-1 : Int32)) hx hb dX11_further_12 (by decide) ?_
    exact zret_iw a_told zc hS hw hM dX11_further_13
set_option maxRecDepth 20000 in
theorem c_m_further (l : Launch) {E : zE} {q : Nat} {f_code : Int32} {a_tape : Nat → Int32} {a_size : Nat → Int32} {a_fault : Nat → Int32} {a_faultPlace : Nat → Int32} {a_many : Nat → Int32} {a_lands : Nat → Int32} {a_evenings : Nat → Int32} {a_sights : Nat → Int32} {a_choirs : Nat → Int32} {f_reached : Int32} {f_length : Int32} {f_begins : Int32} {f_sort : Int32} {f_value : Int32} {f_word : Int64} {f_wrongAt : Int32} {f_laterFault : Int32} {f_laterPlace : Int32} {a_told : Nat → Int32} {a_read : Nat → Int32} {f_farHut : Int32} {f_farSinger : Int32} {f_good : Int32} {f_land : Int32} {f_huts : Int32} {f_singers : Int32} {f_evening : Int32} {a_at : Nat → Int32} {a_knows : Nat → Int32} {a_climbed : Nat → Int32} {a_snow : Nat → Int32} {a_level : Nat → Int32} {f_begun : Int32} {f_minute : Int32} {f_avalanches : Int32} {a_run : Nat → Int32} {a_covers : Nat → Int32} {a_routes : Nat → Int32} {a_longest : Nat → Int32} {a_steep : Nat → Int32} {a_laid : Nat → Int32} {a_far : Nat → Int32} {f_sight : Int32} {a_runs : Nat → Int32} {f_choir : Int32} {f_voices : Int32} {a_rest : Nat → Int64} {a_wins : Nat → Int32} {f_seed : Int32} {a_other : Nat → Int32} {a_kept : Nat → Int32} {x1 : Int32} {x2 : Int32} {post : Int32 → (Nat → Int32) → Prop} (hw : q_m_further_0 a_told x1 x2 post) : Met l yX11_further (Cond.code yX11_further cX11_further 4 (some .int) :: zb) rm_m_further (va_Pc [.ref q, .int x1, .int x2] (fun U => mW E q f_code a_tape a_size a_fault a_faultPlace a_many a_lands a_evenings a_sights a_choirs f_reached f_length f_begins f_sort f_value f_word f_wrongAt f_laterFault f_laterPlace a_told a_read f_farHut f_farSinger f_good f_land f_huts f_singers f_evening a_at a_knows a_climbed a_snow a_level f_begun f_minute f_avalanches a_run a_covers a_routes a_longest a_steep a_laid a_far f_sight a_runs f_choir f_voices a_rest a_wins f_seed a_other a_kept U.heap ∧ zK E U)) (zQi (S := (Nat → Int32)) (fun r u => post r u) (fun u H => mW E q f_code a_tape a_size a_fault a_faultPlace a_many a_lands a_evenings a_sights a_choirs f_reached f_length f_begins f_sort f_value f_word f_wrongAt f_laterFault f_laterPlace u a_read f_farHut f_farSinger f_good f_land f_huts f_singers f_evening a_at a_knows a_climbed a_snow a_level f_begun f_minute f_avalanches a_run a_covers a_routes a_longest a_steep a_laid a_far f_sight a_runs f_choir f_voices a_rest a_wins f_seed a_other a_kept H) (mA q)) 0 0 (mA q) := by
  refine Met.ofW (cc := cX11_further) (maxL := 4) (ret := (some .int)) (by decide) rfl ?_
  intro p e s m args below meth c s₁ B hml hv
  obtain ⟨rfl, hM, hK⟩ := hv
  have zc := zc_of B hml
  have hl := lv_entry ([.ref q, .int x1, .int x2]) (n := 4) (Nat.le_of_ble_eq_true rfl)
  rw [lg_entry_eq]
  generalize (lg_sl ([.ref q, .int x1, .int x2]) ++ List.replicate (4 - (lg_sl ([.ref q, .int x1, .int x2])).length) Slot.unset).toArray = ls at hl ⊢
  have hl : lv_has ls 4 [(0, .ref q), (1, .int x1), (2, .int x2)] := hl
  exact t_m_further_0 zc hK hM va_S.rf (lv_sub hl [0, 1, 2] rfl) hw
-- m_bitLine
abbrev rm_m_bitLine : Room := { frames := 4, cells := 0, slots := 0, locals := 90 }
def q_m_bitLine_37 (a_tape : Nat → Int32) (f_reached : Int32) (f_length : Int32) (f_begins : Int32) (f_sort : Int32) (f_value : Int32) (f_word : Int64) (f_wrongAt : Int32) (f_laterFault : Int32) (f_laterPlace : Int32) (a_told : Nat → Int32) (a_read : Nat → Int32) (f_farHut : Int32) (f_good : Int32) (y0 : Int32) (y1 : Int32) (y2 : Int32) (post : Int32 → (Int32) → (Int32) → (Int32) → (Int32) → (Int64) → (Int32) → (Int32) → (Int32) → (Nat → Int32) → (Nat → Int32) → (Int32) → (Int32) → Prop) : Prop :=
  ∀ v_1 : Int32, v_1 = (y1 ||| y2) → (vp_in y0 132 ∧ (∀ a_told_1 : Nat → Int32, a_told_1 = upd a_told (Int32.toNatClampNeg y0) v_1 → (post (1 : Int32) f_reached f_begins f_sort f_value f_word f_wrongAt f_laterFault f_laterPlace a_told_1 a_read f_farHut f_good)))
def q_m_bitLine_0 (a_tape : Nat → Int32) (f_reached : Int32) (f_length : Int32) (f_begins : Int32) (f_sort : Int32) (f_value : Int32) (f_word : Int64) (f_wrongAt : Int32) (f_laterFault : Int32) (f_laterPlace : Int32) (a_told : Nat → Int32) (a_read : Nat → Int32) (f_farHut : Int32) (f_good : Int32) (x1 : Int32) (post : Int32 → (Int32) → (Int32) → (Int32) → (Int32) → (Int64) → (Int32) → (Int32) → (Int32) → (Nat → Int32) → (Nat → Int32) → (Int32) → (Int32) → Prop) : Prop :=
  q_m_takeHut_0 a_tape f_reached f_length f_begins f_sort f_value f_word f_wrongAt f_laterFault f_laterPlace a_read f_farHut f_good (0 : Int32) (-1 : Int32) (fun r_1 f_reached_1 f_begins_1 f_sort_1 f_value_1 f_word_1 f_wrongAt_1 f_laterFault_1 f_laterPlace_1 a_read_1 f_farHut_1 f_good_1 => (¬ r_1 = 0 → (vp_in x1 132 ∧ ((f_good_1 = 0 → (q_m_bitLine_37 a_tape f_reached_1 f_length f_begins_1 f_sort_1 f_value_1 f_word_1 f_wrongAt_1 f_laterFault_1 f_laterPlace_1 a_told a_read_1 f_farHut_1 f_good_1 x1 (a_told (Int32.toNatClampNeg x1)) (0 : Int32) post)) ∧ (¬ f_good_1 = 0 → (q_m_bitLine_37 a_tape f_reached_1 f_length f_begins_1 f_sort_1 f_value_1 f_word_1 f_wrongAt_1 f_laterFault_1 f_laterPlace_1 a_told a_read_1 f_farHut_1 f_good_1 x1 (a_told (Int32.toNatClampNeg x1)) ((1 : Int32) <<< ((a_read_1 (Int32.toNatClampNeg (0 : Int32))) &&& 31)) post))))) ∧ (r_1 = 0 → (post (0 : Int32) f_reached_1 f_begins_1 f_sort_1 f_value_1 f_word_1 f_wrongAt_1 f_laterFault_1 f_laterPlace_1 a_told a_read_1 f_farHut_1 f_good_1)))
set_option maxRecDepth 20000 in
theorem t_m_bitLine_37 {p : Program} {l : Launch} {e : Env} {s : State} {m : MethodId} {args : Array Value} {below : List Frame} {meth : Method} {c : Code} {E : zE} {q : Nat} {f_code : Int32} {a_tape : Nat → Int32} {a_size : Nat → Int32} {a_fault : Nat → Int32} {a_faultPlace : Nat → Int32} {a_many : Nat → Int32} {a_lands : Nat → Int32} {a_evenings : Nat → Int32} {a_sights : Nat → Int32} {a_choirs : Nat → Int32} {f_reached : Int32} {f_length : Int32} {f_begins : Int32} {f_sort : Int32} {f_value : Int32} {f_word : Int64} {f_wrongAt : Int32} {f_laterFault : Int32} {f_laterPlace : Int32} {a_told : Nat → Int32} {a_read : Nat → Int32} {f_farHut : Int32} {f_farSinger : Int32} {f_good : Int32} {f_land : Int32} {f_huts : Int32} {f_singers : Int32} {f_evening : Int32} {a_at : Nat → Int32} {a_knows : Nat → Int32} {a_climbed : Nat → Int32} {a_snow : Nat → Int32} {a_level : Nat → Int32} {f_begun : Int32} {f_minute : Int32} {f_avalanches : Int32} {a_run : Nat → Int32} {a_covers : Nat → Int32} {a_routes : Nat → Int32} {a_longest : Nat → Int32} {a_steep : Nat → Int32} {a_laid : Nat → Int32} {a_far : Nat → Int32} {f_sight : Int32} {a_runs : Nat → Int32} {f_choir : Int32} {f_voices : Int32} {a_rest : Nat → Int64} {a_wins : Nat → Int32} {f_seed : Int32} {a_other : Nat → Int32} {a_kept : Nat → Int32} {post : Int32 → (Int32) → (Int32) → (Int32) → (Int32) → (Int64) → (Int32) → (Int32) → (Int32) → (Nat → Int32) → (Nat → Int32) → (Int32) → (Int32) → Prop} {y0 : Int32} {y1 : Int32} {y2 : Int32} {ls : Array Slot} {H : Heap} {locs : List Loc}
    (zc : zC p s m args meth c cX11_bitLine 2 RX11 (some .boolean))
    (hK : zK E s)
    (hM : mW E q f_code a_tape a_size a_fault a_faultPlace a_many a_lands a_evenings a_sights a_choirs f_reached f_length f_begins f_sort f_value f_word f_wrongAt f_laterFault f_laterPlace a_told a_read f_farHut f_farSinger f_good f_land f_huts f_singers f_evening a_at a_knows a_climbed a_snow a_level f_begun f_minute f_avalanches a_run a_covers a_routes a_longest a_steep a_laid a_far f_sight a_runs f_choir f_voices a_rest a_wins f_seed a_other a_kept H)
    (hS : va_S (mA q) s.heap H locs)
    (hl : lv_has ls 2 [])
    (hw : q_m_bitLine_37 a_tape f_reached f_length f_begins f_sort f_value f_word f_wrongAt f_laterFault f_laterPlace a_told a_read f_farHut f_good y0 y1 y2 post) :
    W p l e rm_m_bitLine s m args below meth c H locs 0 0 (MQ below (zQi (S := (Int32) × (Int32) × (Int32) × (Int32) × (Int64) × (Int32) × (Int32) × (Int32) × (Nat → Int32) × (Nat → Int32) × (Int32) × (Int32)) (fun r u => post r u.1 u.2.1 u.2.2.1 u.2.2.2.1 u.2.2.2.2.1 u.2.2.2.2.2.1 u.2.2.2.2.2.2.1 u.2.2.2.2.2.2.2.1 u.2.2.2.2.2.2.2.2.1 u.2.2.2.2.2.2.2.2.2.1 u.2.2.2.2.2.2.2.2.2.2.1 u.2.2.2.2.2.2.2.2.2.2.2) (fun u H => mW E q f_code a_tape a_size a_fault a_faultPlace a_many a_lands a_evenings a_sights a_choirs u.1 f_length u.2.1 u.2.2.1 u.2.2.2.1 u.2.2.2.2.1 u.2.2.2.2.2.1 u.2.2.2.2.2.2.1 u.2.2.2.2.2.2.2.1 u.2.2.2.2.2.2.2.2.1 u.2.2.2.2.2.2.2.2.2.1 u.2.2.2.2.2.2.2.2.2.2.1 f_farSinger u.2.2.2.2.2.2.2.2.2.2.2 f_land f_huts f_singers f_evening a_at a_knows a_climbed a_snow a_level f_begun f_minute f_avalanches a_run a_covers a_routes a_longest a_steep a_laid a_far f_sight a_runs f_choir f_voices a_rest a_wins f_seed a_other a_kept H) (mA q)) args s 0 0 (mA q)) (F0 m 37 ls [.int y2, .int y1, .int y0, .ref (q + 10)]) := by
  have hx := zc.1
  have hb := zc.2.1
  refine lv_ior hx hb dX11_bitLine_37 ?_
  refine lv_topi (fun v_1 ev_1 => ?_)
  have hw := hw v_1 ev_1
  refine mst_10 zc hK hM hS hw.1 dX11_bitLine_38 (fun a_told_1 H locs ea_told_1 hM hS => ?_)
  have hw := hw.2 a_told_1 ea_told_1
  refine lv_iconst (v := (1 : Int32)) hx hb dX11_bitLine_39 (by decide) ?_
  exact zret_zw ⟨f_reached, f_begins, f_sort, f_value, f_word, f_wrongAt, f_laterFault, f_laterPlace, a_told_1, a_read, f_farHut, f_good⟩ zc hS rfl hw hM dX11_bitLine_40
set_option maxRecDepth 20000 in
theorem t_m_bitLine_0 {p : Program} {l : Launch} {e : Env} {s : State} {m : MethodId} {args : Array Value} {below : List Frame} {meth : Method} {c : Code} {E : zE} {q : Nat} {f_code : Int32} {a_tape : Nat → Int32} {a_size : Nat → Int32} {a_fault : Nat → Int32} {a_faultPlace : Nat → Int32} {a_many : Nat → Int32} {a_lands : Nat → Int32} {a_evenings : Nat → Int32} {a_sights : Nat → Int32} {a_choirs : Nat → Int32} {f_reached : Int32} {f_length : Int32} {f_begins : Int32} {f_sort : Int32} {f_value : Int32} {f_word : Int64} {f_wrongAt : Int32} {f_laterFault : Int32} {f_laterPlace : Int32} {a_told : Nat → Int32} {a_read : Nat → Int32} {f_farHut : Int32} {f_farSinger : Int32} {f_good : Int32} {f_land : Int32} {f_huts : Int32} {f_singers : Int32} {f_evening : Int32} {a_at : Nat → Int32} {a_knows : Nat → Int32} {a_climbed : Nat → Int32} {a_snow : Nat → Int32} {a_level : Nat → Int32} {f_begun : Int32} {f_minute : Int32} {f_avalanches : Int32} {a_run : Nat → Int32} {a_covers : Nat → Int32} {a_routes : Nat → Int32} {a_longest : Nat → Int32} {a_steep : Nat → Int32} {a_laid : Nat → Int32} {a_far : Nat → Int32} {f_sight : Int32} {a_runs : Nat → Int32} {f_choir : Int32} {f_voices : Int32} {a_rest : Nat → Int64} {a_wins : Nat → Int32} {f_seed : Int32} {a_other : Nat → Int32} {a_kept : Nat → Int32} {post : Int32 → (Int32) → (Int32) → (Int32) → (Int32) → (Int64) → (Int32) → (Int32) → (Int32) → (Nat → Int32) → (Nat → Int32) → (Int32) → (Int32) → Prop} {x1 : Int32} {ls : Array Slot} {H : Heap} {locs : List Loc}
    (zc : zC p s m args meth c cX11_bitLine 2 RX11 (some .boolean))
    (hK : zK E s)
    (hM : mW E q f_code a_tape a_size a_fault a_faultPlace a_many a_lands a_evenings a_sights a_choirs f_reached f_length f_begins f_sort f_value f_word f_wrongAt f_laterFault f_laterPlace a_told a_read f_farHut f_farSinger f_good f_land f_huts f_singers f_evening a_at a_knows a_climbed a_snow a_level f_begun f_minute f_avalanches a_run a_covers a_routes a_longest a_steep a_laid a_far f_sight a_runs f_choir f_voices a_rest a_wins f_seed a_other a_kept H)
    (hS : va_S (mA q) s.heap H locs)
    (hl : lv_has ls 2 [(0, .ref q), (1, .int x1)])
    (hw : q_m_bitLine_0 a_tape f_reached f_length f_begins f_sort f_value f_word f_wrongAt f_laterFault f_laterPlace a_told a_read f_farHut f_good x1 post) :
    W p l e rm_m_bitLine s m args below meth c H locs 0 0 (MQ below (zQi (S := (Int32) × (Int32) × (Int32) × (Int32) × (Int64) × (Int32) × (Int32) × (Int32) × (Nat → Int32) × (Nat → Int32) × (Int32) × (Int32)) (fun r u => post r u.1 u.2.1 u.2.2.1 u.2.2.2.1 u.2.2.2.2.1 u.2.2.2.2.2.1 u.2.2.2.2.2.2.1 u.2.2.2.2.2.2.2.1 u.2.2.2.2.2.2.2.2.1 u.2.2.2.2.2.2.2.2.2.1 u.2.2.2.2.2.2.2.2.2.2.1 u.2.2.2.2.2.2.2.2.2.2.2) (fun u H => mW E q f_code a_tape a_size a_fault a_faultPlace a_many a_lands a_evenings a_sights a_choirs u.1 f_length u.2.1 u.2.2.1 u.2.2.2.1 u.2.2.2.2.1 u.2.2.2.2.2.1 u.2.2.2.2.2.2.1 u.2.2.2.2.2.2.2.1 u.2.2.2.2.2.2.2.2.1 u.2.2.2.2.2.2.2.2.2.1 u.2.2.2.2.2.2.2.2.2.2.1 f_farSinger u.2.2.2.2.2.2.2.2.2.2.2 f_land f_huts f_singers f_evening a_at a_knows a_climbed a_snow a_level f_begun f_minute f_avalanches a_run a_covers a_routes a_longest a_steep a_laid a_far f_sight a_runs f_choir f_voices a_rest a_wins f_seed a_other a_kept H) (mA q)) args s 0 0 (mA q)) (F0 m 0 ls []) := by
  have hx := zc.1
  have hb := zc.2.1
  refine lv_aload_n hx hb dX11_bitLine_0 rfl (lv_at hl 0 rfl) ?_
  refine lv_iconst (v := (0 : Int32)) hx hb dX11_bitLine_1 (by decide) ?_
  refine lv_iconst (v := (-1 : Int32)) hx hb dX11_bitLine_2 (by decide) ?_
  refine zVw_i [.int (0 : Int32), .int (-1 : Int32)] [] zc ky_X11_takeHut kz_X11_takeHut km_11_175 (c_m_takeHut l hw) (mPreV0 hK hM) hS rfl rfl hl.1 (Nat.le_of_ble_eq_true rfl) ⟨rfl, rfl⟩ ⟨Nat.le_of_ble_eq_true rfl, Nat.le_of_ble_eq_true rfl⟩ ⟨(Nat.zero_le _), (Nat.zero_le _)⟩ dX11_bitLine_3 (fun r_1 u H locs hw hM hS => ?_)
  obtain ⟨f_reached_1, f_begins_1, f_sort_1, f_value_1, f_word_1, f_wrongAt_1, f_laterFault_1, f_laterPlace_1, a_read_1, f_farHut_1, f_good_1⟩ := u
  refine lv_if_ne (tgt := 11) hx hb dX11_bitLine_6 (by decide) (fun hc => ?_) (fun hc => ?_)
  · have hw := hw.1 hc
    refine lv_aload_n hx hb dX11_bitLine_11 rfl (lv_at hl 0 rfl) ?_
    refine mg_11_38_0 zc hK hM dX11_bitLine_12 ?_
    refine lv_iload_n hx hb dX11_bitLine_15 rfl (lv_at hl 1 rfl) ?_
    refine lv_dup2_11 hx hb dX11_bitLine_16 rfl rfl ?_
    refine mld_10 zc hK hM hw.1 dX11_bitLine_17 ?_
    have hw := hw.2
    refine lv_aload_n hx hb dX11_bitLine_18 rfl (lv_at hl 0 rfl) ?_
    refine mg_11_157_0 zc hK hM dX11_bitLine_19 ?_
    refine lv_if_eq (tgt := 36) hx hb dX11_bitLine_22 (by decide) (fun hc => ?_) (fun hc => ?_)
    · have hw := hw.1 hc
      refine lv_iconst (v := (0 : Int32)) hx hb dX11_bitLine_36 (by decide) ?_
      exact t_m_bitLine_37 zc hK hM hS  (lv_sub hl [] rfl) hw
    · have hw := hw.2 hc
      refine lv_iconst (v := (1 : Int32)) hx hb dX11_bitLine_25 (by decide) ?_
      refine lv_aload_n hx hb dX11_bitLine_26 rfl (lv_at hl 0 rfl) ?_
      refine mg_11_41_0 zc hK hM dX11_bitLine_27 ?_
      refine lv_iconst (v := (0 : Int32)) hx hb dX11_bitLine_30 (by decide) ?_
      refine mld_11 zc hK hM (by unfold vp_in; decide) dX11_bitLine_31 ?_
      refine lv_ishl hx hb dX11_bitLine_32 ?_
      refine lv_goto (tgt := 37) hx hb dX11_bitLine_33 (by decide) ?_
      exact t_m_bitLine_37 zc hK hM hS  (lv_sub hl [] rfl) hw
  · have hw := hw.2 hc
    refine lv_iconst (v := (0 : Int32)) hx hb dX11_bitLine_9 (by decide) ?_
    exact zret_zw ⟨f_reached_1, f_begins_1, f_sort_1, f_value_1, f_word_1, f_wrongAt_1, f_laterFault_1, f_laterPlace_1, a_told, a_read_1, f_farHut_1, f_good_1⟩ zc hS rfl hw hM dX11_bitLine_10
set_option maxRecDepth 20000 in
theorem c_m_bitLine (l : Launch) {E : zE} {q : Nat} {f_code : Int32} {a_tape : Nat → Int32} {a_size : Nat → Int32} {a_fault : Nat → Int32} {a_faultPlace : Nat → Int32} {a_many : Nat → Int32} {a_lands : Nat → Int32} {a_evenings : Nat → Int32} {a_sights : Nat → Int32} {a_choirs : Nat → Int32} {f_reached : Int32} {f_length : Int32} {f_begins : Int32} {f_sort : Int32} {f_value : Int32} {f_word : Int64} {f_wrongAt : Int32} {f_laterFault : Int32} {f_laterPlace : Int32} {a_told : Nat → Int32} {a_read : Nat → Int32} {f_farHut : Int32} {f_farSinger : Int32} {f_good : Int32} {f_land : Int32} {f_huts : Int32} {f_singers : Int32} {f_evening : Int32} {a_at : Nat → Int32} {a_knows : Nat → Int32} {a_climbed : Nat → Int32} {a_snow : Nat → Int32} {a_level : Nat → Int32} {f_begun : Int32} {f_minute : Int32} {f_avalanches : Int32} {a_run : Nat → Int32} {a_covers : Nat → Int32} {a_routes : Nat → Int32} {a_longest : Nat → Int32} {a_steep : Nat → Int32} {a_laid : Nat → Int32} {a_far : Nat → Int32} {f_sight : Int32} {a_runs : Nat → Int32} {f_choir : Int32} {f_voices : Int32} {a_rest : Nat → Int64} {a_wins : Nat → Int32} {f_seed : Int32} {a_other : Nat → Int32} {a_kept : Nat → Int32} {x1 : Int32} {post : Int32 → (Int32) → (Int32) → (Int32) → (Int32) → (Int64) → (Int32) → (Int32) → (Int32) → (Nat → Int32) → (Nat → Int32) → (Int32) → (Int32) → Prop} (hw : q_m_bitLine_0 a_tape f_reached f_length f_begins f_sort f_value f_word f_wrongAt f_laterFault f_laterPlace a_told a_read f_farHut f_good x1 post) : Met l yX11_bitLine (Cond.code yX11_bitLine cX11_bitLine 2 (some .boolean) :: zb) rm_m_bitLine (va_Pc [.ref q, .int x1] (fun U => mW E q f_code a_tape a_size a_fault a_faultPlace a_many a_lands a_evenings a_sights a_choirs f_reached f_length f_begins f_sort f_value f_word f_wrongAt f_laterFault f_laterPlace a_told a_read f_farHut f_farSinger f_good f_land f_huts f_singers f_evening a_at a_knows a_climbed a_snow a_level f_begun f_minute f_avalanches a_run a_covers a_routes a_longest a_steep a_laid a_far f_sight a_runs f_choir f_voices a_rest a_wins f_seed a_other a_kept U.heap ∧ zK E U)) (zQi (S := (Int32) × (Int32) × (Int32) × (Int32) × (Int64) × (Int32) × (Int32) × (Int32) × (Nat → Int32) × (Nat → Int32) × (Int32) × (Int32)) (fun r u => post r u.1 u.2.1 u.2.2.1 u.2.2.2.1 u.2.2.2.2.1 u.2.2.2.2.2.1 u.2.2.2.2.2.2.1 u.2.2.2.2.2.2.2.1 u.2.2.2.2.2.2.2.2.1 u.2.2.2.2.2.2.2.2.2.1 u.2.2.2.2.2.2.2.2.2.2.1 u.2.2.2.2.2.2.2.2.2.2.2) (fun u H => mW E q f_code a_tape a_size a_fault a_faultPlace a_many a_lands a_evenings a_sights a_choirs u.1 f_length u.2.1 u.2.2.1 u.2.2.2.1 u.2.2.2.2.1 u.2.2.2.2.2.1 u.2.2.2.2.2.2.1 u.2.2.2.2.2.2.2.1 u.2.2.2.2.2.2.2.2.1 u.2.2.2.2.2.2.2.2.2.1 u.2.2.2.2.2.2.2.2.2.2.1 f_farSinger u.2.2.2.2.2.2.2.2.2.2.2 f_land f_huts f_singers f_evening a_at a_knows a_climbed a_snow a_level f_begun f_minute f_avalanches a_run a_covers a_routes a_longest a_steep a_laid a_far f_sight a_runs f_choir f_voices a_rest a_wins f_seed a_other a_kept H) (mA q)) 0 0 (mA q) := by
  refine Met.ofW (cc := cX11_bitLine) (maxL := 2) (ret := (some .boolean)) (by decide) rfl ?_
  intro p e s m args below meth c s₁ B hml hv
  obtain ⟨rfl, hM, hK⟩ := hv
  have zc := zc_of B hml
  have hl := lv_entry ([.ref q, .int x1]) (n := 2) (Nat.le_of_ble_eq_true rfl)
  rw [lg_entry_eq]
  generalize (lg_sl ([.ref q, .int x1]) ++ List.replicate (2 - (lg_sl ([.ref q, .int x1])).length) Slot.unset).toArray = ls at hl ⊢
  have hl : lv_has ls 2 [(0, .ref q), (1, .int x1)] := hl
  exact t_m_bitLine_0 zc hK hM va_S.rf (lv_sub hl [0, 1] rfl) hw
-- m_plainLine
abbrev rm_m_plainLine : Room := { frames := 4, cells := 0, slots := 0, locals := 91 }
def q_m_plainLine_0 (a_tape : Nat → Int32) (f_reached : Int32) (f_length : Int32) (f_begins : Int32) (f_sort : Int32) (f_value : Int32) (f_word : Int64) (f_wrongAt : Int32) (f_laterFault : Int32) (f_laterPlace : Int32) (a_told : Nat → Int32) (a_read : Nat → Int32) (f_good : Int32) (x1 : Int32) (x2 : Int32) (x3 : Int32) (post : Int32 → (Int32) → (Int32) → (Int32) → (Int32) → (Int64) → (Int32) → (Int32) → (Int32) → (Nat → Int32) → (Nat → Int32) → (Int32) → Prop) : Prop :=
  q_m_take_0 a_tape f_reached f_length f_begins f_sort f_value f_word f_wrongAt f_laterFault f_laterPlace a_read f_good (0 : Int32) x2 x3 (fun r_1 f_reached_1 f_begins_1 f_sort_1 f_value_1 f_word_1 f_wrongAt_1 f_laterFault_1 f_laterPlace_1 a_read_1 f_good_1 => (¬ r_1 = 0 → (∀ v_1 : Int32, v_1 = (a_read_1 (Int32.toNatClampNeg (0 : Int32))) → (vp_in x1 132 ∧ (∀ a_told_1 : Nat → Int32, a_told_1 = upd a_told (Int32.toNatClampNeg x1) v_1 → (post (1 : Int32) f_reached_1 f_begins_1 f_sort_1 f_value_1 f_word_1 f_wrongAt_1 f_laterFault_1 f_laterPlace_1 a_told_1 a_read_1 f_good_1))))) ∧ (r_1 = 0 → (post (0 : Int32) f_reached_1 f_begins_1 f_sort_1 f_value_1 f_word_1 f_wrongAt_1 f_laterFault_1 f_laterPlace_1 a_told a_read_1 f_good_1)))
set_option maxRecDepth 20000 in
theorem t_m_plainLine_0 {p : Program} {l : Launch} {e : Env} {s : State} {m : MethodId} {args : Array Value} {below : List Frame} {meth : Method} {c : Code} {E : zE} {q : Nat} {f_code : Int32} {a_tape : Nat → Int32} {a_size : Nat → Int32} {a_fault : Nat → Int32} {a_faultPlace : Nat → Int32} {a_many : Nat → Int32} {a_lands : Nat → Int32} {a_evenings : Nat → Int32} {a_sights : Nat → Int32} {a_choirs : Nat → Int32} {f_reached : Int32} {f_length : Int32} {f_begins : Int32} {f_sort : Int32} {f_value : Int32} {f_word : Int64} {f_wrongAt : Int32} {f_laterFault : Int32} {f_laterPlace : Int32} {a_told : Nat → Int32} {a_read : Nat → Int32} {f_farHut : Int32} {f_farSinger : Int32} {f_good : Int32} {f_land : Int32} {f_huts : Int32} {f_singers : Int32} {f_evening : Int32} {a_at : Nat → Int32} {a_knows : Nat → Int32} {a_climbed : Nat → Int32} {a_snow : Nat → Int32} {a_level : Nat → Int32} {f_begun : Int32} {f_minute : Int32} {f_avalanches : Int32} {a_run : Nat → Int32} {a_covers : Nat → Int32} {a_routes : Nat → Int32} {a_longest : Nat → Int32} {a_steep : Nat → Int32} {a_laid : Nat → Int32} {a_far : Nat → Int32} {f_sight : Int32} {a_runs : Nat → Int32} {f_choir : Int32} {f_voices : Int32} {a_rest : Nat → Int64} {a_wins : Nat → Int32} {f_seed : Int32} {a_other : Nat → Int32} {a_kept : Nat → Int32} {post : Int32 → (Int32) → (Int32) → (Int32) → (Int32) → (Int64) → (Int32) → (Int32) → (Int32) → (Nat → Int32) → (Nat → Int32) → (Int32) → Prop} {x1 : Int32} {x2 : Int32} {x3 : Int32} {ls : Array Slot} {H : Heap} {locs : List Loc}
    (zc : zC p s m args meth c cX11_plainLine 4 RX11 (some .boolean))
    (hK : zK E s)
    (hM : mW E q f_code a_tape a_size a_fault a_faultPlace a_many a_lands a_evenings a_sights a_choirs f_reached f_length f_begins f_sort f_value f_word f_wrongAt f_laterFault f_laterPlace a_told a_read f_farHut f_farSinger f_good f_land f_huts f_singers f_evening a_at a_knows a_climbed a_snow a_level f_begun f_minute f_avalanches a_run a_covers a_routes a_longest a_steep a_laid a_far f_sight a_runs f_choir f_voices a_rest a_wins f_seed a_other a_kept H)
    (hS : va_S (mA q) s.heap H locs)
    (hl : lv_has ls 4 [(0, .ref q), (1, .int x1), (2, .int x2), (3, .int x3)])
    (hw : q_m_plainLine_0 a_tape f_reached f_length f_begins f_sort f_value f_word f_wrongAt f_laterFault f_laterPlace a_told a_read f_good x1 x2 x3 post) :
    W p l e rm_m_plainLine s m args below meth c H locs 0 0 (MQ below (zQi (S := (Int32) × (Int32) × (Int32) × (Int32) × (Int64) × (Int32) × (Int32) × (Int32) × (Nat → Int32) × (Nat → Int32) × (Int32)) (fun r u => post r u.1 u.2.1 u.2.2.1 u.2.2.2.1 u.2.2.2.2.1 u.2.2.2.2.2.1 u.2.2.2.2.2.2.1 u.2.2.2.2.2.2.2.1 u.2.2.2.2.2.2.2.2.1 u.2.2.2.2.2.2.2.2.2.1 u.2.2.2.2.2.2.2.2.2.2) (fun u H => mW E q f_code a_tape a_size a_fault a_faultPlace a_many a_lands a_evenings a_sights a_choirs u.1 f_length u.2.1 u.2.2.1 u.2.2.2.1 u.2.2.2.2.1 u.2.2.2.2.2.1 u.2.2.2.2.2.2.1 u.2.2.2.2.2.2.2.1 u.2.2.2.2.2.2.2.2.1 u.2.2.2.2.2.2.2.2.2.1 f_farHut f_farSinger u.2.2.2.2.2.2.2.2.2.2 f_land f_huts f_singers f_evening a_at a_knows a_climbed a_snow a_level f_begun f_minute f_avalanches a_run a_covers a_routes a_longest a_steep a_laid a_far f_sight a_runs f_choir f_voices a_rest a_wins f_seed a_other a_kept H) (mA q)) args s 0 0 (mA q)) (F0 m 0 ls []) := by
  have hx := zc.1
  have hb := zc.2.1
  refine lv_aload_n hx hb dX11_plainLine_0 rfl (lv_at hl 0 rfl) ?_
  refine lv_iconst (v := (0 : Int32)) hx hb dX11_plainLine_1 (by decide) ?_
  refine lv_iload_n hx hb dX11_plainLine_2 rfl (lv_at hl 2 rfl) ?_
  refine lv_iload_n hx hb dX11_plainLine_3 rfl (lv_at hl 3 rfl) ?_
  refine zVw_i [.int (0 : Int32), .int x2, .int x3] [] zc ky_X11_take kz_X11_take km_11_178 (c_m_take l hw) (mPreV0 hK hM) hS rfl rfl hl.1 (Nat.le_of_ble_eq_true rfl) ⟨rfl, rfl⟩ ⟨Nat.le_of_ble_eq_true rfl, Nat.le_of_ble_eq_true rfl⟩ ⟨(Nat.zero_le _), (Nat.zero_le _)⟩ dX11_plainLine_4 (fun r_1 u H locs hw hM hS => ?_)
  obtain ⟨f_reached_1, f_begins_1, f_sort_1, f_value_1, f_word_1, f_wrongAt_1, f_laterFault_1, f_laterPlace_1, a_read_1, f_good_1⟩ := u
  refine lv_if_ne (tgt := 12) hx hb dX11_plainLine_7 (by decide) (fun hc => ?_) (fun hc => ?_)
  · have hw := hw.1 hc
    refine lv_aload_n hx hb dX11_plainLine_12 rfl (lv_at hl 0 rfl) ?_
    refine mg_11_38_0 zc hK hM dX11_plainLine_13 ?_
    refine lv_iload_n hx hb dX11_plainLine_16 rfl (lv_at hl 1 rfl) ?_
    refine lv_aload_n hx hb dX11_plainLine_17 rfl (lv_at hl 0 rfl) ?_
    refine mg_11_41_0 zc hK hM dX11_plainLine_18 ?_
    refine lv_iconst (v := (0 : Int32)) hx hb dX11_plainLine_21 (by decide) ?_
    refine mld_11 zc hK hM (by unfold vp_in; decide) dX11_plainLine_22 ?_
    refine lv_topi (fun v_1 ev_1 => ?_)
    have hw := hw v_1 ev_1
    refine mst_10 zc hK hM hS hw.1 dX11_plainLine_23 (fun a_told_1 H locs ea_told_1 hM hS => ?_)
    have hw := hw.2 a_told_1 ea_told_1
    refine lv_iconst (v := (1 : Int32)) hx hb dX11_plainLine_24 (by decide) ?_
    exact zret_zw ⟨f_reached_1, f_begins_1, f_sort_1, f_value_1, f_word_1, f_wrongAt_1, f_laterFault_1, f_laterPlace_1, a_told_1, a_read_1, f_good_1⟩ zc hS rfl hw hM dX11_plainLine_25
  · have hw := hw.2 hc
    refine lv_iconst (v := (0 : Int32)) hx hb dX11_plainLine_10 (by decide) ?_
    exact zret_zw ⟨f_reached_1, f_begins_1, f_sort_1, f_value_1, f_word_1, f_wrongAt_1, f_laterFault_1, f_laterPlace_1, a_told, a_read_1, f_good_1⟩ zc hS rfl hw hM dX11_plainLine_11
set_option maxRecDepth 20000 in
theorem c_m_plainLine (l : Launch) {E : zE} {q : Nat} {f_code : Int32} {a_tape : Nat → Int32} {a_size : Nat → Int32} {a_fault : Nat → Int32} {a_faultPlace : Nat → Int32} {a_many : Nat → Int32} {a_lands : Nat → Int32} {a_evenings : Nat → Int32} {a_sights : Nat → Int32} {a_choirs : Nat → Int32} {f_reached : Int32} {f_length : Int32} {f_begins : Int32} {f_sort : Int32} {f_value : Int32} {f_word : Int64} {f_wrongAt : Int32} {f_laterFault : Int32} {f_laterPlace : Int32} {a_told : Nat → Int32} {a_read : Nat → Int32} {f_farHut : Int32} {f_farSinger : Int32} {f_good : Int32} {f_land : Int32} {f_huts : Int32} {f_singers : Int32} {f_evening : Int32} {a_at : Nat → Int32} {a_knows : Nat → Int32} {a_climbed : Nat → Int32} {a_snow : Nat → Int32} {a_level : Nat → Int32} {f_begun : Int32} {f_minute : Int32} {f_avalanches : Int32} {a_run : Nat → Int32} {a_covers : Nat → Int32} {a_routes : Nat → Int32} {a_longest : Nat → Int32} {a_steep : Nat → Int32} {a_laid : Nat → Int32} {a_far : Nat → Int32} {f_sight : Int32} {a_runs : Nat → Int32} {f_choir : Int32} {f_voices : Int32} {a_rest : Nat → Int64} {a_wins : Nat → Int32} {f_seed : Int32} {a_other : Nat → Int32} {a_kept : Nat → Int32} {x1 : Int32} {x2 : Int32} {x3 : Int32} {post : Int32 → (Int32) → (Int32) → (Int32) → (Int32) → (Int64) → (Int32) → (Int32) → (Int32) → (Nat → Int32) → (Nat → Int32) → (Int32) → Prop} (hw : q_m_plainLine_0 a_tape f_reached f_length f_begins f_sort f_value f_word f_wrongAt f_laterFault f_laterPlace a_told a_read f_good x1 x2 x3 post) : Met l yX11_plainLine (Cond.code yX11_plainLine cX11_plainLine 4 (some .boolean) :: zb) rm_m_plainLine (va_Pc [.ref q, .int x1, .int x2, .int x3] (fun U => mW E q f_code a_tape a_size a_fault a_faultPlace a_many a_lands a_evenings a_sights a_choirs f_reached f_length f_begins f_sort f_value f_word f_wrongAt f_laterFault f_laterPlace a_told a_read f_farHut f_farSinger f_good f_land f_huts f_singers f_evening a_at a_knows a_climbed a_snow a_level f_begun f_minute f_avalanches a_run a_covers a_routes a_longest a_steep a_laid a_far f_sight a_runs f_choir f_voices a_rest a_wins f_seed a_other a_kept U.heap ∧ zK E U)) (zQi (S := (Int32) × (Int32) × (Int32) × (Int32) × (Int64) × (Int32) × (Int32) × (Int32) × (Nat → Int32) × (Nat → Int32) × (Int32)) (fun r u => post r u.1 u.2.1 u.2.2.1 u.2.2.2.1 u.2.2.2.2.1 u.2.2.2.2.2.1 u.2.2.2.2.2.2.1 u.2.2.2.2.2.2.2.1 u.2.2.2.2.2.2.2.2.1 u.2.2.2.2.2.2.2.2.2.1 u.2.2.2.2.2.2.2.2.2.2) (fun u H => mW E q f_code a_tape a_size a_fault a_faultPlace a_many a_lands a_evenings a_sights a_choirs u.1 f_length u.2.1 u.2.2.1 u.2.2.2.1 u.2.2.2.2.1 u.2.2.2.2.2.1 u.2.2.2.2.2.2.1 u.2.2.2.2.2.2.2.1 u.2.2.2.2.2.2.2.2.1 u.2.2.2.2.2.2.2.2.2.1 f_farHut f_farSinger u.2.2.2.2.2.2.2.2.2.2 f_land f_huts f_singers f_evening a_at a_knows a_climbed a_snow a_level f_begun f_minute f_avalanches a_run a_covers a_routes a_longest a_steep a_laid a_far f_sight a_runs f_choir f_voices a_rest a_wins f_seed a_other a_kept H) (mA q)) 0 0 (mA q) := by
  refine Met.ofW (cc := cX11_plainLine) (maxL := 4) (ret := (some .boolean)) (by decide) rfl ?_
  intro p e s m args below meth c s₁ B hml hv
  obtain ⟨rfl, hM, hK⟩ := hv
  have zc := zc_of B hml
  have hl := lv_entry ([.ref q, .int x1, .int x2, .int x3]) (n := 4) (Nat.le_of_ble_eq_true rfl)
  rw [lg_entry_eq]
  generalize (lg_sl ([.ref q, .int x1, .int x2, .int x3]) ++ List.replicate (4 - (lg_sl ([.ref q, .int x1, .int x2, .int x3])).length) Slot.unset).toArray = ls at hl ⊢
  have hl : lv_has ls 4 [(0, .ref q), (1, .int x1), (2, .int x2), (3, .int x3)] := hl
  exact t_m_plainLine_0 zc hK hM va_S.rf (lv_sub hl [0, 1, 2, 3] rfl) hw
-- m_hutLine
abbrev rm_m_hutLine : Room := { frames := 4, cells := 0, slots := 0, locals := 91 }
def q_m_hutLine_0 (a_tape : Nat → Int32) (f_reached : Int32) (f_length : Int32) (f_begins : Int32) (f_sort : Int32) (f_value : Int32) (f_word : Int64) (f_wrongAt : Int32) (f_laterFault : Int32) (f_laterPlace : Int32) (a_told : Nat → Int32) (a_read : Nat → Int32) (f_good : Int32) (post : Int32 → (Int32) → (Int32) → (Int32) → (Int32) → (Int64) → (Int32) → (Int32) → (Int32) → (Nat → Int32) → (Nat → Int32) → (Int32) → Prop) : Prop :=
  q_m_take_0 a_tape f_reached f_length f_begins f_sort f_value f_word f_wrongAt f_laterFault f_laterPlace a_read f_good (0 : Int32) (0 : Int32) (99 : Int32) (fun r_1 f_reached_1 f_begins_1 f_sort_1 f_value_1 f_word_1 f_wrongAt_1 f_laterFault_1 f_laterPlace_1 a_read_1 f_good_1 => (¬ r_1 = 0 → (q_m_further_0 a_told (0 : Int32) (9 : Int32) (fun r_2 a_told_1 => (r_2 = (-1 : Int32) → (post (1 : Int32) f_reached_1 f_begins_1 f_sort_1 f_value_1 f_word_1 f_wrongAt_1 f_laterFault_1 f_laterPlace_1 a_told_1 a_read_1 f_good_1)) ∧ (¬ r_2 = (-1 : Int32) → (∀ v_1 : Int32, v_1 = (a_read_1 (Int32.toNatClampNeg (0 : Int32))) → (vp_in ((7 : Int32) + r_2) 132 ∧ (∀ a_told_2 : Nat → Int32, a_told_2 = upd a_told_1 (Int32.toNatClampNeg ((7 : Int32) + r_2)) v_1 → (post (1 : Int32) f_reached_1 f_begins_1 f_sort_1 f_value_1 f_word_1 f_wrongAt_1 f_laterFault_1 f_laterPlace_1 a_told_2 a_read_1 f_good_1)))))))) ∧ (r_1 = 0 → (post (0 : Int32) f_reached_1 f_begins_1 f_sort_1 f_value_1 f_word_1 f_wrongAt_1 f_laterFault_1 f_laterPlace_1 a_told a_read_1 f_good_1)))
set_option maxRecDepth 20000 in
theorem t_m_hutLine_0 {p : Program} {l : Launch} {e : Env} {s : State} {m : MethodId} {args : Array Value} {below : List Frame} {meth : Method} {c : Code} {E : zE} {q : Nat} {f_code : Int32} {a_tape : Nat → Int32} {a_size : Nat → Int32} {a_fault : Nat → Int32} {a_faultPlace : Nat → Int32} {a_many : Nat → Int32} {a_lands : Nat → Int32} {a_evenings : Nat → Int32} {a_sights : Nat → Int32} {a_choirs : Nat → Int32} {f_reached : Int32} {f_length : Int32} {f_begins : Int32} {f_sort : Int32} {f_value : Int32} {f_word : Int64} {f_wrongAt : Int32} {f_laterFault : Int32} {f_laterPlace : Int32} {a_told : Nat → Int32} {a_read : Nat → Int32} {f_farHut : Int32} {f_farSinger : Int32} {f_good : Int32} {f_land : Int32} {f_huts : Int32} {f_singers : Int32} {f_evening : Int32} {a_at : Nat → Int32} {a_knows : Nat → Int32} {a_climbed : Nat → Int32} {a_snow : Nat → Int32} {a_level : Nat → Int32} {f_begun : Int32} {f_minute : Int32} {f_avalanches : Int32} {a_run : Nat → Int32} {a_covers : Nat → Int32} {a_routes : Nat → Int32} {a_longest : Nat → Int32} {a_steep : Nat → Int32} {a_laid : Nat → Int32} {a_far : Nat → Int32} {f_sight : Int32} {a_runs : Nat → Int32} {f_choir : Int32} {f_voices : Int32} {a_rest : Nat → Int64} {a_wins : Nat → Int32} {f_seed : Int32} {a_other : Nat → Int32} {a_kept : Nat → Int32} {post : Int32 → (Int32) → (Int32) → (Int32) → (Int32) → (Int64) → (Int32) → (Int32) → (Int32) → (Nat → Int32) → (Nat → Int32) → (Int32) → Prop} {ls : Array Slot} {H : Heap} {locs : List Loc}
    (zc : zC p s m args meth c cX11_hutLine 2 RX11 (some .boolean))
    (hK : zK E s)
    (hM : mW E q f_code a_tape a_size a_fault a_faultPlace a_many a_lands a_evenings a_sights a_choirs f_reached f_length f_begins f_sort f_value f_word f_wrongAt f_laterFault f_laterPlace a_told a_read f_farHut f_farSinger f_good f_land f_huts f_singers f_evening a_at a_knows a_climbed a_snow a_level f_begun f_minute f_avalanches a_run a_covers a_routes a_longest a_steep a_laid a_far f_sight a_runs f_choir f_voices a_rest a_wins f_seed a_other a_kept H)
    (hS : va_S (mA q) s.heap H locs)
    (hl : lv_has ls 2 [(0, .ref q)])
    (hw : q_m_hutLine_0 a_tape f_reached f_length f_begins f_sort f_value f_word f_wrongAt f_laterFault f_laterPlace a_told a_read f_good post) :
    W p l e rm_m_hutLine s m args below meth c H locs 0 0 (MQ below (zQi (S := (Int32) × (Int32) × (Int32) × (Int32) × (Int64) × (Int32) × (Int32) × (Int32) × (Nat → Int32) × (Nat → Int32) × (Int32)) (fun r u => post r u.1 u.2.1 u.2.2.1 u.2.2.2.1 u.2.2.2.2.1 u.2.2.2.2.2.1 u.2.2.2.2.2.2.1 u.2.2.2.2.2.2.2.1 u.2.2.2.2.2.2.2.2.1 u.2.2.2.2.2.2.2.2.2.1 u.2.2.2.2.2.2.2.2.2.2) (fun u H => mW E q f_code a_tape a_size a_fault a_faultPlace a_many a_lands a_evenings a_sights a_choirs u.1 f_length u.2.1 u.2.2.1 u.2.2.2.1 u.2.2.2.2.1 u.2.2.2.2.2.1 u.2.2.2.2.2.2.1 u.2.2.2.2.2.2.2.1 u.2.2.2.2.2.2.2.2.1 u.2.2.2.2.2.2.2.2.2.1 f_farHut f_farSinger u.2.2.2.2.2.2.2.2.2.2 f_land f_huts f_singers f_evening a_at a_knows a_climbed a_snow a_level f_begun f_minute f_avalanches a_run a_covers a_routes a_longest a_steep a_laid a_far f_sight a_runs f_choir f_voices a_rest a_wins f_seed a_other a_kept H) (mA q)) args s 0 0 (mA q)) (F0 m 0 ls []) := by
  have hx := zc.1
  have hb := zc.2.1
  refine lv_aload_n hx hb dX11_hutLine_0 rfl (lv_at hl 0 rfl) ?_
  refine lv_iconst (v := (0 : Int32)) hx hb dX11_hutLine_1 (by decide) ?_
  refine lv_iconst (v := (0 : Int32)) hx hb dX11_hutLine_2 (by decide) ?_
  refine lv_bipush (v := (99 : Int32)) hx hb dX11_hutLine_3 (by decide) ?_
  refine zVw_i [.int (0 : Int32), .int (0 : Int32), .int (99 : Int32)] [] zc ky_X11_take kz_X11_take km_11_178 (c_m_take l hw) (mPreV0 hK hM) hS rfl rfl hl.1 (Nat.le_of_ble_eq_true rfl) ⟨rfl, rfl⟩ ⟨Nat.le_of_ble_eq_true rfl, Nat.le_of_ble_eq_true rfl⟩ ⟨(Nat.zero_le _), (Nat.zero_le _)⟩ dX11_hutLine_5 (fun r_1 u H locs hw hM hS => ?_)
  obtain ⟨f_reached_1, f_begins_1, f_sort_1, f_value_1, f_word_1, f_wrongAt_1, f_laterFault_1, f_laterPlace_1, a_read_1, f_good_1⟩ := u
  refine lv_if_ne (tgt := 13) hx hb dX11_hutLine_8 (by decide) (fun hc => ?_) (fun hc => ?_)
  · have hw := hw.1 hc
    refine lv_aload_n hx hb dX11_hutLine_13 rfl (lv_at hl 0 rfl) ?_
    refine lv_iconst (v := (0 : Int32)) hx hb dX11_hutLine_14 (by decide) ?_
    refine lv_bipush (v := (9 : Int32)) hx hb dX11_hutLine_15 (by decide) ?_
    refine zVw_i [.int (0 : Int32), .int (9 : Int32)] [] zc ky_X11_further kz_X11_further km_11_181 (c_m_further l hw) (mPreV0 hK hM) hS rfl rfl hl.1 (Nat.le_of_ble_eq_true rfl) ⟨rfl, rfl⟩ ⟨Nat.le_of_ble_eq_true rfl, Nat.le_of_ble_eq_true rfl⟩ ⟨(Nat.zero_le _), (Nat.zero_le _)⟩ dX11_hutLine_17 (fun r_2 a_told_1 H locs hw hM hS => ?_)
    refine lv_istore_n (lv' := [(1, .int r_2), (0, .ref q)]) hx hb dX11_hutLine_20 rfl hl (by decide) rfl (fun ls hl => ?_)
    refine lv_iload_n hx hb dX11_hutLine_21 rfl (lv_at hl 0 rfl) ?_
    refine lv_iconst (v := (-1 : Int32)) hx hb dX11_hutLine_22 (by decide) ?_
    refine lv_icmp_eq (tgt := 41) hx hb dX11_hutLine_23 (by decide) (fun hc => ?_) (fun hc => ?_)
    · have hw := hw.1 hc
      refine lv_iconst (v := (1 : Int32)) hx hb dX11_hutLine_41 (by decide) ?_
      exact zret_zw ⟨f_reached_1, f_begins_1, f_sort_1, f_value_1, f_word_1, f_wrongAt_1, f_laterFault_1, f_laterPlace_1, a_told_1, a_read_1, f_good_1⟩ zc hS rfl hw hM dX11_hutLine_42
    · have hw := hw.2 hc
      refine lv_aload_n hx hb dX11_hutLine_26 rfl (lv_at hl 1 rfl) ?_
      refine mg_11_38_0 zc hK hM dX11_hutLine_27 ?_
      refine lv_bipush (v := (7 : Int32)) hx hb dX11_hutLine_30 (by decide) ?_
      refine lv_iload_n hx hb dX11_hutLine_32 rfl (lv_at hl 0 rfl) ?_
      refine lv_iadd hx hb dX11_hutLine_33 ?_
      refine lv_aload_n hx hb dX11_hutLine_34 rfl (lv_at hl 1 rfl) ?_
      refine mg_11_41_0 zc hK hM dX11_hutLine_35 ?_
      refine lv_iconst (v := (0 : Int32)) hx hb dX11_hutLine_38 (by decide) ?_
      refine mld_11 zc hK hM (by unfold vp_in; decide) dX11_hutLine_39 ?_
      refine lv_topi (fun v_1 ev_1 => ?_)
      have hw := hw v_1 ev_1
      refine mst_10 zc hK hM hS hw.1 dX11_hutLine_40 (fun a_told_2 H locs ea_told_2 hM hS => ?_)
      have hw := hw.2 a_told_2 ea_told_2
      refine lv_iconst (v := (1 : Int32)) hx hb dX11_hutLine_41 (by decide) ?_
      exact zret_zw ⟨f_reached_1, f_begins_1, f_sort_1, f_value_1, f_word_1, f_wrongAt_1, f_laterFault_1, f_laterPlace_1, a_told_2, a_read_1, f_good_1⟩ zc hS rfl hw hM dX11_hutLine_42
  · have hw := hw.2 hc
    refine lv_iconst (v := (0 : Int32)) hx hb dX11_hutLine_11 (by decide) ?_
    exact zret_zw ⟨f_reached_1, f_begins_1, f_sort_1, f_value_1, f_word_1, f_wrongAt_1, f_laterFault_1, f_laterPlace_1, a_told, a_read_1, f_good_1⟩ zc hS rfl hw hM dX11_hutLine_12
set_option maxRecDepth 20000 in
theorem c_m_hutLine (l : Launch) {E : zE} {q : Nat} {f_code : Int32} {a_tape : Nat → Int32} {a_size : Nat → Int32} {a_fault : Nat → Int32} {a_faultPlace : Nat → Int32} {a_many : Nat → Int32} {a_lands : Nat → Int32} {a_evenings : Nat → Int32} {a_sights : Nat → Int32} {a_choirs : Nat → Int32} {f_reached : Int32} {f_length : Int32} {f_begins : Int32} {f_sort : Int32} {f_value : Int32} {f_word : Int64} {f_wrongAt : Int32} {f_laterFault : Int32} {f_laterPlace : Int32} {a_told : Nat → Int32} {a_read : Nat → Int32} {f_farHut : Int32} {f_farSinger : Int32} {f_good : Int32} {f_land : Int32} {f_huts : Int32} {f_singers : Int32} {f_evening : Int32} {a_at : Nat → Int32} {a_knows : Nat → Int32} {a_climbed : Nat → Int32} {a_snow : Nat → Int32} {a_level : Nat → Int32} {f_begun : Int32} {f_minute : Int32} {f_avalanches : Int32} {a_run : Nat → Int32} {a_covers : Nat → Int32} {a_routes : Nat → Int32} {a_longest : Nat → Int32} {a_steep : Nat → Int32} {a_laid : Nat → Int32} {a_far : Nat → Int32} {f_sight : Int32} {a_runs : Nat → Int32} {f_choir : Int32} {f_voices : Int32} {a_rest : Nat → Int64} {a_wins : Nat → Int32} {f_seed : Int32} {a_other : Nat → Int32} {a_kept : Nat → Int32} {post : Int32 → (Int32) → (Int32) → (Int32) → (Int32) → (Int64) → (Int32) → (Int32) → (Int32) → (Nat → Int32) → (Nat → Int32) → (Int32) → Prop} (hw : q_m_hutLine_0 a_tape f_reached f_length f_begins f_sort f_value f_word f_wrongAt f_laterFault f_laterPlace a_told a_read f_good post) : Met l yX11_hutLine (Cond.code yX11_hutLine cX11_hutLine 2 (some .boolean) :: zb) rm_m_hutLine (va_Pc [.ref q] (fun U => mW E q f_code a_tape a_size a_fault a_faultPlace a_many a_lands a_evenings a_sights a_choirs f_reached f_length f_begins f_sort f_value f_word f_wrongAt f_laterFault f_laterPlace a_told a_read f_farHut f_farSinger f_good f_land f_huts f_singers f_evening a_at a_knows a_climbed a_snow a_level f_begun f_minute f_avalanches a_run a_covers a_routes a_longest a_steep a_laid a_far f_sight a_runs f_choir f_voices a_rest a_wins f_seed a_other a_kept U.heap ∧ zK E U)) (zQi (S := (Int32) × (Int32) × (Int32) × (Int32) × (Int64) × (Int32) × (Int32) × (Int32) × (Nat → Int32) × (Nat → Int32) × (Int32)) (fun r u => post r u.1 u.2.1 u.2.2.1 u.2.2.2.1 u.2.2.2.2.1 u.2.2.2.2.2.1 u.2.2.2.2.2.2.1 u.2.2.2.2.2.2.2.1 u.2.2.2.2.2.2.2.2.1 u.2.2.2.2.2.2.2.2.2.1 u.2.2.2.2.2.2.2.2.2.2) (fun u H => mW E q f_code a_tape a_size a_fault a_faultPlace a_many a_lands a_evenings a_sights a_choirs u.1 f_length u.2.1 u.2.2.1 u.2.2.2.1 u.2.2.2.2.1 u.2.2.2.2.2.1 u.2.2.2.2.2.2.1 u.2.2.2.2.2.2.2.1 u.2.2.2.2.2.2.2.2.1 u.2.2.2.2.2.2.2.2.2.1 f_farHut f_farSinger u.2.2.2.2.2.2.2.2.2.2 f_land f_huts f_singers f_evening a_at a_knows a_climbed a_snow a_level f_begun f_minute f_avalanches a_run a_covers a_routes a_longest a_steep a_laid a_far f_sight a_runs f_choir f_voices a_rest a_wins f_seed a_other a_kept H) (mA q)) 0 0 (mA q) := by
  refine Met.ofW (cc := cX11_hutLine) (maxL := 2) (ret := (some .boolean)) (by decide) rfl ?_
  intro p e s m args below meth c s₁ B hml hv
  obtain ⟨rfl, hM, hK⟩ := hv
  have zc := zc_of B hml
  have hl := lv_entry ([.ref q]) (n := 2) (Nat.le_of_ble_eq_true rfl)
  rw [lg_entry_eq]
  generalize (lg_sl ([.ref q]) ++ List.replicate (2 - (lg_sl ([.ref q])).length) Slot.unset).toArray = ls at hl ⊢
  have hl : lv_has ls 2 [(0, .ref q)] := hl
  exact t_m_hutLine_0 zc hK hM va_S.rf (lv_sub hl [0] rfl) hw
