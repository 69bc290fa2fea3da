section
-- m_lastVillage
abbrev rm_m_lastVillage : Room := { frames := 2, cells := 0, slots := 0, locals := 41 }
def q_m_lastVillage_37 (P4 : Int32 → Int32 → Prop) (a_lands : Nat → Int32) (f_land : Int32) (f_huts : Int32) (a_run : Nat → Int32) (x2 : Int32) (y0 : Int32) (post : Int32 → Prop) : Prop :=
  ∀ v_1 : Int32, v_1 = x2 + (1 : Int32) → (P4 y0 v_1)
def q_m_lastVillage_4 (a_lands : Nat → Int32) (f_land : Int32) (f_huts : Int32) (a_run : Nat → Int32) (x1 : Int32) (x2 : Int32) (post : Int32 → Prop) : Prop :=
  ∀ P4 : Int32 → Int32 → Prop, (∀ (x1 : Int32) (x2 : Int32), ((f_huts ≤ x2 → (post x1)) ∧ (¬ f_huts ≤ x2 → (q_m_wanted_0 a_lands f_land (fun r_1 => q_m_has_0 r_1 x2 (fun r_2 => (r_2 = 0 → (q_m_lastVillage_37 P4 a_lands f_land f_huts a_run x2 x1 post)) ∧ (¬ r_2 = 0 → (vp_in x2 9 ∧ (q_m_greater_0 x1 (a_run (Int32.toNatClampNeg x2)) (fun r_3 => q_m_lastVillage_37 P4 a_lands f_land f_huts a_run x2 r_3 post))))))))) → P4 x1 x2) → P4 x1 x2
def q_m_lastVillage_0 (a_lands : Nat → Int32) (f_land : Int32) (f_huts : Int32) (a_run : Nat → Int32) (post : Int32 → Prop) : Prop :=
  q_m_lastVillage_4 a_lands f_land f_huts a_run (0 : Int32) (0 : Int32) post
set_option maxRecDepth 20000 in
theorem t_m_lastVillage_37 {p : Program} {l : Launch} {e : Env} {s : State} {m : MethodId} {args : Array Value} {below : List Frame} {meth : Method} {c : Code} {E : zE} {q : Nat} {f_code : Int32} {a_tape : Nat → Int32} {a_size : Nat → Int32} {a_fault : Nat → Int32} {a_faultPlace : Nat → Int32} {a_many : Nat → Int32} {a_lands : Nat → Int32} {a_evenings : Nat → Int32} {a_sights : Nat → Int32} {a_choirs : Nat → Int32} {f_reached : Int32} {f_length : Int32} {f_begins : Int32} {f_sort : Int32} {f_value : Int32} {f_word : Int64} {f_wrongAt : Int32} {f_laterFault : Int32} {f_laterPlace : Int32} {a_told : Nat → Int32} {a_read : Nat → Int32} {f_farHut : Int32} {f_farSinger : Int32} {f_good : Int32} {f_land : Int32} {f_huts : Int32} {f_singers : Int32} {f_evening : Int32} {a_at : Nat → Int32} {a_knows : Nat → Int32} {a_climbed : Nat → Int32} {a_snow : Nat → Int32} {a_level : Nat → Int32} {f_begun : Int32} {f_minute : Int32} {f_avalanches : Int32} {a_run : Nat → Int32} {a_covers : Nat → Int32} {a_routes : Nat → Int32} {a_longest : Nat → Int32} {a_steep : Nat → Int32} {a_laid : Nat → Int32} {a_far : Nat → Int32} {f_sight : Int32} {a_runs : Nat → Int32} {f_choir : Int32} {f_voices : Int32} {a_rest : Nat → Int64} {a_wins : Nat → Int32} {f_seed : Int32} {a_other : Nat → Int32} {a_kept : Nat → Int32} {P4 : Int32 → Int32 → Prop} {post : Int32 → Prop} {x2 : Int32} {y0 : Int32} {ls : Array Slot}
    (zc : zC p s m args meth c cX11_lastVillage 3 RX11 (some .int))
    (hK : zK E s)
    (hM : mW E q f_code a_tape a_size a_fault a_faultPlace a_many a_lands a_evenings a_sights a_choirs f_reached f_length f_begins f_sort f_value f_word f_wrongAt f_laterFault f_laterPlace a_told a_read f_farHut f_farSinger f_good f_land f_huts f_singers f_evening a_at a_knows a_climbed a_snow a_level f_begun f_minute f_avalanches a_run a_covers a_routes a_longest a_steep a_laid a_far f_sight a_runs f_choir f_voices a_rest a_wins f_seed a_other a_kept s.heap)
    (hP4 : ∀ (x1 : Int32) (x2 : Int32) (ls : Array Slot), P4 x1 x2 → lv_has ls 3 [(0, .ref q), (1, .int x1), (2, .int x2)] → W p l e rm_m_lastVillage s m args below meth c s.heap [] 0 0 (MQ below (vp_Si post) args s 0 0 (fun _ => False)) (F0 m 4 ls []))
    (hl : lv_has ls 3 [(0, .ref q), (2, .int x2)])
    (hw : q_m_lastVillage_37 P4 a_lands f_land f_huts a_run x2 y0 post) :
    W p l e rm_m_lastVillage s m args below meth c s.heap [] 0 0 (MQ below (vp_Si post) args s 0 0 (fun _ => False)) (F0 m 37 ls [.int y0]) := by
  have hx := zc.1
  have hb := zc.2.1
  refine lv_istore_n (lv' := [(1, .int y0), (0, .ref q), (2, .int x2)]) hx hb dX11_lastVillage_37 rfl hl (by decide) rfl (fun ls hl => ?_)
  obtain ⟨v_1, ev_1⟩ : ∃ y : Int32, y = x2 + (1 : Int32) := ⟨_, rfl⟩
  have hw := hw v_1 ev_1
  refine lv_iinc (v := v_1) (k := 2) (lv' := [(2, .int v_1), (1, .int y0), (0, .ref q)]) hx hb dX11_lastVillage_38 hl rfl (by rw [ev_1]; rfl) (by decide) rfl (fun ls hl => ?_)
  refine lv_goto (tgt := 4) hx hb dX11_lastVillage_41 (by decide) ?_
  exact hP4 _ _ _ hw (lv_sub hl [2, 1, 0] rfl)
set_option maxRecDepth 20000 in
theorem t_m_lastVillage_4 {p : Program} {l : Launch} {e : Env} {s : State} {m : MethodId} {args : Array Value} {below : List Frame} {meth : Method} {c : Code} {E : zE} {q : Nat} {f_code : Int32} {a_tape : Nat → Int32} {a_size : Nat → Int32} {a_fault : Nat → Int32} {a_faultPlace : Nat → Int32} {a_many : Nat → Int32} {a_lands : Nat → Int32} {a_evenings : Nat → Int32} {a_sights : Nat → Int32} {a_choirs : Nat → Int32} {f_reached : Int32} {f_length : Int32} {f_begins : Int32} {f_sort : Int32} {f_value : Int32} {f_word : Int64} {f_wrongAt : Int32} {f_laterFault : Int32} {f_laterPlace : Int32} {a_told : Nat → Int32} {a_read : Nat → Int32} {f_farHut : Int32} {f_farSinger : Int32} {f_good : Int32} {f_land : Int32} {f_huts : Int32} {f_singers : Int32} {f_evening : Int32} {a_at : Nat → Int32} {a_knows : Nat → Int32} {a_climbed : Nat → Int32} {a_snow : Nat → Int32} {a_level : Nat → Int32} {f_begun : Int32} {f_minute : Int32} {f_avalanches : Int32} {a_run : Nat → Int32} {a_covers : Nat → Int32} {a_routes : Nat → Int32} {a_longest : Nat → Int32} {a_steep : Nat → Int32} {a_laid : Nat → Int32} {a_far : Nat → Int32} {f_sight : Int32} {a_runs : Nat → Int32} {f_choir : Int32} {f_voices : Int32} {a_rest : Nat → Int64} {a_wins : Nat → Int32} {f_seed : Int32} {a_other : Nat → Int32} {a_kept : Nat → Int32} {post : Int32 → Prop} {x1 : Int32} {x2 : Int32} {ls : Array Slot}
    (zc : zC p s m args meth c cX11_lastVillage 3 RX11 (some .int))
    (hK : zK E s)
    (hM : mW E q f_code a_tape a_size a_fault a_faultPlace a_many a_lands a_evenings a_sights a_choirs f_reached f_length f_begins f_sort f_value f_word f_wrongAt f_laterFault f_laterPlace a_told a_read f_farHut f_farSinger f_good f_land f_huts f_singers f_evening a_at a_knows a_climbed a_snow a_level f_begun f_minute f_avalanches a_run a_covers a_routes a_longest a_steep a_laid a_far f_sight a_runs f_choir f_voices a_rest a_wins f_seed a_other a_kept s.heap)
    (hl : lv_has ls 3 [(0, .ref q), (1, .int x1), (2, .int x2)])
    (hw : q_m_lastVillage_4 a_lands f_land f_huts a_run x1 x2 post) :
    W p l e rm_m_lastVillage s m args below meth c s.heap [] 0 0 (MQ below (vp_Si post) args s 0 0 (fun _ => False)) (F0 m 4 ls []) := by
  have hx := zc.1
  have hb := zc.2.1
  refine hw (fun x1 x2 => ∀ (ls : Array Slot), lv_has ls 3 [(0, .ref q), (1, .int x1), (2, .int x2)] → W p l e rm_m_lastVillage s m args below meth c s.heap [] 0 0 (MQ below (vp_Si post) args s 0 0 (fun _ => False)) (F0 m 4 ls [])) ?_ _ hl
  intro x1 x2 hw ls hl
  refine lv_iload_n hx hb dX11_lastVillage_4 rfl (lv_at hl 2 rfl) ?_
  refine lv_aload_n hx hb dX11_lastVillage_5 rfl (lv_at hl 0 rfl) ?_
  refine mg_11_307_0 zc hK hM dX11_lastVillage_6 ?_
  refine lv_icmp_ge (tgt := 44) hx hb dX11_lastVillage_9 (by decide) (fun hc => ?_) (fun hc => ?_)
  · have hw := hw.1 hc
    refine lv_iload_n hx hb dX11_lastVillage_44 rfl (lv_at hl 1 rfl) ?_
    exact zret_i zc hw dX11_lastVillage_45
  · have hw := hw.2 hc
    refine lv_aload_n hx hb dX11_lastVillage_12 rfl (lv_at hl 0 rfl) ?_
    refine zV_i [] [] zc ky_X11_wanted kz_X11_wanted km_11_420 (c_m_wanted l hw) (mPreV0 hK hM) rfl rfl hl.1 (Nat.le_of_ble_eq_true rfl) ⟨rfl, rfl⟩ ⟨Nat.le_of_ble_eq_true rfl, Nat.le_of_ble_eq_true rfl⟩ ⟨(Nat.zero_le _), (Nat.zero_le _)⟩ dX11_lastVillage_13 (fun r_1 hw => ?_)
    refine lv_iload_n hx hb dX11_lastVillage_16 rfl (lv_at hl 2 rfl) ?_
    refine zS_i [.int r_1, .int x2] [] zc ky_X11_has kz_X11_has km_11_101 (c_m_has l hw) (zPre0 _) rfl rfl hl.1 (Nat.le_of_ble_eq_true rfl) ⟨rfl, rfl⟩ ⟨Nat.le_of_ble_eq_true rfl, Nat.le_of_ble_eq_true rfl⟩ ⟨(Nat.zero_le _), (Nat.zero_le _)⟩ dX11_lastVillage_17 (fun r_2 hw => ?_)
    refine lv_if_eq (tgt := 36) hx hb dX11_lastVillage_20 (by decide) (fun hc => ?_) (fun hc => ?_)
    · have hw := hw.1 hc
      refine lv_iload_n hx hb dX11_lastVillage_36 rfl (lv_at hl 1 rfl) ?_
      exact t_m_lastVillage_37 zc hK hM (fun _ _ ls h hl => h ls hl) (lv_sub hl [0, 2] rfl) hw
    · have hw := hw.2 hc
      refine lv_iload_n hx hb dX11_lastVillage_23 rfl (lv_at hl 1 rfl) ?_
      refine lv_aload_n hx hb dX11_lastVillage_24 rfl (lv_at hl 0 rfl) ?_
      refine mg_11_59_0 zc hK hM dX11_lastVillage_25 ?_
      refine lv_iload_n hx hb dX11_lastVillage_28 rfl (lv_at hl 2 rfl) ?_
      refine mld_17 zc hK hM hw.1 dX11_lastVillage_29 ?_
      have hw := hw.2
      refine zS_i [.int x1, .int (a_run (Int32.toNatClampNeg x2))] [] zc ky_X11_greater kz_X11_greater km_11_171 (c_m_greater l hw) (zPre0 _) rfl rfl hl.1 (Nat.le_of_ble_eq_true rfl) ⟨rfl, rfl⟩ ⟨Nat.le_of_ble_eq_true rfl, Nat.le_of_ble_eq_true rfl⟩ ⟨(Nat.zero_le _), (Nat.zero_le _)⟩ dX11_lastVillage_30 (fun r_3 hw => ?_)
      refine lv_goto (tgt := 37) hx hb dX11_lastVillage_33 (by decide) ?_
      exact t_m_lastVillage_37 zc hK hM (fun _ _ ls h hl => h ls hl) (lv_sub hl [0, 2] rfl) hw
set_option maxRecDepth 20000 in
theorem t_m_lastVillage_0 {p : Program} {l : Launch} {e : Env} {s : State} {m : MethodId} {args : Array Value} {below : List Frame} {meth : Method} {c : Code} {E : zE} {q : Nat} {f_code : Int32} {a_tape : Nat → Int32} {a_size : Nat → Int32} {a_fault : Nat → Int32} {a_faultPlace : Nat → Int32} {a_many : Nat → Int32} {a_lands : Nat → Int32} {a_evenings : Nat → Int32} {a_sights : Nat → Int32} {a_choirs : Nat → Int32} {f_reached : Int32} {f_length : Int32} {f_begins : Int32} {f_sort : Int32} {f_value : Int32} {f_word : Int64} {f_wrongAt : Int32} {f_laterFault : Int32} {f_laterPlace : Int32} {a_told : Nat → Int32} {a_read : Nat → Int32} {f_farHut : Int32} {f_farSinger : Int32} {f_good : Int32} {f_land : Int32} {f_huts : Int32} {f_singers : Int32} {f_evening : Int32} {a_at : Nat → Int32} {a_knows : Nat → Int32} {a_climbed : Nat → Int32} {a_snow : Nat → Int32} {a_level : Nat → Int32} {f_begun : Int32} {f_minute : Int32} {f_avalanches : Int32} {a_run : Nat → Int32} {a_covers : Nat → Int32} {a_routes : Nat → Int32} {a_longest : Nat → Int32} {a_steep : Nat → Int32} {a_laid : Nat → Int32} {a_far : Nat → Int32} {f_sight : Int32} {a_runs : Nat → Int32} {f_choir : Int32} {f_voices : Int32} {a_rest : Nat → Int64} {a_wins : Nat → Int32} {f_seed : Int32} {a_other : Nat → Int32} {a_kept : Nat → Int32} {post : Int32 → Prop} {ls : Array Slot}
    (zc : zC p s m args meth c cX11_lastVillage 3 RX11 (some .int))
    (hK : zK E s)
    (hM : mW E q f_code a_tape a_size a_fault a_faultPlace a_many a_lands a_evenings a_sights a_choirs f_reached f_length f_begins f_sort f_value f_word f_wrongAt f_laterFault f_laterPlace a_told a_read f_farHut f_farSinger f_good f_land f_huts f_singers f_evening a_at a_knows a_climbed a_snow a_level f_begun f_minute f_avalanches a_run a_covers a_routes a_longest a_steep a_laid a_far f_sight a_runs f_choir f_voices a_rest a_wins f_seed a_other a_kept s.heap)
    (hl : lv_has ls 3 [(0, .ref q)])
    (hw : q_m_lastVillage_0 a_lands f_land f_huts a_run post) :
    W p l e rm_m_lastVillage s m args below meth c s.heap [] 0 0 (MQ below (vp_Si post) args s 0 0 (fun _ => False)) (F0 m 0 ls []) := by
  have hx := zc.1
  have hb := zc.2.1
  refine lv_iconst (v := (0 : Int32)) hx hb dX11_lastVillage_0 (by decide) ?_
  refine lv_istore_n (lv' := [(1, .int (0 : Int32)), (0, .ref q)]) hx hb dX11_lastVillage_1 rfl hl (by decide) rfl (fun ls hl => ?_)
  refine lv_iconst (v := (0 : Int32)) hx hb dX11_lastVillage_2 (by decide) ?_
  refine lv_istore_n (lv' := [(2, .int (0 : Int32)), (1, .int (0 : Int32)), (0, .ref q)]) hx hb dX11_lastVillage_3 rfl hl (by decide) rfl (fun ls hl => ?_)
  exact t_m_lastVillage_4 zc hK hM  (lv_sub hl [2, 1, 0] rfl) hw
set_option maxRecDepth 20000 in
theorem c_m_lastVillage (l : Launch) {E : zE} {q : Nat} {f_code : Int32} {a_tape : Nat → Int32} {a_size : Nat → Int32} {a_fault : Nat → Int32} {a_faultPlace : Nat → Int32} {a_many : Nat → Int32} {a_lands : Nat → Int32} {a_evenings : Nat → Int32} {a_sights : Nat → Int32} {a_choirs : Nat → Int32} {f_reached : Int32} {f_length : Int32} {f_begins : Int32} {f_sort : Int32} {f_value : Int32} {f_word : Int64} {f_wrongAt : Int32} {f_laterFault : Int32} {f_laterPlace : Int32} {a_told : Nat → Int32} {a_read : Nat → Int32} {f_farHut : Int32} {f_farSinger : Int32} {f_good : Int32} {f_land : Int32} {f_huts : Int32} {f_singers : Int32} {f_evening : Int32} {a_at : Nat → Int32} {a_knows : Nat → Int32} {a_climbed : Nat → Int32} {a_snow : Nat → Int32} {a_level : Nat → Int32} {f_begun : Int32} {f_minute : Int32} {f_avalanches : Int32} {a_run : Nat → Int32} {a_covers : Nat → Int32} {a_routes : Nat → Int32} {a_longest : Nat → Int32} {a_steep : Nat → Int32} {a_laid : Nat → Int32} {a_far : Nat → Int32} {f_sight : Int32} {a_runs : Nat → Int32} {f_choir : Int32} {f_voices : Int32} {a_rest : Nat → Int64} {a_wins : Nat → Int32} {f_seed : Int32} {a_other : Nat → Int32} {a_kept : Nat → Int32} {post : Int32 → Prop} (hw : q_m_lastVillage_0 a_lands f_land f_huts a_run post) : Met l yX11_lastVillage (Cond.code yX11_lastVillage cX11_lastVillage 3 (some .int) :: zb) rm_m_lastVillage (va_Pc [.ref q] (fun U => mW E q f_code a_tape a_size a_fault a_faultPlace a_many a_lands a_evenings a_sights a_choirs f_reached f_length f_begins f_sort f_value f_word f_wrongAt f_laterFault f_laterPlace a_told a_read f_farHut f_farSinger f_good f_land f_huts f_singers f_evening a_at a_knows a_climbed a_snow a_level f_begun f_minute f_avalanches a_run a_covers a_routes a_longest a_steep a_laid a_far f_sight a_runs f_choir f_voices a_rest a_wins f_seed a_other a_kept U.heap ∧ zK E U)) (vp_Si post) 0 0 (fun _ => False) := by
  refine Met.ofW (cc := cX11_lastVillage) (maxL := 3) (ret := (some .int)) (by decide) rfl ?_
  intro p e s m args below meth c s₁ B hml hv
  obtain ⟨rfl, hM, hK⟩ := hv
  have zc := zc_of B hml
  have hl := lv_entry ([.ref q]) (n := 3) (Nat.le_of_ble_eq_true rfl)
  rw [lg_entry_eq]
  generalize (lg_sl ([.ref q]) ++ List.replicate (3 - (lg_sl ([.ref q])).length) Slot.unset).toArray = ls at hl ⊢
  have hl : lv_has ls 3 [(0, .ref q)] := hl
  exact t_m_lastVillage_0 zc hK hM (lv_sub hl [0] rfl) hw
-- m_comesBy
abbrev rm_m_comesBy : Room := { frames := 0, cells := 0, slots := 0, locals := 0 }
def q_m_comesBy_30 (P4 : Int32 → Int32 → Prop) (f_huts : Int32) (a_run : Nat → Int32) (x1 : Int32) (x3 : Int32) (y0 : Int32) (y1 : Int32) (post : Int32 → Prop) : Prop :=
  ∀ v_1 : Int32, v_1 = (y0 ||| y1) → (∀ v_2 : Int32, v_2 = x3 + (1 : Int32) → (P4 v_1 v_2))
def q_m_comesBy_4 (f_huts : Int32) (a_run : Nat → Int32) (x1 : Int32) (x2 : Int32) (x3 : Int32) (post : Int32 → Prop) : Prop :=
  ∀ P4 : Int32 → Int32 → Prop, (∀ (x2 : Int32) (x3 : Int32), ((f_huts ≤ x3 → (post x2)) ∧ (¬ f_huts ≤ x3 → (vp_in x3 9 ∧ ((x1 < (a_run (Int32.toNatClampNeg x3)) → (q_m_comesBy_30 P4 f_huts a_run x1 x3 x2 (0 : Int32) post)) ∧ (¬ x1 < (a_run (Int32.toNatClampNeg x3)) → (q_m_comesBy_30 P4 f_huts a_run x1 x3 x2 ((1 : Int32) <<< (x3 &&& 31)) post)))))) → P4 x2 x3) → P4 x2 x3
def q_m_comesBy_0 (f_huts : Int32) (a_run : Nat → Int32) (x1 : Int32) (post : Int32 → Prop) : Prop :=
  q_m_comesBy_4 f_huts a_run x1 (0 : Int32) (0 : Int32) post
set_option maxRecDepth 20000 in
theorem t_m_comesBy_30 {p : Program} {l : Launch} {e : Env} {s : State} {m : MethodId} {args : Array Value} {below : List Frame} {meth : Method} {c : Code} {E : zE} {q : Nat} {f_code : Int32} {a_tape : Nat → Int32} {a_size : Nat → Int32} {a_fault : Nat → Int32} {a_faultPlace : Nat → Int32} {a_many : Nat → Int32} {a_lands : Nat → Int32} {a_evenings : Nat → Int32} {a_sights : Nat → Int32} {a_choirs : Nat → Int32} {f_reached : Int32} {f_length : Int32} {f_begins : Int32} {f_sort : Int32} {f_value : Int32} {f_word : Int64} {f_wrongAt : Int32} {f_laterFault : Int32} {f_laterPlace : Int32} {a_told : Nat → Int32} {a_read : Nat → Int32} {f_farHut : Int32} {f_farSinger : Int32} {f_good : Int32} {f_land : Int32} {f_huts : Int32} {f_singers : Int32} {f_evening : Int32} {a_at : Nat → Int32} {a_knows : Nat → Int32} {a_climbed : Nat → Int32} {a_snow : Nat → Int32} {a_level : Nat → Int32} {f_begun : Int32} {f_minute : Int32} {f_avalanches : Int32} {a_run : Nat → Int32} {a_covers : Nat → Int32} {a_routes : Nat → Int32} {a_longest : Nat → Int32} {a_steep : Nat → Int32} {a_laid : Nat → Int32} {a_far : Nat → Int32} {f_sight : Int32} {a_runs : Nat → Int32} {f_choir : Int32} {f_voices : Int32} {a_rest : Nat → Int64} {a_wins : Nat → Int32} {f_seed : Int32} {a_other : Nat → Int32} {a_kept : Nat → Int32} {P4 : Int32 → Int32 → Prop} {post : Int32 → Prop} {x1 : Int32} {x3 : Int32} {y0 : Int32} {y1 : Int32} {ls : Array Slot}
    (zc : zC p s m args meth c cX11_comesBy 4 RX11 (some .int))
    (hK : zK E s)
    (hM : mW E q f_code a_tape a_size a_fault a_faultPlace a_many a_lands a_evenings a_sights a_choirs f_reached f_length f_begins f_sort f_value f_word f_wrongAt f_laterFault f_laterPlace a_told a_read f_farHut f_farSinger f_good f_land f_huts f_singers f_evening a_at a_knows a_climbed a_snow a_level f_begun f_minute f_avalanches a_run a_covers a_routes a_longest a_steep a_laid a_far f_sight a_runs f_choir f_voices a_rest a_wins f_seed a_other a_kept s.heap)
    (hP4 : ∀ (x2 : Int32) (x3 : Int32) (ls : Array Slot), P4 x2 x3 → lv_has ls 4 [(0, .ref q), (1, .int x1), (2, .int x2), (3, .int x3)] → W p l e rm_m_comesBy s m args below meth c s.heap [] 0 0 (MQ below (vp_Si post) args s 0 0 (fun _ => False)) (F0 m 4 ls []))
    (hl : lv_has ls 4 [(0, .ref q), (1, .int x1), (3, .int x3)])
    (hw : q_m_comesBy_30 P4 f_huts a_run x1 x3 y0 y1 post) :
    W p l e rm_m_comesBy s m args below meth c s.heap [] 0 0 (MQ below (vp_Si post) args s 0 0 (fun _ => False)) (F0 m 30 ls [.int y1, .int y0]) := by
  have hx := zc.1
  have hb := zc.2.1
  refine lv_ior hx hb dX11_comesBy_30 ?_
  refine lv_topi (fun v_1 ev_1 => ?_)
  have hw := hw v_1 ev_1
  refine lv_istore_n (lv' := [(2, .int v_1), (0, .ref q), (1, .int x1), (3, .int x3)]) hx hb dX11_comesBy_31 rfl hl (by decide) rfl (fun ls hl => ?_)
  obtain ⟨v_2, ev_2⟩ : ∃ y : Int32, y = x3 + (1 : Int32) := ⟨_, rfl⟩
  have hw := hw v_2 ev_2
  refine lv_iinc (v := v_2) (k := 3) (lv' := [(3, .int v_2), (2, .int v_1), (0, .ref q), (1, .int x1)]) hx hb dX11_comesBy_32 hl rfl (by rw [ev_2]; rfl) (by decide) rfl (fun ls hl => ?_)
  refine lv_goto (tgt := 4) hx hb dX11_comesBy_35 (by decide) ?_
  exact hP4 _ _ _ hw (lv_sub hl [2, 3, 1, 0] rfl)
set_option maxRecDepth 20000 in
theorem t_m_comesBy_4 {p : Program} {l : Launch} {e : Env} {s : State} {m : MethodId} {args : Array Value} {below : List Frame} {meth : Method} {c : Code} {E : zE} {q : Nat} {f_code : Int32} {a_tape : Nat → Int32} {a_size : Nat → Int32} {a_fault : Nat → Int32} {a_faultPlace : Nat → Int32} {a_many : Nat → Int32} {a_lands : Nat → Int32} {a_evenings : Nat → Int32} {a_sights : Nat → Int32} {a_choirs : Nat → Int32} {f_reached : Int32} {f_length : Int32} {f_begins : Int32} {f_sort : Int32} {f_value : Int32} {f_word : Int64} {f_wrongAt : Int32} {f_laterFault : Int32} {f_laterPlace : Int32} {a_told : Nat → Int32} {a_read : Nat → Int32} {f_farHut : Int32} {f_farSinger : Int32} {f_good : Int32} {f_land : Int32} {f_huts : Int32} {f_singers : Int32} {f_evening : Int32} {a_at : Nat → Int32} {a_knows : Nat → Int32} {a_climbed : Nat → Int32} {a_snow : Nat → Int32} {a_level : Nat → Int32} {f_begun : Int32} {f_minute : Int32} {f_avalanches : Int32} {a_run : Nat → Int32} {a_covers : Nat → Int32} {a_routes : Nat → Int32} {a_longest : Nat → Int32} {a_steep : Nat → Int32} {a_laid : Nat → Int32} {a_far : Nat → Int32} {f_sight : Int32} {a_runs : Nat → Int32} {f_choir : Int32} {f_voices : Int32} {a_rest : Nat → Int64} {a_wins : Nat → Int32} {f_seed : Int32} {a_other : Nat → Int32} {a_kept : Nat → Int32} {post : Int32 → Prop} {x1 : Int32} {x2 : Int32} {x3 : Int32} {ls : Array Slot}
    (zc : zC p s m args meth c cX11_comesBy 4 RX11 (some .int))
    (hK : zK E s)
    (hM : mW E q f_code a_tape a_size a_fault a_faultPlace a_many a_lands a_evenings a_sights a_choirs f_reached f_length f_begins f_sort f_value f_word f_wrongAt f_laterFault f_laterPlace a_told a_read f_farHut f_farSinger f_good f_land f_huts f_singers f_evening a_at a_knows a_climbed a_snow a_level f_begun f_minute f_avalanches a_run a_covers a_routes a_longest a_steep a_laid a_far f_sight a_runs f_choir f_voices a_rest a_wins f_seed a_other a_kept s.heap)
    (hl : lv_has ls 4 [(0, .ref q), (1, .int x1), (2, .int x2), (3, .int x3)])
    (hw : q_m_comesBy_4 f_huts a_run x1 x2 x3 post) :
    W p l e rm_m_comesBy s m args below meth c s.heap [] 0 0 (MQ below (vp_Si post) args s 0 0 (fun _ => False)) (F0 m 4 ls []) := by
  have hx := zc.1
  have hb := zc.2.1
  refine hw (fun x2 x3 => ∀ (ls : Array Slot), lv_has ls 4 [(0, .ref q), (1, .int x1), (2, .int x2), (3, .int x3)] → W p l e rm_m_comesBy s m args below meth c s.heap [] 0 0 (MQ below (vp_Si post) args s 0 0 (fun _ => False)) (F0 m 4 ls [])) ?_ _ hl
  intro x2 x3 hw ls hl
  refine lv_iload_n hx hb dX11_comesBy_4 rfl (lv_at hl 3 rfl) ?_
  refine lv_aload_n hx hb dX11_comesBy_5 rfl (lv_at hl 0 rfl) ?_
  refine mg_11_307_0 zc hK hM dX11_comesBy_6 ?_
  refine lv_icmp_ge (tgt := 38) hx hb dX11_comesBy_9 (by decide) (fun hc => ?_) (fun hc => ?_)
  · have hw := hw.1 hc
    refine lv_iload_n hx hb dX11_comesBy_38 rfl (lv_at hl 2 rfl) ?_
    exact zret_i zc hw dX11_comesBy_39
  · have hw := hw.2 hc
    refine lv_iload_n hx hb dX11_comesBy_12 rfl (lv_at hl 2 rfl) ?_
    refine lv_aload_n hx hb dX11_comesBy_13 rfl (lv_at hl 0 rfl) ?_
    refine mg_11_59_0 zc hK hM dX11_comesBy_14 ?_
    refine lv_iload_n hx hb dX11_comesBy_17 rfl (lv_at hl 3 rfl) ?_
    refine mld_17 zc hK hM hw.1 dX11_comesBy_18 ?_
    have hw := hw.2
    refine lv_iload_n hx hb dX11_comesBy_19 rfl (lv_at hl 1 rfl) ?_
    refine lv_icmp_gt (tgt := 29) hx hb dX11_comesBy_20 (by decide) (fun hc => ?_) (fun hc => ?_)
    · have hw := hw.1 hc
      refine lv_iconst (v := (0 : Int32)) hx hb dX11_comesBy_29 (by decide) ?_
      exact t_m_comesBy_30 zc hK hM (fun _ _ ls h hl => h ls hl) (lv_sub hl [0, 1, 3] rfl) hw
    · have hw := hw.2 hc
      refine lv_iconst (v := (1 : Int32)) hx hb dX11_comesBy_23 (by decide) ?_
      refine lv_iload_n hx hb dX11_comesBy_24 rfl (lv_at hl 3 rfl) ?_
      refine lv_ishl hx hb dX11_comesBy_25 ?_
      refine lv_goto (tgt := 30) hx hb dX11_comesBy_26 (by decide) ?_
      exact t_m_comesBy_30 zc hK hM (fun _ _ ls h hl => h ls hl) (lv_sub hl [0, 1, 3] rfl) hw
set_option maxRecDepth 20000 in
theorem t_m_comesBy_0 {p : Program} {l : Launch} {e : Env} {s : State} {m : MethodId} {args : Array Value} {below : List Frame} {meth : Method} {c : Code} {E : zE} {q : Nat} {f_code : Int32} {a_tape : Nat → Int32} {a_size : Nat → Int32} {a_fault : Nat → Int32} {a_faultPlace : Nat → Int32} {a_many : Nat → Int32} {a_lands : Nat → Int32} {a_evenings : Nat → Int32} {a_sights : Nat → Int32} {a_choirs : Nat → Int32} {f_reached : Int32} {f_length : Int32} {f_begins : Int32} {f_sort : Int32} {f_value : Int32} {f_word : Int64} {f_wrongAt : Int32} {f_laterFault : Int32} {f_laterPlace : Int32} {a_told : Nat → Int32} {a_read : Nat → Int32} {f_farHut : Int32} {f_farSinger : Int32} {f_good : Int32} {f_land : Int32} {f_huts : Int32} {f_singers : Int32} {f_evening : Int32} {a_at : Nat → Int32} {a_knows : Nat → Int32} {a_climbed : Nat → Int32} {a_snow : Nat → Int32} {a_level : Nat → Int32} {f_begun : Int32} {f_minute : Int32} {f_avalanches : Int32} {a_run : Nat → Int32} {a_covers : Nat → Int32} {a_routes : Nat → Int32} {a_longest : Nat → Int32} {a_steep : Nat → Int32} {a_laid : Nat → Int32} {a_far : Nat → Int32} {f_sight : Int32} {a_runs : Nat → Int32} {f_choir : Int32} {f_voices : Int32} {a_rest : Nat → Int64} {a_wins : Nat → Int32} {f_seed : Int32} {a_other : Nat → Int32} {a_kept : Nat → Int32} {post : Int32 → Prop} {x1 : Int32} {ls : Array Slot}
    (zc : zC p s m args meth c cX11_comesBy 4 RX11 (some .int))
    (hK : zK E s)
    (hM : mW E q f_code a_tape a_size a_fault a_faultPlace a_many a_lands a_evenings a_sights a_choirs f_reached f_length f_begins f_sort f_value f_word f_wrongAt f_laterFault f_laterPlace a_told a_read f_farHut f_farSinger f_good f_land f_huts f_singers f_evening a_at a_knows a_climbed a_snow a_level f_begun f_minute f_avalanches a_run a_covers a_routes a_longest a_steep a_laid a_far f_sight a_runs f_choir f_voices a_rest a_wins f_seed a_other a_kept s.heap)
    (hl : lv_has ls 4 [(0, .ref q), (1, .int x1)])
    (hw : q_m_comesBy_0 f_huts a_run x1 post) :
    W p l e rm_m_comesBy s m args below meth c s.heap [] 0 0 (MQ below (vp_Si post) args s 0 0 (fun _ => False)) (F0 m 0 ls []) := by
  have hx := zc.1
  have hb := zc.2.1
  refine lv_iconst (v := (0 : Int32)) hx hb dX11_comesBy_0 (by decide) ?_
  refine lv_istore_n (lv' := [(2, .int (0 : Int32)), (0, .ref q), (1, .int x1)]) hx hb dX11_comesBy_1 rfl hl (by decide) rfl (fun ls hl => ?_)
  refine lv_iconst (v := (0 : Int32)) hx hb dX11_comesBy_2 (by decide) ?_
  refine lv_istore_n (lv' := [(3, .int (0 : Int32)), (2, .int (0 : Int32)), (0, .ref q), (1, .int x1)]) hx hb dX11_comesBy_3 rfl hl (by decide) rfl (fun ls hl => ?_)
  exact t_m_comesBy_4 zc hK hM  (lv_sub hl [2, 3, 1, 0] rfl) hw
set_option maxRecDepth 20000 in
theorem c_m_comesBy (l : Launch) {E : zE} {q : Nat} {f_code : Int32} {a_tape : Nat → Int32} {a_size : Nat → Int32} {a_fault : Nat → Int32} {a_faultPlace : Nat → Int32} {a_many : Nat → Int32} {a_lands : Nat → Int32} {a_evenings : Nat → Int32} {a_sights : Nat → Int32} {a_choirs : Nat → Int32} {f_reached : Int32} {f_length : Int32} {f_begins : Int32} {f_sort : Int32} {f_value : Int32} {f_word : Int64} {f_wrongAt : Int32} {f_laterFault : Int32} {f_laterPlace : Int32} {a_told : Nat → Int32} {a_read : Nat → Int32} {f_farHut : Int32} {f_farSinger : Int32} {f_good : Int32} {f_land : Int32} {f_huts : Int32} {f_singers : Int32} {f_evening : Int32} {a_at : Nat → Int32} {a_knows : Nat → Int32} {a_climbed : Nat → Int32} {a_snow : Nat → Int32} {a_level : Nat → Int32} {f_begun : Int32} {f_minute : Int32} {f_avalanches : Int32} {a_run : Nat → Int32} {a_covers : Nat → Int32} {a_routes : Nat → Int32} {a_longest : Nat → Int32} {a_steep : Nat → Int32} {a_laid : Nat → Int32} {a_far : Nat → Int32} {f_sight : Int32} {a_runs : Nat → Int32} {f_choir : Int32} {f_voices : Int32} {a_rest : Nat → Int64} {a_wins : Nat → Int32} {f_seed : Int32} {a_other : Nat → Int32} {a_kept : Nat → Int32} {x1 : Int32} {post : Int32 → Prop} (hw : q_m_comesBy_0 f_huts a_run x1 post) : Met l yX11_comesBy (Cond.code yX11_comesBy cX11_comesBy 4 (some .int) :: zb) rm_m_comesBy (va_Pc [.ref q, .int x1] (fun U => mW E q f_code a_tape a_size a_fault a_faultPlace a_many a_lands a_evenings a_sights a_choirs f_reached f_length f_begins f_sort f_value f_word f_wrongAt f_laterFault f_laterPlace a_told a_read f_farHut f_farSinger f_good f_land f_huts f_singers f_evening a_at a_knows a_climbed a_snow a_level f_begun f_minute f_avalanches a_run a_covers a_routes a_longest a_steep a_laid a_far f_sight a_runs f_choir f_voices a_rest a_wins f_seed a_other a_kept U.heap ∧ zK E U)) (vp_Si post) 0 0 (fun _ => False) := by
  refine Met.ofW (cc := cX11_comesBy) (maxL := 4) (ret := (some .int)) (by decide) rfl ?_
  intro p e s m args below meth c s₁ B hml hv
  obtain ⟨rfl, hM, hK⟩ := hv
  have zc := zc_of B hml
  have hl := lv_entry ([.ref q, .int x1]) (n := 4) (Nat.le_of_ble_eq_true rfl)
  rw [lg_entry_eq]
  generalize (lg_sl ([.ref q, .int x1]) ++ List.replicate (4 - (lg_sl ([.ref q, .int x1])).length) Slot.unset).toArray = ls at hl ⊢
  have hl : lv_has ls 4 [(0, .ref q), (1, .int x1)] := hl
  exact t_m_comesBy_0 zc hK hM (lv_sub hl [0, 1] rfl) hw
-- m_allBy
abbrev rm_m_allBy : Room := { frames := 3, cells := 0, slots := 0, locals := 70 }
def q_m_allBy_53 (P4 : Int32 → Int32 → (Nat → Int32) → (Nat → Int32) → Prop) (a_lands : Nat → Int32) (f_land : Int32) (f_huts : Int32) (a_run : Nat → Int32) (a_covers : Nat → Int32) (x1 : Int32) (x3 : Int32) (y0 : Int32) (y1 : Int32) (post : Int32 → (Nat → Int32) → (Nat → Int32) → Prop) : Prop :=
  ∀ v_1 : Int32, v_1 = (y0 ||| y1) → (∀ v_2 : Int32, v_2 = x3 + (1 : Int32) → (P4 v_1 v_2 a_run a_covers))
def q_m_allBy_52 (P4 : Int32 → Int32 → (Nat → Int32) → (Nat → Int32) → Prop) (a_lands : Nat → Int32) (f_land : Int32) (f_huts : Int32) (a_run : Nat → Int32) (a_covers : Nat → Int32) (x1 : Int32) (x3 : Int32) (y0 : Int32) (post : Int32 → (Nat → Int32) → (Nat → Int32) → Prop) : Prop :=
  q_m_allBy_53 P4 a_lands f_land f_huts a_run a_covers x1 x3 y0 (0 : Int32) post
def q_m_allBy_4 (a_lands : Nat → Int32) (f_land : Int32) (f_huts : Int32) (a_run : Nat → Int32) (a_covers : Nat → Int32) (x1 : Int32) (x2 : Int32) (x3 : Int32) (post : Int32 → (Nat → Int32) → (Nat → Int32) → Prop) : Prop :=
  ∀ P4 : Int32 → Int32 → (Nat → Int32) → (Nat → Int32) → Prop, (∀ (x2 : Int32) (x3 : Int32) (a_run : Nat → Int32) (a_covers : Nat → Int32), ((f_huts ≤ x3 → (post x2 a_run a_covers)) ∧ (¬ f_huts ≤ x3 → (q_m_findRun_0 a_lands f_land f_huts a_run x3 (0 : Int32) (fun a_run_1 => q_m_comesBy_0 f_huts a_run_1 x1 (fun r_1 => vp_in x3 9 ∧ (∀ a_covers_1 : Nat → Int32, a_covers_1 = upd a_covers (Int32.toNatClampNeg x3) r_1 → (q_m_isDam_0 a_lands f_land x3 (fun r_2 => (¬ r_2 = 0 → (q_m_allBy_52 P4 a_lands f_land f_huts a_run_1 a_covers_1 x1 x3 x2 post)) ∧ (r_2 = 0 → (q_m_lastVillage_0 a_lands f_land f_huts a_run_1 (fun r_3 => (x1 < r_3 → (q_m_allBy_52 P4 a_lands f_land f_huts a_run_1 a_covers_1 x1 x3 x2 post)) ∧ (¬ x1 < r_3 → (q_m_allBy_53 P4 a_lands f_land f_huts a_run_1 a_covers_1 x1 x3 x2 ((1 : Int32) <<< (x3 &&& 31)) post))))))))))))) → P4 x2 x3 a_run a_covers) → P4 x2 x3 a_run a_covers
def q_m_allBy_0 (a_lands : Nat → Int32) (f_land : Int32) (f_huts : Int32) (a_run : Nat → Int32) (a_covers : Nat → Int32) (x1 : Int32) (post : Int32 → (Nat → Int32) → (Nat → Int32) → Prop) : Prop :=
  q_m_allBy_4 a_lands f_land f_huts a_run a_covers x1 (0 : Int32) (0 : Int32) post
set_option maxRecDepth 20000 in
theorem t_m_allBy_53 {p : Program} {l : Launch} {e : Env} {s : State} {m : MethodId} {args : Array Value} {below : List Frame} {meth : Method} {c : Code} {E : zE} {q : Nat} {f_code : Int32} {a_tape : Nat → Int32} {a_size : Nat → Int32} {a_fault : Nat → Int32} {a_faultPlace : Nat → Int32} {a_many : Nat → Int32} {a_lands : Nat → Int32} {a_evenings : Nat → Int32} {a_sights : Nat → Int32} {a_choirs : Nat → Int32} {f_reached : Int32} {f_length : Int32} {f_begins : Int32} {f_sort : Int32} {f_value : Int32} {f_word : Int64} {f_wrongAt : Int32} {f_laterFault : Int32} {f_laterPlace : Int32} {a_told : Nat → Int32} {a_read : Nat → Int32} {f_farHut : Int32} {f_farSinger : Int32} {f_good : Int32} {f_land : Int32} {f_huts : Int32} {f_singers : Int32} {f_evening : Int32} {a_at : Nat → Int32} {a_knows : Nat → Int32} {a_climbed : Nat → Int32} {a_snow : Nat → Int32} {a_level : Nat → Int32} {f_begun : Int32} {f_minute : Int32} {f_avalanches : Int32} {a_run : Nat → Int32} {a_covers : Nat → Int32} {a_routes : Nat → Int32} {a_longest : Nat → Int32} {a_steep : Nat → Int32} {a_laid : Nat → Int32} {a_far : Nat → Int32} {f_sight : Int32} {a_runs : Nat → Int32} {f_choir : Int32} {f_voices : Int32} {a_rest : Nat → Int64} {a_wins : Nat → Int32} {f_seed : Int32} {a_other : Nat → Int32} {a_kept : Nat → Int32} {P4 : Int32 → Int32 → (Nat → Int32) → (Nat → Int32) → Prop} {post : Int32 → (Nat → Int32) → (Nat → Int32) → Prop} {x1 : Int32} {x3 : Int32} {y0 : Int32} {y1 : Int32} {ls : Array Slot} {H : Heap} {locs : List Loc}
    (zc : zC p s m args meth c cX11_allBy 4 RX11 (some .int))
    (hK : zK E s)
    (hM : mW E q f_code a_tape a_size a_fault a_faultPlace a_many a_lands a_evenings a_sights a_choirs f_reached f_length f_begins f_sort f_value f_word f_wrongAt f_laterFault f_laterPlace a_told a_read f_farHut f_farSinger f_good f_land f_huts f_singers f_evening a_at a_knows a_climbed a_snow a_level f_begun f_minute f_avalanches a_run a_covers a_routes a_longest a_steep a_laid a_far f_sight a_runs f_choir f_voices a_rest a_wins f_seed a_other a_kept H)
    (hS : va_S (mA q) s.heap H locs)
    (hP4 : ∀ (x2 : Int32) (x3 : Int32) (a_run : Nat → Int32) (a_covers : Nat → Int32) (H : Heap) (locs : List Loc) (ls : Array Slot), P4 x2 x3 a_run a_covers → lv_has ls 4 [(0, .ref q), (1, .int x1), (2, .int x2), (3, .int x3)] → mW E q f_code a_tape a_size a_fault a_faultPlace a_many a_lands a_evenings a_sights a_choirs f_reached f_length f_begins f_sort f_value f_word f_wrongAt f_laterFault f_laterPlace a_told a_read f_farHut f_farSinger f_good f_land f_huts f_singers f_evening a_at a_knows a_climbed a_snow a_level f_begun f_minute f_avalanches a_run a_covers a_routes a_longest a_steep a_laid a_far f_sight a_runs f_choir f_voices a_rest a_wins f_seed a_other a_kept H → va_S (mA q) s.heap H locs → W p l e rm_m_allBy s m args below meth c H locs 0 0 (MQ below (zQi (S := (Nat → Int32) × (Nat → Int32)) (fun r u => post r u.1 u.2) (fun u H => mW E q f_code a_tape a_size a_fault a_faultPlace a_many a_lands a_evenings a_sights a_choirs f_reached f_length f_begins f_sort f_value f_word f_wrongAt f_laterFault f_laterPlace a_told a_read f_farHut f_farSinger f_good f_land f_huts f_singers f_evening a_at a_knows a_climbed a_snow a_level f_begun f_minute f_avalanches u.1 u.2 a_routes a_longest a_steep a_laid a_far f_sight a_runs f_choir f_voices a_rest a_wins f_seed a_other a_kept H) (mA q)) args s 0 0 (mA q)) (F0 m 4 ls []))
    (hl : lv_has ls 4 [(0, .ref q), (1, .int x1), (3, .int x3)])
    (hw : q_m_allBy_53 P4 a_lands f_land f_huts a_run a_covers x1 x3 y0 y1 post) :
    W p l e rm_m_allBy s m args below meth c H locs 0 0 (MQ below (zQi (S := (Nat → Int32) × (Nat → Int32)) (fun r u => post r u.1 u.2) (fun u H => mW E q f_code a_tape a_size a_fault a_faultPlace a_many a_lands a_evenings a_sights a_choirs f_reached f_length f_begins f_sort f_value f_word f_wrongAt f_laterFault f_laterPlace a_told a_read f_farHut f_farSinger f_good f_land f_huts f_singers f_evening a_at a_knows a_climbed a_snow a_level f_begun f_minute f_avalanches u.1 u.2 a_routes a_longest a_steep a_laid a_far f_sight a_runs f_choir f_voices a_rest a_wins f_seed a_other a_kept H) (mA q)) args s 0 0 (mA q)) (F0 m 53 ls [.int y1, .int y0]) := by
  have hx := zc.1
  have hb := zc.2.1
  refine lv_ior hx hb dX11_allBy_53 ?_
  refine lv_topi (fun v_1 ev_1 => ?_)
  have hw := hw v_1 ev_1
  refine lv_istore_n (lv' := [(2, .int v_1), (0, .ref q), (1, .int x1), (3, .int x3)]) hx hb dX11_allBy_54 rfl hl (by decide) rfl (fun ls hl => ?_)
  obtain ⟨v_2, ev_2⟩ : ∃ y : Int32, y = x3 + (1 : Int32) := ⟨_, rfl⟩
  have hw := hw v_2 ev_2
  refine lv_iinc (v := v_2) (k := 3) (lv' := [(3, .int v_2), (2, .int v_1), (0, .ref q), (1, .int x1)]) hx hb dX11_allBy_55 hl rfl (by rw [ev_2]; rfl) (by decide) rfl (fun ls hl => ?_)
  refine lv_goto (tgt := 4) hx hb dX11_allBy_58 (by decide) ?_
  exact hP4 _ _ _ _ _ _ _ hw (lv_sub hl [2, 3, 1, 0] rfl) hM hS
set_option maxRecDepth 20000 in
theorem t_m_allBy_52 {p : Program} {l : Launch} {e : Env} {s : State} {m : MethodId} {args : Array Value} {below : List Frame} {meth : Method} {c : Code} {E : zE} {q : Nat} {f_code : Int32} {a_tape : Nat → Int32} {a_size : Nat → Int32} {a_fault : Nat → Int32} {a_faultPlace : Nat → Int32} {a_many : Nat → Int32} {a_lands : Nat → Int32} {a_evenings : Nat → Int32} {a_sights : Nat → Int32} {a_choirs : Nat → Int32} {f_reached : Int32} {f_length : Int32} {f_begins : Int32} {f_sort : Int32} {f_value : Int32} {f_word : Int64} {f_wrongAt : Int32} {f_laterFault : Int32} {f_laterPlace : Int32} {a_told : Nat → Int32} {a_read : Nat → Int32} {f_farHut : Int32} {f_farSinger : Int32} {f_good : Int32} {f_land : Int32} {f_huts : Int32} {f_singers : Int32} {f_evening : Int32} {a_at : Nat → Int32} {a_knows : Nat → Int32} {a_climbed : Nat → Int32} {a_snow : Nat → Int32} {a_level : Nat → Int32} {f_begun : Int32} {f_minute : Int32} {f_avalanches : Int32} {a_run : Nat → Int32} {a_covers : Nat → Int32} {a_routes : Nat → Int32} {a_longest : Nat → Int32} {a_steep : Nat → Int32} {a_laid : Nat → Int32} {a_far : Nat → Int32} {f_sight : Int32} {a_runs : Nat → Int32} {f_choir : Int32} {f_voices : Int32} {a_rest : Nat → Int64} {a_wins : Nat → Int32} {f_seed : Int32} {a_other : Nat → Int32} {a_kept : Nat → Int32} {P4 : Int32 → Int32 → (Nat → Int32) → (Nat → Int32) → Prop} {post : Int32 → (Nat → Int32) → (Nat → Int32) → Prop} {x1 : Int32} {x3 : Int32} {y0 : Int32} {ls : Array Slot} {H : Heap} {locs : List Loc}
    (zc : zC p s m args meth c cX11_allBy 4 RX11 (some .int))
    (hK : zK E s)
    (hM : mW E q f_code a_tape a_size a_fault a_faultPlace a_many a_lands a_evenings a_sights a_choirs f_reached f_length f_begins f_sort f_value f_word f_wrongAt f_laterFault f_laterPlace a_told a_read f_farHut f_farSinger f_good f_land f_huts f_singers f_evening a_at a_knows a_climbed a_snow a_level f_begun f_minute f_avalanches a_run a_covers a_routes a_longest a_steep a_laid a_far f_sight a_runs f_choir f_voices a_rest a_wins f_seed a_other a_kept H)
    (hS : va_S (mA q) s.heap H locs)
    (hP4 : ∀ (x2 : Int32) (x3 : Int32) (a_run : Nat → Int32) (a_covers : Nat → Int32) (H : Heap) (locs : List Loc) (ls : Array Slot), P4 x2 x3 a_run a_covers → lv_has ls 4 [(0, .ref q), (1, .int x1), (2, .int x2), (3, .int x3)] → mW E q f_code a_tape a_size a_fault a_faultPlace a_many a_lands a_evenings a_sights a_choirs f_reached f_length f_begins f_sort f_value f_word f_wrongAt f_laterFault f_laterPlace a_told a_read f_farHut f_farSinger f_good f_land f_huts f_singers f_evening a_at a_knows a_climbed a_snow a_level f_begun f_minute f_avalanches a_run a_covers a_routes a_longest a_steep a_laid a_far f_sight a_runs f_choir f_voices a_rest a_wins f_seed a_other a_kept H → va_S (mA q) s.heap H locs → W p l e rm_m_allBy s m args below meth c H locs 0 0 (MQ below (zQi (S := (Nat → Int32) × (Nat → Int32)) (fun r u => post r u.1 u.2) (fun u H => mW E q f_code a_tape a_size a_fault a_faultPlace a_many a_lands a_evenings a_sights a_choirs f_reached f_length f_begins f_sort f_value f_word f_wrongAt f_laterFault f_laterPlace a_told a_read f_farHut f_farSinger f_good f_land f_huts f_singers f_evening a_at a_knows a_climbed a_snow a_level f_begun f_minute f_avalanches u.1 u.2 a_routes a_longest a_steep a_laid a_far f_sight a_runs f_choir f_voices a_rest a_wins f_seed a_other a_kept H) (mA q)) args s 0 0 (mA q)) (F0 m 4 ls []))
    (hl : lv_has ls 4 [(0, .ref q), (1, .int x1), (3, .int x3)])
    (hw : q_m_allBy_52 P4 a_lands f_land f_huts a_run a_covers x1 x3 y0 post) :
    W p l e rm_m_allBy s m args below meth c H locs 0 0 (MQ below (zQi (S := (Nat → Int32) × (Nat → Int32)) (fun r u => post r u.1 u.2) (fun u H => mW E q f_code a_tape a_size a_fault a_faultPlace a_many a_lands a_evenings a_sights a_choirs f_reached f_length f_begins f_sort f_value f_word f_wrongAt f_laterFault f_laterPlace a_told a_read f_farHut f_farSinger f_good f_land f_huts f_singers f_evening a_at a_knows a_climbed a_snow a_level f_begun f_minute f_avalanches u.1 u.2 a_routes a_longest a_steep a_laid a_far f_sight a_runs f_choir f_voices a_rest a_wins f_seed a_other a_kept H) (mA q)) args s 0 0 (mA q)) (F0 m 52 ls [.int y0]) := by
  have hx := zc.1
  have hb := zc.2.1
  refine lv_iconst (v := (0 : Int32)) hx hb dX11_allBy_52 (by decide) ?_
  exact t_m_allBy_53 zc hK hM hS hP4 (lv_sub hl [0, 1, 2] rfl) hw
set_option maxRecDepth 20000 in
theorem t_m_allBy_4 {p : Program} {l : Launch} {e : Env} {s : State} {m : MethodId} {args : Array Value} {below : List Frame} {meth : Method} {c : Code} {E : zE} {q : Nat} {f_code : Int32} {a_tape : Nat → Int32} {a_size : Nat → Int32} {a_fault : Nat → Int32} {a_faultPlace : Nat → Int32} {a_many : Nat → Int32} {a_lands : Nat → Int32} {a_evenings : Nat → Int32} {a_sights : Nat → Int32} {a_choirs : Nat → Int32} {f_reached : Int32} {f_length : Int32} {f_begins : Int32} {f_sort : Int32} {f_value : Int32} {f_word : Int64} {f_wrongAt : Int32} {f_laterFault : Int32} {f_laterPlace : Int32} {a_told : Nat → Int32} {a_read : Nat → Int32} {f_farHut : Int32} {f_farSinger : Int32} {f_good : Int32} {f_land : Int32} {f_huts : Int32} {f_singers : Int32} {f_evening : Int32} {a_at : Nat → Int32} {a_knows : Nat → Int32} {a_climbed : Nat → Int32} {a_snow : Nat → Int32} {a_level : Nat → Int32} {f_begun : Int32} {f_minute : Int32} {f_avalanches : Int32} {a_run : Nat → Int32} {a_covers : Nat → Int32} {a_routes : Nat → Int32} {a_longest : Nat → Int32} {a_steep : Nat → Int32} {a_laid : Nat → Int32} {a_far : Nat → Int32} {f_sight : Int32} {a_runs : Nat → Int32} {f_choir : Int32} {f_voices : Int32} {a_rest : Nat → Int64} {a_wins : Nat → Int32} {f_seed : Int32} {a_other : Nat → Int32} {a_kept : Nat → Int32} {post : Int32 → (Nat → Int32) → (Nat → Int32) → Prop} {x1 : Int32} {x2 : Int32} {x3 : Int32} {ls : Array Slot} {H : Heap} {locs : List Loc}
    (zc : zC p s m args meth c cX11_allBy 4 RX11 (some .int))
    (hK : zK E s)
    (hM : mW E q f_code a_tape a_size a_fault a_faultPlace a_many a_lands a_evenings a_sights a_choirs f_reached f_length f_begins f_sort f_value f_word f_wrongAt f_laterFault f_laterPlace a_told a_read f_farHut f_farSinger f_good f_land f_huts f_singers f_evening a_at a_knows a_climbed a_snow a_level f_begun f_minute f_avalanches a_run a_covers a_routes a_longest a_steep a_laid a_far f_sight a_runs f_choir f_voices a_rest a_wins f_seed a_other a_kept H)
    (hS : va_S (mA q) s.heap H locs)
    (hl : lv_has ls 4 [(0, .ref q), (1, .int x1), (2, .int x2), (3, .int x3)])
    (hw : q_m_allBy_4 a_lands f_land f_huts a_run a_covers x1 x2 x3 post) :
    W p l e rm_m_allBy s m args below meth c H locs 0 0 (MQ below (zQi (S := (Nat → Int32) × (Nat → Int32)) (fun r u => post r u.1 u.2) (fun u H => mW E q f_code a_tape a_size a_fault a_faultPlace a_many a_lands a_evenings a_sights a_choirs f_reached f_length f_begins f_sort f_value f_word f_wrongAt f_laterFault f_laterPlace a_told a_read f_farHut f_farSinger f_good f_land f_huts f_singers f_evening a_at a_knows a_climbed a_snow a_level f_begun f_minute f_avalanches u.1 u.2 a_routes a_longest a_steep a_laid a_far f_sight a_runs f_choir f_voices a_rest a_wins f_seed a_other a_kept H) (mA q)) args s 0 0 (mA q)) (F0 m 4 ls []) := by
  have hx := zc.1
  have hb := zc.2.1
  refine hw (fun x2 x3 a_run a_covers => ∀ (H : Heap) (locs : List Loc) (ls : Array Slot), lv_has ls 4 [(0, .ref q), (1, .int x1), (2, .int x2), (3, .int x3)] → mW E q f_code a_tape a_size a_fault a_faultPlace a_many a_lands a_evenings a_sights a_choirs f_reached f_length f_begins f_sort f_value f_word f_wrongAt f_laterFault f_laterPlace a_told a_read f_farHut f_farSinger f_good f_land f_huts f_singers f_evening a_at a_knows a_climbed a_snow a_level f_begun f_minute f_avalanches a_run a_covers a_routes a_longest a_steep a_laid a_far f_sight a_runs f_choir f_voices a_rest a_wins f_seed a_other a_kept H → va_S (mA q) s.heap H locs → W p l e rm_m_allBy s m args below meth c H locs 0 0 (MQ below (zQi (S := (Nat → Int32) × (Nat → Int32)) (fun r u => post r u.1 u.2) (fun u H => mW E q f_code a_tape a_size a_fault a_faultPlace a_many a_lands a_evenings a_sights a_choirs f_reached f_length f_begins f_sort f_value f_word f_wrongAt f_laterFault f_laterPlace a_told a_read f_farHut f_farSinger f_good f_land f_huts f_singers f_evening a_at a_knows a_climbed a_snow a_level f_begun f_minute f_avalanches u.1 u.2 a_routes a_longest a_steep a_laid a_far f_sight a_runs f_choir f_voices a_rest a_wins f_seed a_other a_kept H) (mA q)) args s 0 0 (mA q)) (F0 m 4 ls [])) ?_ _ _ _ hl hM hS
  intro x2 x3 a_run a_covers hw H locs ls hl hM hS
  refine lv_iload_n hx hb dX11_allBy_4 rfl (lv_at hl 3 rfl) ?_
  refine lv_aload_n hx hb dX11_allBy_5 rfl (lv_at hl 0 rfl) ?_
  refine mg_11_307_0 zc hK hM dX11_allBy_6 ?_
  refine lv_icmp_ge (tgt := 61) hx hb dX11_allBy_9 (by decide) (fun hc => ?_) (fun hc => ?_)
  · have hw := hw.1 hc
    refine lv_iload_n hx hb dX11_allBy_61 rfl (lv_at hl 2 rfl) ?_
    exact zret_iw ⟨a_run, a_covers⟩ zc hS hw hM dX11_allBy_62
  · have hw := hw.2 hc
    refine lv_aload_n hx hb dX11_allBy_12 rfl (lv_at hl 0 rfl) ?_
    refine lv_iload_n hx hb dX11_allBy_13 rfl (lv_at hl 3 rfl) ?_
    refine lv_iconst (v := (0 : Int32)) hx hb dX11_allBy_14 (by decide) ?_
    refine zVw_v [.int x3, .int (0 : Int32)] [] zc ky_X11_findRun kz_X11_findRun km_11_414 (c_m_findRun l hw) (mPreV0 hK hM) hS rfl rfl hl.1 (Nat.le_of_ble_eq_true rfl) ⟨rfl, rfl⟩ ⟨Nat.le_of_ble_eq_true rfl, Nat.le_of_ble_eq_true rfl⟩ ⟨(Nat.zero_le _), (Nat.zero_le _)⟩ dX11_allBy_15 (fun a_run_1 H locs hw hM hS => ?_)
    refine lv_aload_n hx hb dX11_allBy_18 rfl (lv_at hl 0 rfl) ?_
    refine mg_11_62_0 zc hK hM dX11_allBy_19 ?_
    refine lv_iload_n hx hb dX11_allBy_22 rfl (lv_at hl 3 rfl) ?_
    refine lv_aload_n hx hb dX11_allBy_23 rfl (lv_at hl 0 rfl) ?_
    refine lv_iload_n hx hb dX11_allBy_24 rfl (lv_at hl 1 rfl) ?_
    refine zV_i [.int x1] [.int x3, .ref (q + 18)] zc ky_X11_comesBy kz_X11_comesBy km_11_423 (c_m_comesBy l hw) (mPreV0 hK hM) rfl rfl hl.1 (Nat.le_of_ble_eq_true rfl) ⟨rfl, rfl⟩ ⟨Nat.le_of_ble_eq_true rfl, Nat.le_of_ble_eq_true rfl⟩ ⟨(Nat.zero_le _), (Nat.zero_le _)⟩ dX11_allBy_25 (fun r_1 hw => ?_)
    refine mst_18 zc hK hM hS hw.1 dX11_allBy_28 (fun a_covers_1 H locs ea_covers_1 hM hS => ?_)
    have hw := hw.2 a_covers_1 ea_covers_1
    refine lv_iload_n hx hb dX11_allBy_29 rfl (lv_at hl 2 rfl) ?_
    refine lv_aload_n hx hb dX11_allBy_30 rfl (lv_at hl 0 rfl) ?_
    refine lv_iload_n hx hb dX11_allBy_31 rfl (lv_at hl 3 rfl) ?_
    refine zV_i [.int x3] [.int x2] zc ky_X11_isDam kz_X11_isDam km_11_355 (c_m_isDam l hw) (mPreV0 hK hM) rfl rfl hl.1 (Nat.le_of_ble_eq_true rfl) ⟨rfl, rfl⟩ ⟨Nat.le_of_ble_eq_true rfl, Nat.le_of_ble_eq_true rfl⟩ ⟨(Nat.zero_le _), (Nat.zero_le _)⟩ dX11_allBy_32 (fun r_2 hw => ?_)
    refine lv_if_ne (tgt := 52) hx hb dX11_allBy_35 (by decide) (fun hc => ?_) (fun hc => ?_)
    · have hw := hw.1 hc
      exact t_m_allBy_52 zc hK hM hS (fun _ _ _ _ H locs ls h hl hM hS => h H locs ls hl hM hS) (lv_sub hl [0, 1, 3] rfl) hw
    · have hw := hw.2 hc
      refine lv_aload_n hx hb dX11_allBy_38 rfl (lv_at hl 0 rfl) ?_
      refine zV_i [] [.int x2] zc ky_X11_lastVillage kz_X11_lastVillage km_11_426 (c_m_lastVillage l hw) (mPreV0 hK hM) rfl rfl hl.1 (Nat.le_of_ble_eq_true rfl) ⟨rfl, rfl⟩ ⟨Nat.le_of_ble_eq_true rfl, Nat.le_of_ble_eq_true rfl⟩ ⟨(Nat.zero_le _), (Nat.zero_le _)⟩ dX11_allBy_39 (fun r_3 hw => ?_)
      refine lv_iload_n hx hb dX11_allBy_42 rfl (lv_at hl 1 rfl) ?_
      refine lv_icmp_gt (tgt := 52) hx hb dX11_allBy_43 (by decide) (fun hc => ?_) (fun hc => ?_)
      · have hw := hw.1 hc
        exact t_m_allBy_52 zc hK hM hS (fun _ _ _ _ H locs ls h hl hM hS => h H locs ls hl hM hS) (lv_sub hl [0, 1, 3] rfl) hw
      · have hw := hw.2 hc
        refine lv_iconst (v := (1 : Int32)) hx hb dX11_allBy_46 (by decide) ?_
        refine lv_iload_n hx hb dX11_allBy_47 rfl (lv_at hl 3 rfl) ?_
        refine lv_ishl hx hb dX11_allBy_48 ?_
        refine lv_goto (tgt := 53) hx hb dX11_allBy_49 (by decide) ?_
        exact t_m_allBy_53 zc hK hM hS (fun _ _ _ _ H locs ls h hl hM hS => h H locs ls hl hM hS) (lv_sub hl [0, 1, 3] rfl) hw
set_option maxRecDepth 20000 in
theorem t_m_allBy_0 {p : Program} {l : Launch} {e : Env} {s : State} {m : MethodId} {args : Array Value} {below : List Frame} {meth : Method} {c : Code} {E : zE} {q : Nat} {f_code : Int32} {a_tape : Nat → Int32} {a_size : Nat → Int32} {a_fault : Nat → Int32} {a_faultPlace : Nat → Int32} {a_many : Nat → Int32} {a_lands : Nat → Int32} {a_evenings : Nat → Int32} {a_sights : Nat → Int32} {a_choirs : Nat → Int32} {f_reached : Int32} {f_length : Int32} {f_begins : Int32} {f_sort : Int32} {f_value : Int32} {f_word : Int64} {f_wrongAt : Int32} {f_laterFault : Int32} {f_laterPlace : Int32} {a_told : Nat → Int32} {a_read : Nat → Int32} {f_farHut : Int32} {f_farSinger : Int32} {f_good : Int32} {f_land : Int32} {f_huts : Int32} {f_singers : Int32} {f_evening : Int32} {a_at : Nat → Int32} {a_knows : Nat → Int32} {a_climbed : Nat → Int32} {a_snow : Nat → Int32} {a_level : Nat → Int32} {f_begun : Int32} {f_minute : Int32} {f_avalanches : Int32} {a_run : Nat → Int32} {a_covers : Nat → Int32} {a_routes : Nat → Int32} {a_longest : Nat → Int32} {a_steep : Nat → Int32} {a_laid : Nat → Int32} {a_far : Nat → Int32} {f_sight : Int32} {a_runs : Nat → Int32} {f_choir : Int32} {f_voices : Int32} {a_rest : Nat → Int64} {a_wins : Nat → Int32} {f_seed : Int32} {a_other : Nat → Int32} {a_kept : Nat → Int32} {post : Int32 → (Nat → Int32) → (Nat → Int32) → Prop} {x1 : Int32} {ls : Array Slot} {H : Heap} {locs : List Loc}
    (zc : zC p s m args meth c cX11_allBy 4 RX11 (some .int))
    (hK : zK E s)
    (hM : mW E q f_code a_tape a_size a_fault a_faultPlace a_many a_lands a_evenings a_sights a_choirs f_reached f_length f_begins f_sort f_value f_word f_wrongAt f_laterFault f_laterPlace a_told a_read f_farHut f_farSinger f_good f_land f_huts f_singers f_evening a_at a_knows a_climbed a_snow a_level f_begun f_minute f_avalanches a_run a_covers a_routes a_longest a_steep a_laid a_far f_sight a_runs f_choir f_voices a_rest a_wins f_seed a_other a_kept H)
    (hS : va_S (mA q) s.heap H locs)
    (hl : lv_has ls 4 [(0, .ref q), (1, .int x1)])
    (hw : q_m_allBy_0 a_lands f_land f_huts a_run a_covers x1 post) :
    W p l e rm_m_allBy s m args below meth c H locs 0 0 (MQ below (zQi (S := (Nat → Int32) × (Nat → Int32)) (fun r u => post r u.1 u.2) (fun u H => mW E q f_code a_tape a_size a_fault a_faultPlace a_many a_lands a_evenings a_sights a_choirs f_reached f_length f_begins f_sort f_value f_word f_wrongAt f_laterFault f_laterPlace a_told a_read f_farHut f_farSinger f_good f_land f_huts f_singers f_evening a_at a_knows a_climbed a_snow a_level f_begun f_minute f_avalanches u.1 u.2 a_routes a_longest a_steep a_laid a_far f_sight a_runs f_choir f_voices a_rest a_wins f_seed a_other a_kept H) (mA q)) args s 0 0 (mA q)) (F0 m 0 ls []) := by
  have hx := zc.1
  have hb := zc.2.1
  refine lv_iconst (v := (0 : Int32)) hx hb dX11_allBy_0 (by decide) ?_
  refine lv_istore_n (lv' := [(2, .int (0 : Int32)), (0, .ref q), (1, .int x1)]) hx hb dX11_allBy_1 rfl hl (by decide) rfl (fun ls hl => ?_)
  refine lv_iconst (v := (0 : Int32)) hx hb dX11_allBy_2 (by decide) ?_
  refine lv_istore_n (lv' := [(3, .int (0 : Int32)), (2, .int (0 : Int32)), (0, .ref q), (1, .int x1)]) hx hb dX11_allBy_3 rfl hl (by decide) rfl (fun ls hl => ?_)
  exact t_m_allBy_4 zc hK hM hS  (lv_sub hl [2, 3, 1, 0] rfl) hw
set_option maxRecDepth 20000 in
theorem c_m_allBy (l : Launch) {E : zE} {q : Nat} {f_code : Int32} {a_tape : Nat → Int32} {a_size : Nat → Int32} {a_fault : Nat → Int32} {a_faultPlace : Nat → Int32} {a_many : Nat → Int32} {a_lands : Nat → Int32} {a_evenings : Nat → Int32} {a_sights : Nat → Int32} {a_choirs : Nat → Int32} {f_reached : Int32} {f_length : Int32} {f_begins : Int32} {f_sort : Int32} {f_value : Int32} {f_word : Int64} {f_wrongAt : Int32} {f_laterFault : Int32} {f_laterPlace : Int32} {a_told : Nat → Int32} {a_read : Nat → Int32} {f_farHut : Int32} {f_farSinger : Int32} {f_good : Int32} {f_land : Int32} {f_huts : Int32} {f_singers : Int32} {f_evening : Int32} {a_at : Nat → Int32} {a_knows : Nat → Int32} {a_climbed : Nat → Int32} {a_snow : Nat → Int32} {a_level : Nat → Int32} {f_begun : Int32} {f_minute : Int32} {f_avalanches : Int32} {a_run : Nat → Int32} {a_covers : Nat → Int32} {a_routes : Nat → Int32} {a_longest : Nat → Int32} {a_steep : Nat → Int32} {a_laid : Nat → Int32} {a_far : Nat → Int32} {f_sight : Int32} {a_runs : Nat → Int32} {f_choir : Int32} {f_voices : Int32} {a_rest : Nat → Int64} {a_wins : Nat → Int32} {f_seed : Int32} {a_other : Nat → Int32} {a_kept : Nat → Int32} {x1 : Int32} {post : Int32 → (Nat → Int32) → (Nat → Int32) → Prop} (hw : q_m_allBy_0 a_lands f_land f_huts a_run a_covers x1 post) : Met l yX11_allBy (Cond.code yX11_allBy cX11_allBy 4 (some .int) :: zb) rm_m_allBy (va_Pc [.ref q, .int x1] (fun U => mW E q f_code a_tape a_size a_fault a_faultPlace a_many a_lands a_evenings a_sights a_choirs f_reached f_length f_begins f_sort f_value f_word f_wrongAt f_laterFault f_laterPlace a_told a_read f_farHut f_farSinger f_good f_land f_huts f_singers f_evening a_at a_knows a_climbed a_snow a_level f_begun f_minute f_avalanches a_run a_covers a_routes a_longest a_steep a_laid a_far f_sight a_runs f_choir f_voices a_rest a_wins f_seed a_other a_kept U.heap ∧ zK E U)) (zQi (S := (Nat → Int32) × (Nat → Int32)) (fun r u => post r u.1 u.2) (fun u H => mW E q f_code a_tape a_size a_fault a_faultPlace a_many a_lands a_evenings a_sights a_choirs f_reached f_length f_begins f_sort f_value f_word f_wrongAt f_laterFault f_laterPlace a_told a_read f_farHut f_farSinger f_good f_land f_huts f_singers f_evening a_at a_knows a_climbed a_snow a_level f_begun f_minute f_avalanches u.1 u.2 a_routes a_longest a_steep a_laid a_far f_sight a_runs f_choir f_voices a_rest a_wins f_seed a_other a_kept H) (mA q)) 0 0 (mA q) := by
  refine Met.ofW (cc := cX11_allBy) (maxL := 4) (ret := (some .int)) (by decide) rfl ?_
  intro p e s m args below meth c s₁ B hml hv
  obtain ⟨rfl, hM, hK⟩ := hv
  have zc := zc_of B hml
  have hl := lv_entry ([.ref q, .int x1]) (n := 4) (Nat.le_of_ble_eq_true rfl)
  rw [lg_entry_eq]
  generalize (lg_sl ([.ref q, .int x1]) ++ List.replicate (4 - (lg_sl ([.ref q, .int x1])).length) Slot.unset).toArray = ls at hl ⊢
  have hl : lv_has ls 4 [(0, .ref q), (1, .int x1)] := hl
  exact t_m_allBy_0 zc hK hM va_S.rf (lv_sub hl [0, 1] rfl) hw
-- m_fewest
abbrev rm_m_fewest : Room := { frames := 2, cells := 0, slots := 0, locals := 43 }
def q_m_fewest_54 (P5 : Int32 → Int32 → Prop) (P22 : Int32 → Int32 → Prop) (f_huts : Int32) (a_covers : Nat → Int32) (x1 : Int32) (x2 : Int32) (x3 : Int32) (x4 : Int32) (x6 : Int32) (y0 : Int32) (y1 : Int32) (post : Int32 → Prop) : Prop :=
  ∀ v_1 : Int32, v_1 = (y0 ||| y1) → (∀ v_2 : Int32, v_2 = x6 + (1 : Int32) → (P22 v_1 v_2))
def q_m_fewest_116 (P5 : Int32 → Int32 → Prop) (f_huts : Int32) (a_covers : Nat → Int32) (x1 : Int32) (x2 : Int32) (x4 : Int32) (y0 : Int32) (post : Int32 → Prop) : Prop :=
  ∀ v_1 : Int32, v_1 = x4 + (1 : Int32) → (P5 y0 v_1)
def q_m_fewest_110 (P5 : Int32 → Int32 → Prop) (f_huts : Int32) (a_covers : Nat → Int32) (x1 : Int32) (x2 : Int32) (x4 : Int32) (post : Int32 → Prop) : Prop :=
  q_m_fewest_116 P5 f_huts a_covers x1 x2 x4 x4 post
def q_m_fewest_115 (P5 : Int32 → Int32 → Prop) (f_huts : Int32) (a_covers : Nat → Int32) (x1 : Int32) (x2 : Int32) (x3 : Int32) (x4 : Int32) (post : Int32 → Prop) : Prop :=
  q_m_fewest_116 P5 f_huts a_covers x1 x2 x4 x3 post
def q_m_fewest_86 (P5 : Int32 → Int32 → Prop) (f_huts : Int32) (a_covers : Nat → Int32) (x1 : Int32) (x2 : Int32) (x3 : Int32) (x4 : Int32) (y0 : Int32) (post : Int32 → Prop) : Prop :=
  (y0 = 0 → (q_m_fewest_115 P5 f_huts a_covers x1 x2 x3 x4 post)) ∧ (¬ y0 = 0 → ((x3 = (-1 : Int32) → (q_m_fewest_110 P5 f_huts a_covers x1 x2 x4 post)) ∧ (¬ x3 = (-1 : Int32) → (q_m_ones_0 x4 (fun r_1 => q_m_ones_0 x3 (fun r_2 => (r_2 ≤ r_1 → (q_m_fewest_115 P5 f_huts a_covers x1 x2 x3 x4 post)) ∧ (¬ r_2 ≤ r_1 → (q_m_fewest_110 P5 f_huts a_covers x1 x2 x4 post))))))))
def q_m_fewest_85 (P5 : Int32 → Int32 → Prop) (f_huts : Int32) (a_covers : Nat → Int32) (x1 : Int32) (x2 : Int32) (x3 : Int32) (x4 : Int32) (post : Int32 → Prop) : Prop :=
  q_m_fewest_86 P5 f_huts a_covers x1 x2 x3 x4 (0 : Int32) post
def q_m_fewest_22 (P5 : Int32 → Int32 → Prop) (f_huts : Int32) (a_covers : Nat → Int32) (x1 : Int32) (x2 : Int32) (x3 : Int32) (x4 : Int32) (x5 : Int32) (x6 : Int32) (post : Int32 → Prop) : Prop :=
  ∀ P22 : Int32 → Int32 → Prop, (∀ (x5 : Int32) (x6 : Int32), ((f_huts ≤ x6 → ((¬ (x4 &&& (x1 ^^^ (-1 : Int32))) = 0 → (q_m_fewest_85 P5 f_huts a_covers x1 x2 x3 x4 post)) ∧ ((x4 &&& (x1 ^^^ (-1 : Int32))) = 0 → ((¬ (x2 &&& (x5 ^^^ (-1 : Int32))) = 0 → (q_m_fewest_85 P5 f_huts a_covers x1 x2 x3 x4 post)) ∧ ((x2 &&& (x5 ^^^ (-1 : Int32))) = 0 → (q_m_fewest_86 P5 f_huts a_covers x1 x2 x3 x4 (1 : Int32) post)))))) ∧ (¬ f_huts ≤ x6 → (q_m_has_0 x4 x6 (fun r_1 => (r_1 = 0 → (q_m_fewest_54 P5 P22 f_huts a_covers x1 x2 x3 x4 x6 x5 (0 : Int32) post)) ∧ (¬ r_1 = 0 → (vp_in x6 9 ∧ (q_m_fewest_54 P5 P22 f_huts a_covers x1 x2 x3 x4 x6 x5 (a_covers (Int32.toNatClampNeg x6)) post))))))) → P22 x5 x6) → P22 x5 x6
def q_m_fewest_5 (f_huts : Int32) (a_covers : Nat → Int32) (x1 : Int32) (x2 : Int32) (x3 : Int32) (x4 : Int32) (post : Int32 → Prop) : Prop :=
  ∀ P5 : Int32 → Int32 → Prop, (∀ (x3 : Int32) (x4 : Int32), ((((1 : Int32) <<< (f_huts &&& 31)) ≤ x4 → (post x3)) ∧ (¬ ((1 : Int32) <<< (f_huts &&& 31)) ≤ x4 → (q_m_fewest_22 P5 f_huts a_covers x1 x2 x3 x4 (0 : Int32) (0 : Int32) post))) → P5 x3 x4) → P5 x3 x4
def q_m_fewest_0 (f_huts : Int32) (a_covers : Nat → Int32) (x1 : Int32) (x2 : Int32) (post : Int32 → Prop) : Prop :=
  q_m_fewest_5 f_huts a_covers x1 x2 (-1 : Int32) (0 : Int32) post
set_option maxRecDepth 20000 in
theorem t_m_fewest_54 {p : Program} {l : Launch} {e : Env} {s : State} {m : MethodId} {args : Array Value} {below : List Frame} {meth : Method} {c : Code} {E : zE} {q : Nat} {f_code : Int32} {a_tape : Nat → Int32} {a_size : Nat → Int32} {a_fault : Nat → Int32} {a_faultPlace : Nat → Int32} {a_many : Nat → Int32} {a_lands : Nat → Int32} {a_evenings : Nat → Int32} {a_sights : Nat → Int32} {a_choirs : Nat → Int32} {f_reached : Int32} {f_length : Int32} {f_begins : Int32} {f_sort : Int32} {f_value : Int32} {f_word : Int64} {f_wrongAt : Int32} {f_laterFault : Int32} {f_laterPlace : Int32} {a_told : Nat → Int32} {a_read : Nat → Int32} {f_farHut : Int32} {f_farSinger : Int32} {f_good : Int32} {f_land : Int32} {f_huts : Int32} {f_singers : Int32} {f_evening : Int32} {a_at : Nat → Int32} {a_knows : Nat → Int32} {a_climbed : Nat → Int32} {a_snow : Nat → Int32} {a_level : Nat → Int32} {f_begun : Int32} {f_minute : Int32} {f_avalanches : Int32} {a_run : Nat → Int32} {a_covers : Nat → Int32} {a_routes : Nat → Int32} {a_longest : Nat → Int32} {a_steep : Nat → Int32} {a_laid : Nat → Int32} {a_far : Nat → Int32} {f_sight : Int32} {a_runs : Nat → Int32} {f_choir : Int32} {f_voices : Int32} {a_rest : Nat → Int64} {a_wins : Nat → Int32} {f_seed : Int32} {a_other : Nat → Int32} {a_kept : Nat → Int32} {P5 : Int32 → Int32 → Prop} {P22 : Int32 → Int32 → Prop} {post : Int32 → Prop} {x1 : Int32} {x2 : Int32} {x3 : Int32} {x4 : Int32} {x6 : Int32} {y0 : Int32} {y1 : Int32} {ls : Array Slot}
    (zc : zC p s m args meth c cX11_fewest 7 RX11 (some .int))
    (hK : zK E s)
    (hM : mW E q f_code a_tape a_size a_fault a_faultPlace a_many a_lands a_evenings a_sights a_choirs f_reached f_length f_begins f_sort f_value f_word f_wrongAt f_laterFault f_laterPlace a_told a_read f_farHut f_farSinger f_good f_land f_huts f_singers f_evening a_at a_knows a_climbed a_snow a_level f_begun f_minute f_avalanches a_run a_covers a_routes a_longest a_steep a_laid a_far f_sight a_runs f_choir f_voices a_rest a_wins f_seed a_other a_kept s.heap)
    (hP5 : ∀ (x3 : Int32) (x4 : Int32) (ls : Array Slot), P5 x3 x4 → lv_has ls 7 [(0, .ref q), (1, .int x1), (2, .int x2), (3, .int x3), (4, .int x4)] → W p l e rm_m_fewest s m args below meth c s.heap [] 0 0 (MQ below (vp_Si post) args s 0 0 (fun _ => False)) (F0 m 5 ls []))
    (hP22 : ∀ (x5 : Int32) (x6 : Int32) (ls : Array Slot), P22 x5 x6 → lv_has ls 7 [(0, .ref q), (1, .int x1), (2, .int x2), (3, .int x3), (4, .int x4), (5, .int x5), (6, .int x6)] → W p l e rm_m_fewest s m args below meth c s.heap [] 0 0 (MQ below (vp_Si post) args s 0 0 (fun _ => False)) (F0 m 22 ls []))
    (hl : lv_has ls 7 [(0, .ref q), (1, .int x1), (2, .int x2), (3, .int x3), (4, .int x4), (6, .int x6)])
    (hw : q_m_fewest_54 P5 P22 f_huts a_covers x1 x2 x3 x4 x6 y0 y1 post) :
    W p l e rm_m_fewest s m args below meth c s.heap [] 0 0 (MQ below (vp_Si post) args s 0 0 (fun _ => False)) (F0 m 54 ls [.int y1, .int y0]) := by
  have hx := zc.1
  have hb := zc.2.1
  refine lv_ior hx hb dX11_fewest_54 ?_
  refine lv_topi (fun v_1 ev_1 => ?_)
  have hw := hw v_1 ev_1
  refine lv_istore (lv' := [(5, .int v_1), (0, .ref q), (1, .int x1), (2, .int x2), (3, .int x3), (4, .int x4), (6, .int x6)]) hx hb dX11_fewest_55 hl (by decide) rfl (fun ls hl => ?_)
  obtain ⟨v_2, ev_2⟩ : ∃ y : Int32, y = x6 + (1 : Int32) := ⟨_, rfl⟩
  have hw := hw v_2 ev_2
  refine lv_iinc (v := v_2) (k := 6) (lv' := [(6, .int v_2), (5, .int v_1), (0, .ref q), (1, .int x1), (2, .int x2), (3, .int x3), (4, .int x4)]) hx hb dX11_fewest_57 hl rfl (by rw [ev_2]; rfl) (by decide) rfl (fun ls hl => ?_)
  refine lv_goto (tgt := 22) hx hb dX11_fewest_60 (by decide) ?_
  exact hP22 _ _ _ hw (lv_sub hl [2, 3, 4, 5, 6, 1, 0] rfl)
set_option maxRecDepth 20000 in
theorem t_m_fewest_116 {p : Program} {l : Launch} {e : Env} {s : State} {m : MethodId} {args : Array Value} {below : List Frame} {meth : Method} {c : Code} {E : zE} {q : Nat} {f_code : Int32} {a_tape : Nat → Int32} {a_size : Nat → Int32} {a_fault : Nat → Int32} {a_faultPlace : Nat → Int32} {a_many : Nat → Int32} {a_lands : Nat → Int32} {a_evenings : Nat → Int32} {a_sights : Nat → Int32} {a_choirs : Nat → Int32} {f_reached : Int32} {f_length : Int32} {f_begins : Int32} {f_sort : Int32} {f_value : Int32} {f_word : Int64} {f_wrongAt : Int32} {f_laterFault : Int32} {f_laterPlace : Int32} {a_told : Nat → Int32} {a_read : Nat → Int32} {f_farHut : Int32} {f_farSinger : Int32} {f_good : Int32} {f_land : Int32} {f_huts : Int32} {f_singers : Int32} {f_evening : Int32} {a_at : Nat → Int32} {a_knows : Nat → Int32} {a_climbed : Nat → Int32} {a_snow : Nat → Int32} {a_level : Nat → Int32} {f_begun : Int32} {f_minute : Int32} {f_avalanches : Int32} {a_run : Nat → Int32} {a_covers : Nat → Int32} {a_routes : Nat → Int32} {a_longest : Nat → Int32} {a_steep : Nat → Int32} {a_laid : Nat → Int32} {a_far : Nat → Int32} {f_sight : Int32} {a_runs : Nat → Int32} {f_choir : Int32} {f_voices : Int32} {a_rest : Nat → Int64} {a_wins : Nat → Int32} {f_seed : Int32} {a_other : Nat → Int32} {a_kept : Nat → Int32} {P5 : Int32 → Int32 → Prop} {post : Int32 → Prop} {x1 : Int32} {x2 : Int32} {x4 : Int32} {y0 : Int32} {ls : Array Slot}
    (zc : zC p s m args meth c cX11_fewest 7 RX11 (some .int))
    (hK : zK E s)
    (hM : mW E q f_code a_tape a_size a_fault a_faultPlace a_many a_lands a_evenings a_sights a_choirs f_reached f_length f_begins f_sort f_value f_word f_wrongAt f_laterFault f_laterPlace a_told a_read f_farHut f_farSinger f_good f_land f_huts f_singers f_evening a_at a_knows a_climbed a_snow a_level f_begun f_minute f_avalanches a_run a_covers a_routes a_longest a_steep a_laid a_far f_sight a_runs f_choir f_voices a_rest a_wins f_seed a_other a_kept s.heap)
    (hP5 : ∀ (x3 : Int32) (x4 : Int32) (ls : Array Slot), P5 x3 x4 → lv_has ls 7 [(0, .ref q), (1, .int x1), (2, .int x2), (3, .int x3), (4, .int x4)] → W p l e rm_m_fewest s m args below meth c s.heap [] 0 0 (MQ below (vp_Si post) args s 0 0 (fun _ => False)) (F0 m 5 ls []))
    (hl : lv_has ls 7 [(0, .ref q), (1, .int x1), (2, .int x2), (4, .int x4)])
    (hw : q_m_fewest_116 P5 f_huts a_covers x1 x2 x4 y0 post) :
    W p l e rm_m_fewest s m args below meth c s.heap [] 0 0 (MQ below (vp_Si post) args s 0 0 (fun _ => False)) (F0 m 116 ls [.int y0]) := by
  have hx := zc.1
  have hb := zc.2.1
  refine lv_istore_n (lv' := [(3, .int y0), (0, .ref q), (1, .int x1), (2, .int x2), (4, .int x4)]) hx hb dX11_fewest_116 rfl hl (by decide) rfl (fun ls hl => ?_)
  obtain ⟨v_1, ev_1⟩ : ∃ y : Int32, y = x4 + (1 : Int32) := ⟨_, rfl⟩
  have hw := hw v_1 ev_1
  refine lv_iinc (v := v_1) (k := 4) (lv' := [(4, .int v_1), (3, .int y0), (0, .ref q), (1, .int x1), (2, .int x2)]) hx hb dX11_fewest_117 hl rfl (by rw [ev_1]; rfl) (by decide) rfl (fun ls hl => ?_)
  refine lv_goto (tgt := 5) hx hb dX11_fewest_120 (by decide) ?_
  exact hP5 _ _ _ hw (lv_sub hl [2, 3, 4, 1, 0] rfl)
set_option maxRecDepth 20000 in
theorem t_m_fewest_110 {p : Program} {l : Launch} {e : Env} {s : State} {m : MethodId} {args : Array Value} {below : List Frame} {meth : Method} {c : Code} {E : zE} {q : Nat} {f_code : Int32} {a_tape : Nat → Int32} {a_size : Nat → Int32} {a_fault : Nat → Int32} {a_faultPlace : Nat → Int32} {a_many : Nat → Int32} {a_lands : Nat → Int32} {a_evenings : Nat → Int32} {a_sights : Nat → Int32} {a_choirs : Nat → Int32} {f_reached : Int32} {f_length : Int32} {f_begins : Int32} {f_sort : Int32} {f_value : Int32} {f_word : Int64} {f_wrongAt : Int32} {f_laterFault : Int32} {f_laterPlace : Int32} {a_told : Nat → Int32} {a_read : Nat → Int32} {f_farHut : Int32} {f_farSinger : Int32} {f_good : Int32} {f_land : Int32} {f_huts : Int32} {f_singers : Int32} {f_evening : Int32} {a_at : Nat → Int32} {a_knows : Nat → Int32} {a_climbed : Nat → Int32} {a_snow : Nat → Int32} {a_level : Nat → Int32} {f_begun : Int32} {f_minute : Int32} {f_avalanches : Int32} {a_run : Nat → Int32} {a_covers : Nat → Int32} {a_routes : Nat → Int32} {a_longest : Nat → Int32} {a_steep : Nat → Int32} {a_laid : Nat → Int32} {a_far : Nat → Int32} {f_sight : Int32} {a_runs : Nat → Int32} {f_choir : Int32} {f_voices : Int32} {a_rest : Nat → Int64} {a_wins : Nat → Int32} {f_seed : Int32} {a_other : Nat → Int32} {a_kept : Nat → Int32} {P5 : Int32 → Int32 → Prop} {post : Int32 → Prop} {x1 : Int32} {x2 : Int32} {x4 : Int32} {ls : Array Slot}
    (zc : zC p s m args meth c cX11_fewest 7 RX11 (some .int))
    (hK : zK E s)
    (hM : mW E q f_code a_tape a_size a_fault a_faultPlace a_many a_lands a_evenings a_sights a_choirs f_reached f_length f_begins f_sort f_value f_word f_wrongAt f_laterFault f_laterPlace a_told a_read f_farHut f_farSinger f_good f_land f_huts f_singers f_evening a_at a_knows a_climbed a_snow a_level f_begun f_minute f_avalanches a_run a_covers a_routes a_longest a_steep a_laid a_far f_sight a_runs f_choir f_voices a_rest a_wins f_seed a_other a_kept s.heap)
    (hP5 : ∀ (x3 : Int32) (x4 : Int32) (ls : Array Slot), P5 x3 x4 → lv_has ls 7 [(0, .ref q), (1, .int x1), (2, .int x2), (3, .int x3), (4, .int x4)] → W p l e rm_m_fewest s m args below meth c s.heap [] 0 0 (MQ below (vp_Si post) args s 0 0 (fun _ => False)) (F0 m 5 ls []))
    (hl : lv_has ls 7 [(0, .ref q), (1, .int x1), (2, .int x2), (4, .int x4)])
    (hw : q_m_fewest_110 P5 f_huts a_covers x1 x2 x4 post) :
    W p l e rm_m_fewest s m args below meth c s.heap [] 0 0 (MQ below (vp_Si post) args s 0 0 (fun _ => False)) (F0 m 110 ls []) := by
  have hx := zc.1
  have hb := zc.2.1
  refine lv_iload hx hb dX11_fewest_110 (lv_at hl 3 rfl) ?_
  refine lv_goto (tgt := 116) hx hb dX11_fewest_112 (by decide) ?_
  exact t_m_fewest_116 zc hK hM hP5 (lv_sub hl [0, 1, 2, 3] rfl) hw
set_option maxRecDepth 20000 in
theorem t_m_fewest_115 {p : Program} {l : Launch} {e : Env} {s : State} {m : MethodId} {args : Array Value} {below : List Frame} {meth : Method} {c : Code} {E : zE} {q : Nat} {f_code : Int32} {a_tape : Nat → Int32} {a_size : Nat → Int32} {a_fault : Nat → Int32} {a_faultPlace : Nat → Int32} {a_many : Nat → Int32} {a_lands : Nat → Int32} {a_evenings : Nat → Int32} {a_sights : Nat → Int32} {a_choirs : Nat → Int32} {f_reached : Int32} {f_length : Int32} {f_begins : Int32} {f_sort : Int32} {f_value : Int32} {f_word : Int64} {f_wrongAt : Int32} {f_laterFault : Int32} {f_laterPlace : Int32} {a_told : Nat → Int32} {a_read : Nat → Int32} {f_farHut : Int32} {f_farSinger : Int32} {f_good : Int32} {f_land : Int32} {f_huts : Int32} {f_singers : Int32} {f_evening : Int32} {a_at : Nat → Int32} {a_knows : Nat → Int32} {a_climbed : Nat → Int32} {a_snow : Nat → Int32} {a_level : Nat → Int32} {f_begun : Int32} {f_minute : Int32} {f_avalanches : Int32} {a_run : Nat → Int32} {a_covers : Nat → Int32} {a_routes : Nat → Int32} {a_longest : Nat → Int32} {a_steep : Nat → Int32} {a_laid : Nat → Int32} {a_far : Nat → Int32} {f_sight : Int32} {a_runs : Nat → Int32} {f_choir : Int32} {f_voices : Int32} {a_rest : Nat → Int64} {a_wins : Nat → Int32} {f_seed : Int32} {a_other : Nat → Int32} {a_kept : Nat → Int32} {P5 : Int32 → Int32 → Prop} {post : Int32 → Prop} {x1 : Int32} {x2 : Int32} {x3 : Int32} {x4 : Int32} {ls : Array Slot}
    (zc : zC p s m args meth c cX11_fewest 7 RX11 (some .int))
    (hK : zK E s)
    (hM : mW E q f_code a_tape a_size a_fault a_faultPlace a_many a_lands a_evenings a_sights a_choirs f_reached f_length f_begins f_sort f_value f_word f_wrongAt f_laterFault f_laterPlace a_told a_read f_farHut f_farSinger f_good f_land f_huts f_singers f_evening a_at a_knows a_climbed a_snow a_level f_begun f_minute f_avalanches a_run a_covers a_routes a_longest a_steep a_laid a_far f_sight a_runs f_choir f_voices a_rest a_wins f_seed a_other a_kept s.heap)
    (hP5 : ∀ (x3 : Int32) (x4 : Int32) (ls : Array Slot), P5 x3 x4 → lv_has ls 7 [(0, .ref q), (1, .int x1), (2, .int x2), (3, .int x3), (4, .int x4)] → W p l e rm_m_fewest s m args below meth c s.heap [] 0 0 (MQ below (vp_Si post) args s 0 0 (fun _ => False)) (F0 m 5 ls []))
    (hl : lv_has ls 7 [(0, .ref q), (1, .int x1), (2, .int x2), (3, .int x3), (4, .int x4)])
    (hw : q_m_fewest_115 P5 f_huts a_covers x1 x2 x3 x4 post) :
    W p l e rm_m_fewest s m args below meth c s.heap [] 0 0 (MQ below (vp_Si post) args s 0 0 (fun _ => False)) (F0 m 115 ls []) := by
  have hx := zc.1
  have hb := zc.2.1
  refine lv_iload_n hx hb dX11_fewest_115 rfl (lv_at hl 3 rfl) ?_
  exact t_m_fewest_116 zc hK hM hP5 (lv_sub hl [0, 1, 2, 4] rfl) hw
set_option maxRecDepth 20000 in
theorem t_m_fewest_86 {p : Program} {l : Launch} {e : Env} {s : State} {m : MethodId} {args : Array Value} {below : List Frame} {meth : Method} {c : Code} {E : zE} {q : Nat} {f_code : Int32} {a_tape : Nat → Int32} {a_size : Nat → Int32} {a_fault : Nat → Int32} {a_faultPlace : Nat → Int32} {a_many : Nat → Int32} {a_lands : Nat → Int32} {a_evenings : Nat → Int32} {a_sights : Nat → Int32} {a_choirs : Nat → Int32} {f_reached : Int32} {f_length : Int32} {f_begins : Int32} {f_sort : Int32} {f_value : Int32} {f_word : Int64} {f_wrongAt : Int32} {f_laterFault : Int32} {f_laterPlace : Int32} {a_told : Nat → Int32} {a_read : Nat → Int32} {f_farHut : Int32} {f_farSinger : Int32} {f_good : Int32} {f_land : Int32} {f_huts : Int32} {f_singers : Int32} {f_evening : Int32} {a_at : Nat → Int32} {a_knows : Nat → Int32} {a_climbed : Nat → Int32} {a_snow : Nat → Int32} {a_level : Nat → Int32} {f_begun : Int32} {f_minute : Int32} {f_avalanches : Int32} {a_run : Nat → Int32} {a_covers : Nat → Int32} {a_routes : Nat → Int32} {a_longest : Nat → Int32} {a_steep : Nat → Int32} {a_laid : Nat → Int32} {a_far : Nat → Int32} {f_sight : Int32} {a_runs : Nat → Int32} {f_choir : Int32} {f_voices : Int32} {a_rest : Nat → Int64} {a_wins : Nat → Int32} {f_seed : Int32} {a_other : Nat → Int32} {a_kept : Nat → Int32} {P5 : Int32 → Int32 → Prop} {post : Int32 → Prop} {x1 : Int32} {x2 : Int32} {x3 : Int32} {x4 : Int32} {y0 : Int32} {ls : Array Slot}
    (zc : zC p s m args meth c cX11_fewest 7 RX11 (some .int))
    (hK : zK E s)
    (hM : mW E q f_code a_tape a_size a_fault a_faultPlace a_many a_lands a_evenings a_sights a_choirs f_reached f_length f_begins f_sort f_value f_word f_wrongAt f_laterFault f_laterPlace a_told a_read f_farHut f_farSinger f_good f_land f_huts f_singers f_evening a_at a_knows a_climbed a_snow a_level f_begun f_minute f_avalanches a_run a_covers a_routes a_longest a_steep a_laid a_far f_sight a_runs f_choir f_voices a_rest a_wins f_seed a_other a_kept s.heap)
    (hP5 : ∀ (x3 : Int32) (x4 : Int32) (ls : Array Slot), P5 x3 x4 → lv_has ls 7 [(0, .ref q), (1, .int x1), (2, .int x2), (3, .int x3), (4, .int x4)] → W p l e rm_m_fewest s m args below meth c s.heap [] 0 0 (MQ below (vp_Si post) args s 0 0 (fun _ => False)) (F0 m 5 ls []))
    (hl : lv_has ls 7 [(0, .ref q), (1, .int x1), (2, .int x2), (3, .int x3), (4, .int x4)])
    (hw : q_m_fewest_86 P5 f_huts a_covers x1 x2 x3 x4 y0 post) :
    W p l e rm_m_fewest s m args below meth c s.heap [] 0 0 (MQ below (vp_Si post) args s 0 0 (fun _ => False)) (F0 m 86 ls [.int y0]) := by
  have hx := zc.1
  have hb := zc.2.1
  refine lv_istore (lv' := [(6, .int y0), (0, .ref q), (1, .int x1), (2, .int x2), (3, .int x3), (4, .int x4)]) hx hb dX11_fewest_86 hl (by decide) rfl (fun ls hl => ?_)
  refine lv_iload hx hb dX11_fewest_88 (lv_at hl 0 rfl) ?_
  refine lv_if_eq (tgt := 115) hx hb dX11_fewest_90 (by decide) (fun hc => ?_) (fun hc => ?_)
  · have hw := hw.1 hc
    exact t_m_fewest_115 zc hK hM hP5 (lv_sub hl [1, 2, 3, 4, 5] rfl) hw
  · have hw := hw.2 hc
    refine lv_iload_n hx hb dX11_fewest_93 rfl (lv_at hl 4 rfl) ?_
    refine lv_iconst (v := (-1 : Int32)) hx hb dX11_fewest_94 (by decide) ?_
    refine lv_icmp_eq (tgt := 110) hx hb dX11_fewest_95 (by decide) (fun hc => ?_) (fun hc => ?_)
    · have hw := hw.1 hc
      exact t_m_fewest_110 zc hK hM hP5 (lv_sub hl [1, 2, 3, 5] rfl) hw
    · have hw := hw.2 hc
      refine lv_iload hx hb dX11_fewest_98 (lv_at hl 5 rfl) ?_
      refine zS_i [.int x4] [] zc ky_X11_ones kz_X11_ones km_11_429 (c_m_ones l hw) (zPre0 _) rfl rfl hl.1 (Nat.le_of_ble_eq_true rfl) ⟨rfl, rfl⟩ ⟨Nat.le_of_ble_eq_true rfl, Nat.le_of_ble_eq_true rfl⟩ ⟨(Nat.zero_le _), (Nat.zero_le _)⟩ dX11_fewest_100 (fun r_1 hw => ?_)
      refine lv_iload_n hx hb dX11_fewest_103 rfl (lv_at hl 4 rfl) ?_
      refine zS_i [.int x3] [.int r_1] zc ky_X11_ones kz_X11_ones km_11_429 (c_m_ones l hw) (zPre0 _) rfl rfl hl.1 (Nat.le_of_ble_eq_true rfl) ⟨rfl, rfl⟩ ⟨Nat.le_of_ble_eq_true rfl, Nat.le_of_ble_eq_true rfl⟩ ⟨(Nat.zero_le _), (Nat.zero_le _)⟩ dX11_fewest_104 (fun r_2 hw => ?_)
      refine lv_icmp_ge (tgt := 115) hx hb dX11_fewest_107 (by decide) (fun hc => ?_) (fun hc => ?_)
      · have hw := hw.1 hc
        exact t_m_fewest_115 zc hK hM hP5 (lv_sub hl [1, 2, 3, 4, 5] rfl) hw
      · have hw := hw.2 hc
        exact t_m_fewest_110 zc hK hM hP5 (lv_sub hl [1, 2, 3, 5] rfl) hw
set_option maxRecDepth 20000 in
theorem t_m_fewest_85 {p : Program} {l : Launch} {e : Env} {s : State} {m : MethodId} {args : Array Value} {below : List Frame} {meth : Method} {c : Code} {E : zE} {q : Nat} {f_code : Int32} {a_tape : Nat → Int32} {a_size : Nat → Int32} {a_fault : Nat → Int32} {a_faultPlace : Nat → Int32} {a_many : Nat → Int32} {a_lands : Nat → Int32} {a_evenings : Nat → Int32} {a_sights : Nat → Int32} {a_choirs : Nat → Int32} {f_reached : Int32} {f_length : Int32} {f_begins : Int32} {f_sort : Int32} {f_value : Int32} {f_word : Int64} {f_wrongAt : Int32} {f_laterFault : Int32} {f_laterPlace : Int32} {a_told : Nat → Int32} {a_read : Nat → Int32} {f_farHut : Int32} {f_farSinger : Int32} {f_good : Int32} {f_land : Int32} {f_huts : Int32} {f_singers : Int32} {f_evening : Int32} {a_at : Nat → Int32} {a_knows : Nat → Int32} {a_climbed : Nat → Int32} {a_snow : Nat → Int32} {a_level : Nat → Int32} {f_begun : Int32} {f_minute : Int32} {f_avalanches : Int32} {a_run : Nat → Int32} {a_covers : Nat → Int32} {a_routes : Nat → Int32} {a_longest : Nat → Int32} {a_steep : Nat → Int32} {a_laid : Nat → Int32} {a_far : Nat → Int32} {f_sight : Int32} {a_runs : Nat → Int32} {f_choir : Int32} {f_voices : Int32} {a_rest : Nat → Int64} {a_wins : Nat → Int32} {f_seed : Int32} {a_other : Nat → Int32} {a_kept : Nat → Int32} {P5 : Int32 → Int32 → Prop} {post : Int32 → Prop} {x1 : Int32} {x2 : Int32} {x3 : Int32} {x4 : Int32} {ls : Array Slot}
    (zc : zC p s m args meth c cX11_fewest 7 RX11 (some .int))
    (hK : zK E s)
    (hM : mW E q f_code a_tape a_size a_fault a_faultPlace a_many a_lands a_evenings a_sights a_choirs f_reached f_length f_begins f_sort f_value f_word f_wrongAt f_laterFault f_laterPlace a_told a_read f_farHut f_farSinger f_good f_land f_huts f_singers f_evening a_at a_knows a_climbed a_snow a_level f_begun f_minute f_avalanches a_run a_covers a_routes a_longest a_steep a_laid a_far f_sight a_runs f_choir f_voices a_rest a_wins f_seed a_other a_kept s.heap)
    (hP5 : ∀ (x3 : Int32) (x4 : Int32) (ls : Array Slot), P5 x3 x4 → lv_has ls 7 [(0, .ref q), (1, .int x1), (2, .int x2), (3, .int x3), (4, .int x4)] → W p l e rm_m_fewest s m args below meth c s.heap [] 0 0 (MQ below (vp_Si post) args s 0 0 (fun _ => False)) (F0 m 5 ls []))
    (hl : lv_has ls 7 [(0, .ref q), (1, .int x1), (2, .int x2), (3, .int x3), (4, .int x4)])
    (hw : q_m_fewest_85 P5 f_huts a_covers x1 x2 x3 x4 post) :
    W p l e rm_m_fewest s m args below meth c s.heap [] 0 0 (MQ below (vp_Si post) args s 0 0 (fun _ => False)) (F0 m 85 ls []) := by
  have hx := zc.1
  have hb := zc.2.1
  refine lv_iconst (v := (0 : Int32)) hx hb dX11_fewest_85 (by decide) ?_
  exact t_m_fewest_86 zc hK hM hP5 (lv_sub hl [0, 1, 2, 3, 4] rfl) hw
set_option maxRecDepth 20000 in
theorem t_m_fewest_22 {p : Program} {l : Launch} {e : Env} {s : State} {m : MethodId} {args : Array Value} {below : List Frame} {meth : Method} {c : Code} {E : zE} {q : Nat} {f_code : Int32} {a_tape : Nat → Int32} {a_size : Nat → Int32} {a_fault : Nat → Int32} {a_faultPlace : Nat → Int32} {a_many : Nat → Int32} {a_lands : Nat → Int32} {a_evenings : Nat → Int32} {a_sights : Nat → Int32} {a_choirs : Nat → Int32} {f_reached : Int32} {f_length : Int32} {f_begins : Int32} {f_sort : Int32} {f_value : Int32} {f_word : Int64} {f_wrongAt : Int32} {f_laterFault : Int32} {f_laterPlace : Int32} {a_told : Nat → Int32} {a_read : Nat → Int32} {f_farHut : Int32} {f_farSinger : Int32} {f_good : Int32} {f_land : Int32} {f_huts : Int32} {f_singers : Int32} {f_evening : Int32} {a_at : Nat → Int32} {a_knows : Nat → Int32} {a_climbed : Nat → Int32} {a_snow : Nat → Int32} {a_level : Nat → Int32} {f_begun : Int32} {f_minute : Int32} {f_avalanches : Int32} {a_run : Nat → Int32} {a_covers : Nat → Int32} {a_routes : Nat → Int32} {a_longest : Nat → Int32} {a_steep : Nat → Int32} {a_laid : Nat → Int32} {a_far : Nat → Int32} {f_sight : Int32} {a_runs : Nat → Int32} {f_choir : Int32} {f_voices : Int32} {a_rest : Nat → Int64} {a_wins : Nat → Int32} {f_seed : Int32} {a_other : Nat → Int32} {a_kept : Nat → Int32} {P5 : Int32 → Int32 → Prop} {post : Int32 → Prop} {x1 : Int32} {x2 : Int32} {x3 : Int32} {x4 : Int32} {x5 : Int32} {x6 : Int32} {ls : Array Slot}
    (zc : zC p s m args meth c cX11_fewest 7 RX11 (some .int))
    (hK : zK E s)
    (hM : mW E q f_code a_tape a_size a_fault a_faultPlace a_many a_lands a_evenings a_sights a_choirs f_reached f_length f_begins f_sort f_value f_word f_wrongAt f_laterFault f_laterPlace a_told a_read f_farHut f_farSinger f_good f_land f_huts f_singers f_evening a_at a_knows a_climbed a_snow a_level f_begun f_minute f_avalanches a_run a_covers a_routes a_longest a_steep a_laid a_far f_sight a_runs f_choir f_voices a_rest a_wins f_seed a_other a_kept s.heap)
    (hP5 : ∀ (x3 : Int32) (x4 : Int32) (ls : Array Slot), P5 x3 x4 → lv_has ls 7 [(0, .ref q), (1, .int x1), (2, .int x2), (3, .int x3), (4, .int x4)] → W p l e rm_m_fewest s m args below meth c s.heap [] 0 0 (MQ below (vp_Si post) args s 0 0 (fun _ => False)) (F0 m 5 ls []))
    (hl : lv_has ls 7 [(0, .ref q), (1, .int x1), (2, .int x2), (3, .int x3), (4, .int x4), (5, .int x5), (6, .int x6)])
    (hw : q_m_fewest_22 P5 f_huts a_covers x1 x2 x3 x4 x5 x6 post) :
    W p l e rm_m_fewest s m args below meth c s.heap [] 0 0 (MQ below (vp_Si post) args s 0 0 (fun _ => False)) (F0 m 22 ls []) := by
  have hx := zc.1
  have hb := zc.2.1
  refine hw (fun x5 x6 => ∀ (ls : Array Slot), lv_has ls 7 [(0, .ref q), (1, .int x1), (2, .int x2), (3, .int x3), (4, .int x4), (5, .int x5), (6, .int x6)] → W p l e rm_m_fewest s m args below meth c s.heap [] 0 0 (MQ below (vp_Si post) args s 0 0 (fun _ => False)) (F0 m 22 ls [])) ?_ _ hl
  intro x5 x6 hw ls hl
  refine lv_iload hx hb dX11_fewest_22 (lv_at hl 6 rfl) ?_
  refine lv_aload_n hx hb dX11_fewest_24 rfl (lv_at hl 0 rfl) ?_
  refine mg_11_307_0 zc hK hM dX11_fewest_25 ?_
  refine lv_icmp_ge (tgt := 63) hx hb dX11_fewest_28 (by decide) (fun hc => ?_) (fun hc => ?_)
  · have hw := hw.1 hc
    refine lv_iload hx hb dX11_fewest_63 (lv_at hl 4 rfl) ?_
    refine lv_iload_n hx hb dX11_fewest_65 rfl (lv_at hl 1 rfl) ?_
    refine lv_iconst (v := (-1 : Int32)) hx hb dX11_fewest_66 (by decide) ?_
    refine lv_ixor hx hb dX11_fewest_67 ?_
    refine lv_iand hx hb dX11_fewest_68 ?_
    refine lv_if_ne (tgt := 85) hx hb dX11_fewest_69 (by decide) (fun hc => ?_) (fun hc => ?_)
    · have hw := hw.1 hc
      exact t_m_fewest_85 zc hK hM hP5 (lv_sub hl [0, 1, 2, 3, 4] rfl) hw
    · have hw := hw.2 hc
      refine lv_iload_n hx hb dX11_fewest_72 rfl (lv_at hl 2 rfl) ?_
      refine lv_iload hx hb dX11_fewest_73 (lv_at hl 5 rfl) ?_
      refine lv_iconst (v := (-1 : Int32)) hx hb dX11_fewest_75 (by decide) ?_
      refine lv_ixor hx hb dX11_fewest_76 ?_
      refine lv_iand hx hb dX11_fewest_77 ?_
      refine lv_if_ne (tgt := 85) hx hb dX11_fewest_78 (by decide) (fun hc => ?_) (fun hc => ?_)
      · have hw := hw.1 hc
        exact t_m_fewest_85 zc hK hM hP5 (lv_sub hl [0, 1, 2, 3, 4] rfl) hw
      · have hw := hw.2 hc
        refine lv_iconst (v := (1 : Int32)) hx hb dX11_fewest_81 (by decide) ?_
        refine lv_goto (tgt := 86) hx hb dX11_fewest_82 (by decide) ?_
        exact t_m_fewest_86 zc hK hM hP5 (lv_sub hl [0, 1, 2, 3, 4] rfl) hw
  · have hw := hw.2 hc
    refine lv_iload hx hb dX11_fewest_31 (lv_at hl 5 rfl) ?_
    refine lv_iload hx hb dX11_fewest_33 (lv_at hl 4 rfl) ?_
    refine lv_iload hx hb dX11_fewest_35 (lv_at hl 6 rfl) ?_
    refine zS_i [.int x4, .int x6] [.int x5] zc ky_X11_has kz_X11_has km_11_101 (c_m_has l hw) (zPre0 _) rfl rfl hl.1 (Nat.le_of_ble_eq_true rfl) ⟨rfl, rfl⟩ ⟨Nat.le_of_ble_eq_true rfl, Nat.le_of_ble_eq_true rfl⟩ ⟨(Nat.zero_le _), (Nat.zero_le _)⟩ dX11_fewest_37 (fun r_1 hw => ?_)
    refine lv_if_eq (tgt := 53) hx hb dX11_fewest_40 (by decide) (fun hc => ?_) (fun hc => ?_)
    · have hw := hw.1 hc
      refine lv_iconst (v := (0 : Int32)) hx hb dX11_fewest_53 (by decide) ?_
      exact t_m_fewest_54 zc hK hM hP5 (fun _ _ ls h hl => h ls hl) (lv_sub hl [0, 1, 2, 3, 4, 6] rfl) hw
    · have hw := hw.2 hc
      refine lv_aload_n hx hb dX11_fewest_43 rfl (lv_at hl 0 rfl) ?_
      refine mg_11_62_0 zc hK hM dX11_fewest_44 ?_
      refine lv_iload hx hb dX11_fewest_47 (lv_at hl 6 rfl) ?_
      refine mld_18 zc hK hM hw.1 dX11_fewest_49 ?_
      have hw := hw.2
      refine lv_goto (tgt := 54) hx hb dX11_fewest_50 (by decide) ?_
      exact t_m_fewest_54 zc hK hM hP5 (fun _ _ ls h hl => h ls hl) (lv_sub hl [0, 1, 2, 3, 4, 6] rfl) hw
set_option maxRecDepth 20000 in
theorem t_m_fewest_5 {p : Program} {l : Launch} {e : Env} {s : State} {m : MethodId} {args : Array Value} {below : List Frame} {meth : Method} {c : Code} {E : zE} {q : Nat} {f_code : Int32} {a_tape : Nat → Int32} {a_size : Nat → Int32} {a_fault : Nat → Int32} {a_faultPlace : Nat → Int32} {a_many : Nat → Int32} {a_lands : Nat → Int32} {a_evenings : Nat → Int32} {a_sights : Nat → Int32} {a_choirs : Nat → Int32} {f_reached : Int32} {f_length : Int32} {f_begins : Int32} {f_sort : Int32} {f_value : Int32} {f_word : Int64} {f_wrongAt : Int32} {f_laterFault : Int32} {f_laterPlace : Int32} {a_told : Nat → Int32} {a_read : Nat → Int32} {f_farHut : Int32} {f_farSinger : Int32} {f_good : Int32} {f_land : Int32} {f_huts : Int32} {f_singers : Int32} {f_evening : Int32} {a_at : Nat → Int32} {a_knows : Nat → Int32} {a_climbed : Nat → Int32} {a_snow : Nat → Int32} {a_level : Nat → Int32} {f_begun : Int32} {f_minute : Int32} {f_avalanches : Int32} {a_run : Nat → Int32} {a_covers : Nat → Int32} {a_routes : Nat → Int32} {a_longest : Nat → Int32} {a_steep : Nat → Int32} {a_laid : Nat → Int32} {a_far : Nat → Int32} {f_sight : Int32} {a_runs : Nat → Int32} {f_choir : Int32} {f_voices : Int32} {a_rest : Nat → Int64} {a_wins : Nat → Int32} {f_seed : Int32} {a_other : Nat → Int32} {a_kept : Nat → Int32} {post : Int32 → Prop} {x1 : Int32} {x2 : Int32} {x3 : Int32} {x4 : Int32} {ls : Array Slot}
    (zc : zC p s m args meth c cX11_fewest 7 RX11 (some .int))
    (hK : zK E s)
    (hM : mW E q f_code a_tape a_size a_fault a_faultPlace a_many a_lands a_evenings a_sights a_choirs f_reached f_length f_begins f_sort f_value f_word f_wrongAt f_laterFault f_laterPlace a_told a_read f_farHut f_farSinger f_good f_land f_huts f_singers f_evening a_at a_knows a_climbed a_snow a_level f_begun f_minute f_avalanches a_run a_covers a_routes a_longest a_steep a_laid a_far f_sight a_runs f_choir f_voices a_rest a_wins f_seed a_other a_kept s.heap)
    (hl : lv_has ls 7 [(0, .ref q), (1, .int x1), (2, .int x2), (3, .int x3), (4, .int x4)])
    (hw : q_m_fewest_5 f_huts a_covers x1 x2 x3 x4 post) :
    W p l e rm_m_fewest s m args below meth c s.heap [] 0 0 (MQ below (vp_Si post) args s 0 0 (fun _ => False)) (F0 m 5 ls []) := by
  have hx := zc.1
  have hb := zc.2.1
  refine hw (fun x3 x4 => ∀ (ls : Array Slot), lv_has ls 7 [(0, .ref q), (1, .int x1), (2, .int x2), (3, .int x3), (4, .int x4)] → W p l e rm_m_fewest s m args below meth c s.heap [] 0 0 (MQ below (vp_Si post) args s 0 0 (fun _ => False)) (F0 m 5 ls [])) ?_ _ hl
  intro x3 x4 hw ls hl
  refine lv_iload hx hb dX11_fewest_5 (lv_at hl 4 rfl) ?_
  refine lv_iconst (v := (1 : Int32)) hx hb dX11_fewest_7 (by decide) ?_
  refine lv_aload_n hx hb dX11_fewest_8 rfl (lv_at hl 0 rfl) ?_
  refine mg_11_307_0 zc hK hM dX11_fewest_9 ?_
  refine lv_ishl hx hb dX11_fewest_12 ?_
  refine lv_icmp_ge (tgt := 123) hx hb dX11_fewest_13 (by decide) (fun hc => ?_) (fun hc => ?_)
  · have hw := hw.1 hc
    refine lv_iload_n hx hb dX11_fewest_123 rfl (lv_at hl 3 rfl) ?_
    exact zret_i zc hw dX11_fewest_124
  · have hw := hw.2 hc
    refine lv_iconst (v := (0 : Int32)) hx hb dX11_fewest_16 (by decide) ?_
    refine lv_istore (lv' := [(5, .int (0 : Int32)), (0, .ref q), (1, .int x1), (2, .int x2), (3, .int x3), (4, .int x4)]) hx hb dX11_fewest_17 hl (by decide) rfl (fun ls hl => ?_)
    refine lv_iconst (v := (0 : Int32)) hx hb dX11_fewest_19 (by decide) ?_
    refine lv_istore (lv' := [(6, .int (0 : Int32)), (5, .int (0 : Int32)), (0, .ref q), (1, .int x1), (2, .int x2), (3, .int x3), (4, .int x4)]) hx hb dX11_fewest_20 hl (by decide) rfl (fun ls hl => ?_)
    exact t_m_fewest_22 zc hK hM (fun _ _ ls h hl => h ls hl) (lv_sub hl [2, 3, 4, 5, 6, 1, 0] rfl) hw
set_option maxRecDepth 20000 in
theorem t_m_fewest_0 {p : Program} {l : Launch} {e : Env} {s : State} {m : MethodId} {args : Array Value} {below : List Frame} {meth : Method} {c : Code} {E : zE} {q : Nat} {f_code : Int32} {a_tape : Nat → Int32} {a_size : Nat → Int32} {a_fault : Nat → Int32} {a_faultPlace : Nat → Int32} {a_many : Nat → Int32} {a_lands : Nat → Int32} {a_evenings : Nat → Int32} {a_sights : Nat → Int32} {a_choirs : Nat → Int32} {f_reached : Int32} {f_length : Int32} {f_begins : Int32} {f_sort : Int32} {f_value : Int32} {f_word : Int64} {f_wrongAt : Int32} {f_laterFault : Int32} {f_laterPlace : Int32} {a_told : Nat → Int32} {a_read : Nat → Int32} {f_farHut : Int32} {f_farSinger : Int32} {f_good : Int32} {f_land : Int32} {f_huts : Int32} {f_singers : Int32} {f_evening : Int32} {a_at : Nat → Int32} {a_knows : Nat → Int32} {a_climbed : Nat → Int32} {a_snow : Nat → Int32} {a_level : Nat → Int32} {f_begun : Int32} {f_minute : Int32} {f_avalanches : Int32} {a_run : Nat → Int32} {a_covers : Nat → Int32} {a_routes : Nat → Int32} {a_longest : Nat → Int32} {a_steep : Nat → Int32} {a_laid : Nat → Int32} {a_far : Nat → Int32} {f_sight : Int32} {a_runs : Nat → Int32} {f_choir : Int32} {f_voices : Int32} {a_rest : Nat → Int64} {a_wins : Nat → Int32} {f_seed : Int32} {a_other : Nat → Int32} {a_kept : Nat → Int32} {post : Int32 → Prop} {x1 : Int32} {x2 : Int32} {ls : Array Slot}
    (zc : zC p s m args meth c cX11_fewest 7 RX11 (some .int))
    (hK : zK E s)
    (hM : mW E q f_code a_tape a_size a_fault a_faultPlace a_many a_lands a_evenings a_sights a_choirs f_reached f_length f_begins f_sort f_value f_word f_wrongAt f_laterFault f_laterPlace a_told a_read f_farHut f_farSinger f_good f_land f_huts f_singers f_evening a_at a_knows a_climbed a_snow a_level f_begun f_minute f_avalanches a_run a_covers a_routes a_longest a_steep a_laid a_far f_sight a_runs f_choir f_voices a_rest a_wins f_seed a_other a_kept s.heap)
    (hl : lv_has ls 7 [(0, .ref q), (1, .int x1), (2, .int x2)])
    (hw : q_m_fewest_0 f_huts a_covers x1 x2 post) :
    W p l e rm_m_fewest s m args below meth c s.heap [] 0 0 (MQ below (vp_Si post) args s 0 0 (fun _ => False)) (F0 m 0 ls []) := by
  have hx := zc.1
  have hb := zc.2.1
  refine lv_iconst (v := (-1 : Int32)) hx hb dX11_fewest_0 (by decide) ?_
  refine lv_istore_n (lv' := [(3, .int (-1 : Int32)), (0, .ref q), (1, .int x1), (2, .int x2)]) hx hb dX11_fewest_1 rfl hl (by decide) rfl (fun ls hl => ?_)
  refine lv_iconst (v := (0 : Int32)) hx hb dX11_fewest_2 (by decide) ?_
  refine lv_istore (lv' := [(4, .int (0 : Int32)), (3, .int (-1 : Int32)), (0, .ref q), (1, .int x1), (2, .int x2)]) hx hb dX11_fewest_3 hl (by decide) rfl (fun ls hl => ?_)
  exact t_m_fewest_5 zc hK hM  (lv_sub hl [2, 3, 4, 1, 0] rfl) hw
set_option maxRecDepth 20000 in
theorem c_m_fewest (l : Launch) {E : zE} {q : Nat} {f_code : Int32} {a_tape : Nat → Int32} {a_size : Nat → Int32} {a_fault : Nat → Int32} {a_faultPlace : Nat → Int32} {a_many : Nat → Int32} {a_lands : Nat → Int32} {a_evenings : Nat → Int32} {a_sights : Nat → Int32} {a_choirs : Nat → Int32} {f_reached : Int32} {f_length : Int32} {f_begins : Int32} {f_sort : Int32} {f_value : Int32} {f_word : Int64} {f_wrongAt : Int32} {f_laterFault : Int32} {f_laterPlace : Int32} {a_told : Nat → Int32} {a_read : Nat → Int32} {f_farHut : Int32} {f_farSinger : Int32} {f_good : Int32} {f_land : Int32} {f_huts : Int32} {f_singers : Int32} {f_evening : Int32} {a_at : Nat → Int32} {a_knows : Nat → Int32} {a_climbed : Nat → Int32} {a_snow : Nat → Int32} {a_level : Nat → Int32} {f_begun : Int32} {f_minute : Int32} {f_avalanches : Int32} {a_run : Nat → Int32} {a_covers : Nat → Int32} {a_routes : Nat → Int32} {a_longest : Nat → Int32} {a_steep : Nat → Int32} {a_laid : Nat → Int32} {a_far : Nat → Int32} {f_sight : Int32} {a_runs : Nat → Int32} {f_choir : Int32} {f_voices : Int32} {a_rest : Nat → Int64} {a_wins : Nat → Int32} {f_seed : Int32} {a_other : Nat → Int32} {a_kept : Nat → Int32} {x1 : Int32} {x2 : Int32} {post : Int32 → Prop} (hw : q_m_fewest_0 f_huts a_covers x1 x2 post) : Met l yX11_fewest (Cond.code yX11_fewest cX11_fewest 7 (some .int) :: zb) rm_m_fewest (va_Pc [.ref q, .int x1, .int x2] (fun U => mW E q f_code a_tape a_size a_fault a_faultPlace a_many a_lands a_evenings a_sights a_choirs f_reached f_length f_begins f_sort f_value f_word f_wrongAt f_laterFault f_laterPlace a_told a_read f_farHut f_farSinger f_good f_land f_huts f_singers f_evening a_at a_knows a_climbed a_snow a_level f_begun f_minute f_avalanches a_run a_covers a_routes a_longest a_steep a_laid a_far f_sight a_runs f_choir f_voices a_rest a_wins f_seed a_other a_kept U.heap ∧ zK E U)) (vp_Si post) 0 0 (fun _ => False) := by
  refine Met.ofW (cc := cX11_fewest) (maxL := 7) (ret := (some .int)) (by decide) rfl ?_
  intro p e s m args below meth c s₁ B hml hv
  obtain ⟨rfl, hM, hK⟩ := hv
  have zc := zc_of B hml
  have hl := lv_entry ([.ref q, .int x1, .int x2]) (n := 7) (Nat.le_of_ble_eq_true rfl)
  rw [lg_entry_eq]
  generalize (lg_sl ([.ref q, .int x1, .int x2]) ++ List.replicate (7 - (lg_sl ([.ref q, .int x1, .int x2])).length) Slot.unset).toArray = ls at hl ⊢
  have hl : lv_has ls 7 [(0, .ref q), (1, .int x1), (2, .int x2)] := hl
  exact t_m_fewest_0 zc hK hM (lv_sub hl [0, 1, 2] rfl) hw
-- m_noDams
abbrev rm_m_noDams : Room := { frames := 1, cells := 0, slots := 0, locals := 21 }
def q_m_noDams_0 (a_lands : Nat → Int32) (f_land : Int32) (f_huts : Int32) (post : Int32 → Prop) : Prop :=
  q_m_of_0 a_lands f_land (3 : Int32) (fun r_1 => post ((((1 : Int32) <<< (f_huts &&& 31)) - (1 : Int32)) &&& (r_1 ^^^ (-1 : Int32))))
set_option maxRecDepth 20000 in
theorem t_m_noDams_0 {p : Program} {l : Launch} {e : Env} {s : State} {m : MethodId} {args : Array Value} {below : List Frame} {meth : Method} {c : Code} {E : zE} {q : Nat} {f_code : Int32} {a_tape : Nat → Int32} {a_size : Nat → Int32} {a_fault : Nat → Int32} {a_faultPlace : Nat → Int32} {a_many : Nat → Int32} {a_lands : Nat → Int32} {a_evenings : Nat → Int32} {a_sights : Nat → Int32} {a_choirs : Nat → Int32} {f_reached : Int32} {f_length : Int32} {f_begins : Int32} {f_sort : Int32} {f_value : Int32} {f_word : Int64} {f_wrongAt : Int32} {f_laterFault : Int32} {f_laterPlace : Int32} {a_told : Nat → Int32} {a_read : Nat → Int32} {f_farHut : Int32} {f_farSinger : Int32} {f_good : Int32} {f_land : Int32} {f_huts : Int32} {f_singers : Int32} {f_evening : Int32} {a_at : Nat → Int32} {a_knows : Nat → Int32} {a_climbed : Nat → Int32} {a_snow : Nat → Int32} {a_level : Nat → Int32} {f_begun : Int32} {f_minute : Int32} {f_avalanches : Int32} {a_run : Nat → Int32} {a_covers : Nat → Int32} {a_routes : Nat → Int32} {a_longest : Nat → Int32} {a_steep : Nat → Int32} {a_laid : Nat → Int32} {a_far : Nat → Int32} {f_sight : Int32} {a_runs : Nat → Int32} {f_choir : Int32} {f_voices : Int32} {a_rest : Nat → Int64} {a_wins : Nat → Int32} {f_seed : Int32} {a_other : Nat → Int32} {a_kept : Nat → Int32} {post : Int32 → Prop} {ls : Array Slot}
    (zc : zC p s m args meth c cX11_noDams 1 RX11 (some .int))
    (hK : zK E s)
    (hM : mW E q f_code a_tape a_size a_fault a_faultPlace a_many a_lands a_evenings a_sights a_choirs f_reached f_length f_begins f_sort f_value f_word f_wrongAt f_laterFault f_laterPlace a_told a_read f_farHut f_farSinger f_good f_land f_huts f_singers f_evening a_at a_knows a_climbed a_snow a_level f_begun f_minute f_avalanches a_run a_covers a_routes a_longest a_steep a_laid a_far f_sight a_runs f_choir f_voices a_rest a_wins f_seed a_other a_kept s.heap)
    (hl : lv_has ls 1 [(0, .ref q)])
    (hw : q_m_noDams_0 a_lands f_land f_huts post) :
    W p l e rm_m_noDams s m args below meth c s.heap [] 0 0 (MQ below (vp_Si post) args s 0 0 (fun _ => False)) (F0 m 0 ls []) := by
  have hx := zc.1
  have hb := zc.2.1
  refine lv_iconst (v := (1 : Int32)) hx hb dX11_noDams_0 (by decide) ?_
  refine lv_aload_n hx hb dX11_noDams_1 rfl (lv_at hl 0 rfl) ?_
  refine mg_11_307_0 zc hK hM dX11_noDams_2 ?_
  refine lv_ishl hx hb dX11_noDams_5 ?_
  refine lv_iconst (v := (1 : Int32)) hx hb dX11_noDams_6 (by decide) ?_
  refine lv_isub hx hb dX11_noDams_7 ?_
  refine lv_aload_n hx hb dX11_noDams_8 rfl (lv_at hl 0 rfl) ?_
  refine lv_iconst (v := (3 : Int32)) hx hb dX11_noDams_9 (by decide) ?_
  refine zV_i [.int (3 : Int32)] [.int (((1 : Int32) <<< (f_huts &&& 31)) - (1 : Int32))] zc ky_X11_of kz_X11_of km_11_303 (c_m_of l hw) (mPreV0 hK hM) rfl rfl hl.1 (Nat.le_of_ble_eq_true rfl) ⟨rfl, rfl⟩ ⟨Nat.le_of_ble_eq_true rfl, Nat.le_of_ble_eq_true rfl⟩ ⟨(Nat.zero_le _), (Nat.zero_le _)⟩ dX11_noDams_10 (fun r_1 hw => ?_)
  refine lv_iconst (v := (-1 : Int32)) hx hb dX11_noDams_13 (by decide) ?_
  refine lv_ixor hx hb dX11_noDams_14 ?_
  refine lv_iand hx hb dX11_noDams_15 ?_
  exact zret_i zc hw dX11_noDams_16
set_option maxRecDepth 20000 in
theorem c_m_noDams (l : Launch) {E : zE} {q : Nat} {f_code : Int32} {a_tape : Nat → Int32} {a_size : Nat → Int32} {a_fault : Nat → Int32} {a_faultPlace : Nat → Int32} {a_many : Nat → Int32} {a_lands : Nat → Int32} {a_evenings : Nat → Int32} {a_sights : Nat → Int32} {a_choirs : Nat → Int32} {f_reached : Int32} {f_length : Int32} {f_begins : Int32} {f_sort : Int32} {f_value : Int32} {f_word : Int64} {f_wrongAt : Int32} {f_laterFault : Int32} {f_laterPlace : Int32} {a_told : Nat → Int32} {a_read : Nat → Int32} {f_farHut : Int32} {f_farSinger : Int32} {f_good : Int32} {f_land : Int32} {f_huts : Int32} {f_singers : Int32} {f_evening : Int32} {a_at : Nat → Int32} {a_knows : Nat → Int32} {a_climbed : Nat → Int32} {a_snow : Nat → Int32} {a_level : Nat → Int32} {f_begun : Int32} {f_minute : Int32} {f_avalanches : Int32} {a_run : Nat → Int32} {a_covers : Nat → Int32} {a_routes : Nat → Int32} {a_longest : Nat → Int32} {a_steep : Nat → Int32} {a_laid : Nat → Int32} {a_far : Nat → Int32} {f_sight : Int32} {a_runs : Nat → Int32} {f_choir : Int32} {f_voices : Int32} {a_rest : Nat → Int64} {a_wins : Nat → Int32} {f_seed : Int32} {a_other : Nat → Int32} {a_kept : Nat → Int32} {post : Int32 → Prop} (hw : q_m_noDams_0 a_lands f_land f_huts post) : Met l yX11_noDams (Cond.code yX11_noDams cX11_noDams 1 (some .int) :: zb) rm_m_noDams (va_Pc [.ref q] (fun U => mW E q f_code a_tape a_size a_fault a_faultPlace a_many a_lands a_evenings a_sights a_choirs f_reached f_length f_begins f_sort f_value f_word f_wrongAt f_laterFault f_laterPlace a_told a_read f_farHut f_farSinger f_good f_land f_huts f_singers f_evening a_at a_knows a_climbed a_snow a_level f_begun f_minute f_avalanches a_run a_covers a_routes a_longest a_steep a_laid a_far f_sight a_runs f_choir f_voices a_rest a_wins f_seed a_other a_kept U.heap ∧ zK E U)) (vp_Si post) 0 0 (fun _ => False) := by
  refine Met.ofW (cc := cX11_noDams) (maxL := 1) (ret := (some .int)) (by decide) rfl ?_
  intro p e s m args below meth c s₁ B hml hv
  obtain ⟨rfl, hM, hK⟩ := hv
  have zc := zc_of B hml
  have hl := lv_entry ([.ref q]) (n := 1) (Nat.le_of_ble_eq_true rfl)
  rw [lg_entry_eq]
  generalize (lg_sl ([.ref q]) ++ List.replicate (1 - (lg_sl ([.ref q])).length) Slot.unset).toArray = ls at hl ⊢
  have hl : lv_has ls 1 [(0, .ref q)] := hl
  exact t_m_noDams_0 zc hK hM (lv_sub hl [0] rfl) hw
-- m_villages
abbrev rm_m_villages : Room := { frames := 4, cells := 0, slots := 0, locals := 93 }
def q_m_villages_0 (f_code : Int32) (a_many : Nat → Int32) (a_lands : Nat → Int32) (f_land : Int32) (f_huts : Int32) (f_singers : Int32) (a_run : Nat → Int32) (a_covers : Nat → Int32) (x1 : Int32) (x2 : Int32) (x3 : Int32) (post : Int32 → (Int32) → (Int32) → (Int32) → (Int32) → (Nat → Int32) → (Nat → Int32) → Prop) : Prop :=
  q_m_hand_0 a_many a_lands f_land f_huts f_singers x1 (fun r_1 f_land_1 f_huts_1 f_singers_1 => (r_1 = 0 → (post (-2 : Int32) (0 : Int32) f_land_1 f_huts_1 f_singers_1 a_run a_covers)) ∧ (¬ r_1 = 0 → (q_m_in_0 x2 (0 : Int32) (99 : Int32) (fun r_2 => (r_2 = 0 → (post (-2 : Int32) (0 : Int32) f_land_1 f_huts_1 f_singers_1 a_run a_covers)) ∧ (¬ r_2 = 0 → (q_m_in_0 x3 (0 : Int32) (1 : Int32) (fun r_3 => (¬ r_3 = 0 → (q_m_allBy_0 a_lands f_land_1 f_huts_1 a_run a_covers x2 (fun r_4 a_run_1 a_covers_1 => (¬ x3 = 0 → (q_m_noDams_0 a_lands f_land_1 f_huts_1 (fun r_5 => q_m_wanted_0 a_lands f_land_1 (fun r_6 => q_m_fewest_0 f_huts_1 a_covers_1 r_5 r_6 (fun r_7 => post r_7 (0 : Int32) f_land_1 f_huts_1 f_singers_1 a_run_1 a_covers_1))))) ∧ (x3 = 0 → (post r_4 (0 : Int32) f_land_1 f_huts_1 f_singers_1 a_run_1 a_covers_1))))) ∧ (r_3 = 0 → (post (-2 : Int32) (0 : Int32) f_land_1 f_huts_1 f_singers_1 a_run a_covers)))))))))
set_option maxRecDepth 20000 in
theorem t_m_villages_0 {p : Program} {l : Launch} {e : Env} {s : State} {m : MethodId} {args : Array Value} {below : List Frame} {meth : Method} {c : Code} {E : zE} {q : Nat} {f_code : Int32} {a_tape : Nat → Int32} {a_size : Nat → Int32} {a_fault : Nat → Int32} {a_faultPlace : Nat → Int32} {a_many : Nat → Int32} {a_lands : Nat → Int32} {a_evenings : Nat → Int32} {a_sights : Nat → Int32} {a_choirs : Nat → Int32} {f_reached : Int32} {f_length : Int32} {f_begins : Int32} {f_sort : Int32} {f_value : Int32} {f_word : Int64} {f_wrongAt : Int32} {f_laterFault : Int32} {f_laterPlace : Int32} {a_told : Nat → Int32} {a_read : Nat → Int32} {f_farHut : Int32} {f_farSinger : Int32} {f_good : Int32} {f_land : Int32} {f_huts : Int32} {f_singers : Int32} {f_evening : Int32} {a_at : Nat → Int32} {a_knows : Nat → Int32} {a_climbed : Nat → Int32} {a_snow : Nat → Int32} {a_level : Nat → Int32} {f_begun : Int32} {f_minute : Int32} {f_avalanches : Int32} {a_run : Nat → Int32} {a_covers : Nat → Int32} {a_routes : Nat → Int32} {a_longest : Nat → Int32} {a_steep : Nat → Int32} {a_laid : Nat → Int32} {a_far : Nat → Int32} {f_sight : Int32} {a_runs : Nat → Int32} {f_choir : Int32} {f_voices : Int32} {a_rest : Nat → Int64} {a_wins : Nat → Int32} {f_seed : Int32} {a_other : Nat → Int32} {a_kept : Nat → Int32} {post : Int32 → (Int32) → (Int32) → (Int32) → (Int32) → (Nat → Int32) → (Nat → Int32) → Prop} {x1 : Int32} {x2 : Int32} {x3 : Int32} {ls : Array Slot} {H : Heap} {locs : List Loc}
    (zc : zC p s m args meth c cX11_villages 5 RX11 (some .int))
    (hK : zK E s)
    (hM : mW E q f_code a_tape a_size a_fault a_faultPlace a_many a_lands a_evenings a_sights a_choirs f_reached f_length f_begins f_sort f_value f_word f_wrongAt f_laterFault f_laterPlace a_told a_read f_farHut f_farSinger f_good f_land f_huts f_singers f_evening a_at a_knows a_climbed a_snow a_level f_begun f_minute f_avalanches a_run a_covers a_routes a_longest a_steep a_laid a_far f_sight a_runs f_choir f_voices a_rest a_wins f_seed a_other a_kept H)
    (hS : va_S (mA q) s.heap H locs)
    (hl : lv_has ls 5 [(0, .ref q), (1, .int x1), (2, .int x2), (3, .int x3)])
    (hw : q_m_villages_0 f_code a_many a_lands f_land f_huts f_singers a_run a_covers x1 x2 x3 post) :
    W p l e rm_m_villages s m args below meth c H locs 0 0 (MQ below (zQi (S := (Int32) × (Int32) × (Int32) × (Int32) × (Nat → Int32) × (Nat → Int32)) (fun r u => post r u.1 u.2.1 u.2.2.1 u.2.2.2.1 u.2.2.2.2.1 u.2.2.2.2.2) (fun u H => mW E q u.1 a_tape a_size a_fault a_faultPlace a_many a_lands a_evenings a_sights a_choirs f_reached f_length f_begins f_sort f_value f_word f_wrongAt f_laterFault f_laterPlace a_told a_read f_farHut f_farSinger f_good u.2.1 u.2.2.1 u.2.2.2.1 f_evening a_at a_knows a_climbed a_snow a_level f_begun f_minute f_avalanches u.2.2.2.2.1 u.2.2.2.2.2 a_routes a_longest a_steep a_laid a_far f_sight a_runs f_choir f_voices a_rest a_wins f_seed a_other a_kept H) (mA q)) args s 0 0 (mA q)) (F0 m 0 ls []) := by
  have hx := zc.1
  have hb := zc.2.1
  refine lv_aload_n hx hb dX11_villages_0 rfl (lv_at hl 0 rfl) ?_
  refine lv_iconst (v := (0 : Int32)) hx hb dX11_villages_1 (by decide) ?_
  refine mp_11_97_0 zc hK hM hS dX11_villages_2 (fun H locs hM hS => ?_)
  refine lv_aload_n hx hb dX11_villages_5 rfl (lv_at hl 0 rfl) ?_
  refine lv_iload_n hx hb dX11_villages_6 rfl (lv_at hl 1 rfl) ?_
  refine zVw_i [.int x1] [] zc ky_X11_hand kz_X11_hand km_11_313 (c_m_hand l hw) (mPreV0 hK hM) hS rfl rfl hl.1 (Nat.le_of_ble_eq_true rfl) ⟨rfl, rfl⟩ ⟨Nat.le_of_ble_eq_true rfl, Nat.le_of_ble_eq_true rfl⟩ ⟨(Nat.zero_le _), (Nat.zero_le _)⟩ dX11_villages_7 (fun r_1 u H locs hw hM hS => ?_)
  obtain ⟨f_land_1, f_huts_1, f_singers_1⟩ := u
  refine lv_if_eq (tgt := 32) hx hb dX11_villages_10 (by decide) (fun hc => ?_) (fun hc => ?_)
  · have hw := hw.1 hc
    refine lv_bipush (v := (-2 : Int32)) hx hb dX11_villages_32 (by decide) ?_
    exact zret_iw ⟨(0 : Int32), f_land_1, f_huts_1, f_singers_1, a_run, a_covers⟩ zc hS hw hM dX11_villages_34
  · have hw := hw.2 hc
    refine lv_iload_n hx hb dX11_villages_13 rfl (lv_at hl 2 rfl) ?_
    refine lv_iconst (v := (0 : Int32)) hx hb dX11_villages_14 (by decide) ?_
    refine lv_bipush (v := (99 : Int32)) hx hb dX11_villages_15 (by decide) ?_
    refine zS_i [.int x2, .int (0 : Int32), .int (99 : Int32)] [] zc ky_X11_in kz_X11_in km_11_109 (c_m_in l hw) (zPre0 _) rfl rfl hl.1 (Nat.le_of_ble_eq_true rfl) ⟨rfl, rfl⟩ ⟨Nat.le_of_ble_eq_true rfl, Nat.le_of_ble_eq_true rfl⟩ ⟨(Nat.zero_le _), (Nat.zero_le _)⟩ dX11_villages_17 (fun r_2 hw => ?_)
    refine lv_if_eq (tgt := 32) hx hb dX11_villages_20 (by decide) (fun hc => ?_) (fun hc => ?_)
    · have hw := hw.1 hc
      refine lv_bipush (v := (-2 : Int32)) hx hb dX11_villages_32 (by decide) ?_
      exact zret_iw ⟨(0 : Int32), f_land_1, f_huts_1, f_singers_1, a_run, a_covers⟩ zc hS hw hM dX11_villages_34
    · have hw := hw.2 hc
      refine lv_iload_n hx hb dX11_villages_23 rfl (lv_at hl 3 rfl) ?_
      refine lv_iconst (v := (0 : Int32)) hx hb dX11_villages_24 (by decide) ?_
      refine lv_iconst (v := (1 : Int32)) hx hb dX11_villages_25 (by decide) ?_
      refine zS_i [.int x3, .int (0 : Int32), .int (1 : Int32)] [] zc ky_X11_in kz_X11_in km_11_109 (c_m_in l hw) (zPre0 _) rfl rfl hl.1 (Nat.le_of_ble_eq_true rfl) ⟨rfl, rfl⟩ ⟨Nat.le_of_ble_eq_true rfl, Nat.le_of_ble_eq_true rfl⟩ ⟨(Nat.zero_le _), (Nat.zero_le _)⟩ dX11_villages_26 (fun r_3 hw => ?_)
      refine lv_if_ne (tgt := 35) hx hb dX11_villages_29 (by decide) (fun hc => ?_) (fun hc => ?_)
      · have hw := hw.1 hc
        refine lv_aload_n hx hb dX11_villages_35 rfl (lv_at hl 0 rfl) ?_
        refine lv_iload_n hx hb dX11_villages_36 rfl (lv_at hl 2 rfl) ?_
        refine zVw_i [.int x2] [] zc ky_X11_allBy kz_X11_allBy km_11_432 (c_m_allBy l hw) (mPreV0 hK hM) hS rfl rfl hl.1 (Nat.le_of_ble_eq_true rfl) ⟨rfl, rfl⟩ ⟨Nat.le_of_ble_eq_true rfl, Nat.le_of_ble_eq_true rfl⟩ ⟨(Nat.zero_le _), (Nat.zero_le _)⟩ dX11_villages_37 (fun r_4 u H locs hw hM hS => ?_)
        obtain ⟨a_run_1, a_covers_1⟩ := u
        refine lv_istore (lv' := [(4, .int r_4), (0, .ref q), (1, .int x1), (2, .int x2), (3, .int x3)]) hx hb dX11_villages_40 hl (by decide) rfl (fun ls hl => ?_)
        refine lv_iload_n hx hb dX11_villages_42 rfl (lv_at hl 4 rfl) ?_
        refine lv_if_ne (tgt := 51) hx hb dX11_villages_43 (by decide) (fun hc => ?_) (fun hc => ?_)
        · have hw := hw.1 hc
          refine lv_aload_n hx hb dX11_villages_51 rfl (lv_at hl 1 rfl) ?_
          refine lv_aload_n hx hb dX11_villages_52 rfl (lv_at hl 1 rfl) ?_
          refine zV_i [] [.ref q] zc ky_X11_noDams kz_X11_noDams km_11_435 (c_m_noDams l hw) (mPreV0 hK hM) rfl rfl hl.1 (Nat.le_of_ble_eq_true rfl) ⟨rfl, rfl⟩ ⟨Nat.le_of_ble_eq_true rfl, Nat.le_of_ble_eq_true rfl⟩ ⟨(Nat.zero_le _), (Nat.zero_le _)⟩ dX11_villages_53 (fun r_5 hw => ?_)
          refine lv_aload_n hx hb dX11_villages_56 rfl (lv_at hl 1 rfl) ?_
          refine zV_i [] [.int r_5, .ref q] zc ky_X11_wanted kz_X11_wanted km_11_420 (c_m_wanted l hw) (mPreV0 hK hM) rfl rfl hl.1 (Nat.le_of_ble_eq_true rfl) ⟨rfl, rfl⟩ ⟨Nat.le_of_ble_eq_true rfl, Nat.le_of_ble_eq_true rfl⟩ ⟨(Nat.zero_le _), (Nat.zero_le _)⟩ dX11_villages_57 (fun r_6 hw => ?_)
          refine zV_i [.int r_5, .int r_6] [] zc ky_X11_fewest kz_X11_fewest km_11_438 (c_m_fewest l hw) (mPreV0 hK hM) rfl rfl hl.1 (Nat.le_of_ble_eq_true rfl) ⟨rfl, rfl⟩ ⟨Nat.le_of_ble_eq_true rfl, Nat.le_of_ble_eq_true rfl⟩ ⟨(Nat.zero_le _), (Nat.zero_le _)⟩ dX11_villages_60 (fun r_7 hw => ?_)
          exact zret_iw ⟨(0 : Int32), f_land_1, f_huts_1, f_singers_1, a_run_1, a_covers_1⟩ zc hS hw hM dX11_villages_63
        · have hw := hw.2 hc
          refine lv_iload hx hb dX11_villages_46 (lv_at hl 0 rfl) ?_
          refine lv_goto (tgt := 63) hx hb dX11_villages_48 (by decide) ?_
          exact zret_iw ⟨(0 : Int32), f_land_1, f_huts_1, f_singers_1, a_run_1, a_covers_1⟩ zc hS hw hM dX11_villages_63
      · have hw := hw.2 hc
        refine lv_bipush (v := (-2 : Int32)) hx hb dX11_villages_32 (by decide) ?_
        exact zret_iw ⟨(0 : Int32), f_land_1, f_huts_1, f_singers_1, a_run, a_covers⟩ zc hS hw hM dX11_villages_34
set_option maxRecDepth 20000 in
theorem c_m_villages (l : Launch) {E : zE} {q : Nat} {f_code : Int32} {a_tape : Nat → Int32} {a_size : Nat → Int32} {a_fault : Nat → Int32} {a_faultPlace : Nat → Int32} {a_many : Nat → Int32} {a_lands : Nat → Int32} {a_evenings : Nat → Int32} {a_sights : Nat → Int32} {a_choirs : Nat → Int32} {f_reached : Int32} {f_length : Int32} {f_begins : Int32} {f_sort : Int32} {f_value : Int32} {f_word : Int64} {f_wrongAt : Int32} {f_laterFault : Int32} {f_laterPlace : Int32} {a_told : Nat → Int32} {a_read : Nat → Int32} {f_farHut : Int32} {f_farSinger : Int32} {f_good : Int32} {f_land : Int32} {f_huts : Int32} {f_singers : Int32} {f_evening : Int32} {a_at : Nat → Int32} {a_knows : Nat → Int32} {a_climbed : Nat → Int32} {a_snow : Nat → Int32} {a_level : Nat → Int32} {f_begun : Int32} {f_minute : Int32} {f_avalanches : Int32} {a_run : Nat → Int32} {a_covers : Nat → Int32} {a_routes : Nat → Int32} {a_longest : Nat → Int32} {a_steep : Nat → Int32} {a_laid : Nat → Int32} {a_far : Nat → Int32} {f_sight : Int32} {a_runs : Nat → Int32} {f_choir : Int32} {f_voices : Int32} {a_rest : Nat → Int64} {a_wins : Nat → Int32} {f_seed : Int32} {a_other : Nat → Int32} {a_kept : Nat → Int32} {x1 : Int32} {x2 : Int32} {x3 : Int32} {post : Int32 → (Int32) → (Int32) → (Int32) → (Int32) → (Nat → Int32) → (Nat → Int32) → Prop} (hw : q_m_villages_0 f_code a_many a_lands f_land f_huts f_singers a_run a_covers x1 x2 x3 post) : Met l yX11_villages (Cond.code yX11_villages cX11_villages 5 (some .int) :: zb) rm_m_villages (va_Pc [.ref q, .int x1, .int x2, .int x3] (fun U => mW E q f_code a_tape a_size a_fault a_faultPlace a_many a_lands a_evenings a_sights a_choirs f_reached f_length f_begins f_sort f_value f_word f_wrongAt f_laterFault f_laterPlace a_told a_read f_farHut f_farSinger f_good f_land f_huts f_singers f_evening a_at a_knows a_climbed a_snow a_level f_begun f_minute f_avalanches a_run a_covers a_routes a_longest a_steep a_laid a_far f_sight a_runs f_choir f_voices a_rest a_wins f_seed a_other a_kept U.heap ∧ zK E U)) (zQi (S := (Int32) × (Int32) × (Int32) × (Int32) × (Nat → Int32) × (Nat → Int32)) (fun r u => post r u.1 u.2.1 u.2.2.1 u.2.2.2.1 u.2.2.2.2.1 u.2.2.2.2.2) (fun u H => mW E q u.1 a_tape a_size a_fault a_faultPlace a_many a_lands a_evenings a_sights a_choirs f_reached f_length f_begins f_sort f_value f_word f_wrongAt f_laterFault f_laterPlace a_told a_read f_farHut f_farSinger f_good u.2.1 u.2.2.1 u.2.2.2.1 f_evening a_at a_knows a_climbed a_snow a_level f_begun f_minute f_avalanches u.2.2.2.2.1 u.2.2.2.2.2 a_routes a_longest a_steep a_laid a_far f_sight a_runs f_choir f_voices a_rest a_wins f_seed a_other a_kept H) (mA q)) 0 0 (mA q) := by
  refine Met.ofW (cc := cX11_villages) (maxL := 5) (ret := (some .int)) (by decide) rfl ?_
  intro p e s m args below meth c s₁ B hml hv
  obtain ⟨rfl, hM, hK⟩ := hv
  have zc := zc_of B hml
  have hl := lv_entry ([.ref q, .int x1, .int x2, .int x3]) (n := 5) (Nat.le_of_ble_eq_true rfl)
  rw [lg_entry_eq]
  generalize (lg_sl ([.ref q, .int x1, .int x2, .int x3]) ++ List.replicate (5 - (lg_sl ([.ref q, .int x1, .int x2, .int x3])).length) Slot.unset).toArray = ls at hl ⊢
  have hl : lv_has ls 5 [(0, .ref q), (1, .int x1), (2, .int x2), (3, .int x3)] := hl
  exact t_m_villages_0 zc hK hM va_S.rf (lv_sub hl [0, 1, 2, 3] rfl) hw
-- m_best
abbrev rm_m_best : Room := { frames := 3, cells := 0, slots := 0, locals := 70 }
def q_m_best_100 (f_code : Int32) (a_many : Nat → Int32) (a_lands : Nat → Int32) (f_land : Int32) (f_huts : Int32) (f_singers : Int32) (a_run : Nat → Int32) (x3 : Int32) (post : Int32 → (Int32) → (Int32) → (Int32) → (Int32) → (Nat → Int32) → Prop) : Prop :=
  post x3 f_code f_land f_huts f_singers a_run
def q_m_best_75 (P25 : Int32 → Int32 → Int32 → (Nat → Int32) → Prop) (f_code : Int32) (a_many : Nat → Int32) (a_lands : Nat → Int32) (f_land : Int32) (f_huts : Int32) (f_singers : Int32) (a_run : Nat → Int32) (x2 : Int32) (x4 : Int32) (x5 : Int32) (x6 : Int32) (y0 : Int32) (post : Int32 → (Int32) → (Int32) → (Int32) → (Int32) → (Nat → Int32) → Prop) : Prop :=
  q_m_lesser_0 x4 x6 (fun r_1 => ∀ v_1 : Int32, v_1 = x5 + (1 : Int32) → (P25 y0 r_1 v_1 a_run))
def q_m_best_60 (P25 : Int32 → Int32 → Int32 → (Nat → Int32) → Prop) (f_code : Int32) (a_many : Nat → Int32) (a_lands : Nat → Int32) (f_land : Int32) (f_huts : Int32) (f_singers : Int32) (a_run : Nat → Int32) (x2 : Int32) (x3 : Int32) (x4 : Int32) (x5 : Int32) (y0 : Int32) (post : Int32 → (Int32) → (Int32) → (Int32) → (Int32) → (Nat → Int32) → Prop) : Prop :=
  (x4 ≤ y0 → (q_m_best_75 P25 f_code a_many a_lands f_land f_huts f_singers a_run x2 x4 x5 y0 x3 post)) ∧ (¬ x4 ≤ y0 → (q_m_best_75 P25 f_code a_many a_lands f_land f_huts f_singers a_run x2 x4 x5 y0 x5 post))
def q_m_best_25 (f_code : Int32) (a_many : Nat → Int32) (a_lands : Nat → Int32) (f_land : Int32) (f_huts : Int32) (f_singers : Int32) (a_run : Nat → Int32) (x2 : Int32) (x3 : Int32) (x4 : Int32) (x5 : Int32) (post : Int32 → (Int32) → (Int32) → (Int32) → (Int32) → (Nat → Int32) → Prop) : Prop :=
  ∀ P25 : Int32 → Int32 → Int32 → (Nat → Int32) → Prop, (∀ (x3 : Int32) (x4 : Int32) (x5 : Int32) (a_run : Nat → Int32), ((f_huts ≤ x5 → ((x3 = (-1 : Int32) → (q_m_best_100 f_code a_many a_lands f_land f_huts f_singers a_run x3 post)) ∧ (¬ x3 = (-1 : Int32) → ((¬ x2 = 0 → (post x4 f_code f_land f_huts f_singers a_run)) ∧ (x2 = 0 → (q_m_best_100 f_code a_many a_lands f_land f_huts f_singers a_run x3 post)))))) ∧ (¬ f_huts ≤ x5 → (q_m_findRun_0 a_lands f_land f_huts a_run x5 (0 : Int32) (fun a_run_1 => q_m_isDam_0 a_lands f_land x5 (fun r_1 => (r_1 = 0 → (q_m_lastVillage_0 a_lands f_land f_huts a_run_1 (fun r_2 => q_m_best_60 P25 f_code a_many a_lands f_land f_huts f_singers a_run_1 x2 x3 x4 x5 r_2 post))) ∧ (¬ r_1 = 0 → (q_m_best_60 P25 f_code a_many a_lands f_land f_huts f_singers a_run_1 x2 x3 x4 x5 (1000000 : Int32) post))))))) → P25 x3 x4 x5 a_run) → P25 x3 x4 x5 a_run
def q_m_best_0 (f_code : Int32) (a_many : Nat → Int32) (a_lands : Nat → Int32) (f_land : Int32) (f_huts : Int32) (f_singers : Int32) (a_run : Nat → Int32) (x1 : Int32) (x2 : Int32) (post : Int32 → (Int32) → (Int32) → (Int32) → (Int32) → (Nat → Int32) → Prop) : Prop :=
  q_m_hand_0 a_many a_lands f_land f_huts f_singers x1 (fun r_1 f_land_1 f_huts_1 f_singers_1 => (¬ r_1 = 0 → (q_m_best_25 (0 : Int32) a_many a_lands f_land_1 f_huts_1 f_singers_1 a_run x2 (-1 : Int32) (1000000 : Int32) (0 : Int32) post)) ∧ (r_1 = 0 → (post (-1 : Int32) (0 : Int32) f_land_1 f_huts_1 f_singers_1 a_run)))
set_option maxRecDepth 20000 in
theorem t_m_best_100 {p : Program} {l : Launch} {e : Env} {s : State} {m : MethodId} {args : Array Value} {below : List Frame} {meth : Method} {c : Code} {E : zE} {q : Nat} {f_code : Int32} {a_tape : Nat → Int32} {a_size : Nat → Int32} {a_fault : Nat → Int32} {a_faultPlace : Nat → Int32} {a_many : Nat → Int32} {a_lands : Nat → Int32} {a_evenings : Nat → Int32} {a_sights : Nat → Int32} {a_choirs : Nat → Int32} {f_reached : Int32} {f_length : Int32} {f_begins : Int32} {f_sort : Int32} {f_value : Int32} {f_word : Int64} {f_wrongAt : Int32} {f_laterFault : Int32} {f_laterPlace : Int32} {a_told : Nat → Int32} {a_read : Nat → Int32} {f_farHut : Int32} {f_farSinger : Int32} {f_good : Int32} {f_land : Int32} {f_huts : Int32} {f_singers : Int32} {f_evening : Int32} {a_at : Nat → Int32} {a_knows : Nat → Int32} {a_climbed : Nat → Int32} {a_snow : Nat → Int32} {a_level : Nat → Int32} {f_begun : Int32} {f_minute : Int32} {f_avalanches : Int32} {a_run : Nat → Int32} {a_covers : Nat → Int32} {a_routes : Nat → Int32} {a_longest : Nat → Int32} {a_steep : Nat → Int32} {a_laid : Nat → Int32} {a_far : Nat → Int32} {f_sight : Int32} {a_runs : Nat → Int32} {f_choir : Int32} {f_voices : Int32} {a_rest : Nat → Int64} {a_wins : Nat → Int32} {f_seed : Int32} {a_other : Nat → Int32} {a_kept : Nat → Int32} {post : Int32 → (Int32) → (Int32) → (Int32) → (Int32) → (Nat → Int32) → Prop} {x3 : Int32} {ls : Array Slot} {H : Heap} {locs : List Loc}
    (zc : zC p s m args meth c cX11_best 7 RX11 (some .int))
    (hK : zK E s)
    (hM : mW E q f_code a_tape a_size a_fault a_faultPlace a_many a_lands a_evenings a_sights a_choirs f_reached f_length f_begins f_sort f_value f_word f_wrongAt f_laterFault f_laterPlace a_told a_read f_farHut f_farSinger f_good f_land f_huts f_singers f_evening a_at a_knows a_climbed a_snow a_level f_begun f_minute f_avalanches a_run a_covers a_routes a_longest a_steep a_laid a_far f_sight a_runs f_choir f_voices a_rest a_wins f_seed a_other a_kept H)
    (hS : va_S (mA q) s.heap H locs)
    (hl : lv_has ls 7 [(3, .int x3)])
    (hw : q_m_best_100 f_code a_many a_lands f_land f_huts f_singers a_run x3 post) :
    W p l e rm_m_best s m args below meth c H locs 0 0 (MQ below (zQi (S := (Int32) × (Int32) × (Int32) × (Int32) × (Nat → Int32)) (fun r u => post r u.1 u.2.1 u.2.2.1 u.2.2.2.1 u.2.2.2.2) (fun u H => mW E q u.1 a_tape a_size a_fault a_faultPlace a_many a_lands a_evenings a_sights a_choirs f_reached f_length f_begins f_sort f_value f_word f_wrongAt f_laterFault f_laterPlace a_told a_read f_farHut f_farSinger f_good u.2.1 u.2.2.1 u.2.2.2.1 f_evening a_at a_knows a_climbed a_snow a_level f_begun f_minute f_avalanches u.2.2.2.2 a_covers a_routes a_longest a_steep a_laid a_far f_sight a_runs f_choir f_voices a_rest a_wins f_seed a_other a_kept H) (mA q)) args s 0 0 (mA q)) (F0 m 100 ls []) := by
  have hx := zc.1
  have hb := zc.2.1
  refine lv_iload_n hx hb dX11_best_100 rfl (lv_at hl 0 rfl) ?_
  refine lv_goto (tgt := 106) hx hb dX11_best_101 (by decide) ?_
  exact zret_iw ⟨f_code, f_land, f_huts, f_singers, a_run⟩ zc hS hw hM dX11_best_106
set_option maxRecDepth 20000 in
theorem t_m_best_75 {p : Program} {l : Launch} {e : Env} {s : State} {m : MethodId} {args : Array Value} {below : List Frame} {meth : Method} {c : Code} {E : zE} {q : Nat} {f_code : Int32} {a_tape : Nat → Int32} {a_size : Nat → Int32} {a_fault : Nat → Int32} {a_faultPlace : Nat → Int32} {a_many : Nat → Int32} {a_lands : Nat → Int32} {a_evenings : Nat → Int32} {a_sights : Nat → Int32} {a_choirs : Nat → Int32} {f_reached : Int32} {f_length : Int32} {f_begins : Int32} {f_sort : Int32} {f_value : Int32} {f_word : Int64} {f_wrongAt : Int32} {f_laterFault : Int32} {f_laterPlace : Int32} {a_told : Nat → Int32} {a_read : Nat → Int32} {f_farHut : Int32} {f_farSinger : Int32} {f_good : Int32} {f_land : Int32} {f_huts : Int32} {f_singers : Int32} {f_evening : Int32} {a_at : Nat → Int32} {a_knows : Nat → Int32} {a_climbed : Nat → Int32} {a_snow : Nat → Int32} {a_level : Nat → Int32} {f_begun : Int32} {f_minute : Int32} {f_avalanches : Int32} {a_run : Nat → Int32} {a_covers : Nat → Int32} {a_routes : Nat → Int32} {a_longest : Nat → Int32} {a_steep : Nat → Int32} {a_laid : Nat → Int32} {a_far : Nat → Int32} {f_sight : Int32} {a_runs : Nat → Int32} {f_choir : Int32} {f_voices : Int32} {a_rest : Nat → Int64} {a_wins : Nat → Int32} {f_seed : Int32} {a_other : Nat → Int32} {a_kept : Nat → Int32} {P25 : Int32 → Int32 → Int32 → (Nat → Int32) → Prop} {post : Int32 → (Int32) → (Int32) → (Int32) → (Int32) → (Nat → Int32) → Prop} {x2 : Int32} {x4 : Int32} {x5 : Int32} {x6 : Int32} {y0 : Int32} {ls : Array Slot} {H : Heap} {locs : List Loc}
    (zc : zC p s m args meth c cX11_best 7 RX11 (some .int))
    (hK : zK E s)
    (hM : mW E q f_code a_tape a_size a_fault a_faultPlace a_many a_lands a_evenings a_sights a_choirs f_reached f_length f_begins f_sort f_value f_word f_wrongAt f_laterFault f_laterPlace a_told a_read f_farHut f_farSinger f_good f_land f_huts f_singers f_evening a_at a_knows a_climbed a_snow a_level f_begun f_minute f_avalanches a_run a_covers a_routes a_longest a_steep a_laid a_far f_sight a_runs f_choir f_voices a_rest a_wins f_seed a_other a_kept H)
    (hS : va_S (mA q) s.heap H locs)
    (hP25 : ∀ (x3 : Int32) (x4 : Int32) (x5 : Int32) (a_run : Nat → Int32) (H : Heap) (locs : List Loc) (ls : Array Slot), P25 x3 x4 x5 a_run → lv_has ls 7 [(0, .ref q), (2, .int x2), (3, .int x3), (4, .int x4), (5, .int x5)] → mW E q f_code a_tape a_size a_fault a_faultPlace a_many a_lands a_evenings a_sights a_choirs f_reached f_length f_begins f_sort f_value f_word f_wrongAt f_laterFault f_laterPlace a_told a_read f_farHut f_farSinger f_good f_land f_huts f_singers f_evening a_at a_knows a_climbed a_snow a_level f_begun f_minute f_avalanches a_run a_covers a_routes a_longest a_steep a_laid a_far f_sight a_runs f_choir f_voices a_rest a_wins f_seed a_other a_kept H → va_S (mA q) s.heap H locs → W p l e rm_m_best s m args below meth c H locs 0 0 (MQ below (zQi (S := (Int32) × (Int32) × (Int32) × (Int32) × (Nat → Int32)) (fun r u => post r u.1 u.2.1 u.2.2.1 u.2.2.2.1 u.2.2.2.2) (fun u H => mW E q u.1 a_tape a_size a_fault a_faultPlace a_many a_lands a_evenings a_sights a_choirs f_reached f_length f_begins f_sort f_value f_word f_wrongAt f_laterFault f_laterPlace a_told a_read f_farHut f_farSinger f_good u.2.1 u.2.2.1 u.2.2.2.1 f_evening a_at a_knows a_climbed a_snow a_level f_begun f_minute f_avalanches u.2.2.2.2 a_covers a_routes a_longest a_steep a_laid a_far f_sight a_runs f_choir f_voices a_rest a_wins f_seed a_other a_kept H) (mA q)) args s 0 0 (mA q)) (F0 m 25 ls []))
    (hl : lv_has ls 7 [(0, .ref q), (2, .int x2), (4, .int x4), (5, .int x5), (6, .int x6)])
    (hw : q_m_best_75 P25 f_code a_many a_lands f_land f_huts f_singers a_run x2 x4 x5 x6 y0 post) :
    W p l e rm_m_best s m args below meth c H locs 0 0 (MQ below (zQi (S := (Int32) × (Int32) × (Int32) × (Int32) × (Nat → Int32)) (fun r u => post r u.1 u.2.1 u.2.2.1 u.2.2.2.1 u.2.2.2.2) (fun u H => mW E q u.1 a_tape a_size a_fault a_faultPlace a_many a_lands a_evenings a_sights a_choirs f_reached f_length f_begins f_sort f_value f_word f_wrongAt f_laterFault f_laterPlace a_told a_read f_farHut f_farSinger f_good u.2.1 u.2.2.1 u.2.2.2.1 f_evening a_at a_knows a_climbed a_snow a_level f_begun f_minute f_avalanches u.2.2.2.2 a_covers a_routes a_longest a_steep a_laid a_far f_sight a_runs f_choir f_voices a_rest a_wins f_seed a_other a_kept H) (mA q)) args s 0 0 (mA q)) (F0 m 75 ls [.int y0]) := by
  have hx := zc.1
  have hb := zc.2.1
  refine lv_istore_n (lv' := [(3, .int y0), (0, .ref q), (2, .int x2), (4, .int x4), (5, .int x5), (6, .int x6)]) hx hb dX11_best_75 rfl hl (by decide) rfl (fun ls hl => ?_)
  refine lv_iload hx hb dX11_best_76 (lv_at hl 3 rfl) ?_
  refine lv_iload hx hb dX11_best_78 (lv_at hl 5 rfl) ?_
  refine zS_i [.int x4, .int x6] [] zc ky_X11_lesser kz_X11_lesser km_11_411 (c_m_lesser l hw) (zPre0 _) rfl rfl hl.1 (Nat.le_of_ble_eq_true rfl) ⟨rfl, rfl⟩ ⟨Nat.le_of_ble_eq_true rfl, Nat.le_of_ble_eq_true rfl⟩ ⟨(Nat.zero_le _), (Nat.zero_le _)⟩ dX11_best_80 (fun r_1 hw => ?_)
  refine lv_istore (lv' := [(4, .int r_1), (3, .int y0), (0, .ref q), (2, .int x2), (5, .int x5), (6, .int x6)]) hx hb dX11_best_83 hl (by decide) rfl (fun ls hl => ?_)
  obtain ⟨v_1, ev_1⟩ : ∃ y : Int32, y = x5 + (1 : Int32) := ⟨_, rfl⟩
  have hw := hw v_1 ev_1
  refine lv_iinc (v := v_1) (k := 4) (lv' := [(5, .int v_1), (4, .int r_1), (3, .int y0), (0, .ref q), (2, .int x2), (6, .int x6)]) hx hb dX11_best_85 hl rfl (by rw [ev_1]; rfl) (by decide) rfl (fun ls hl => ?_)
  refine lv_goto (tgt := 25) hx hb dX11_best_88 (by decide) ?_
  exact hP25 _ _ _ _ _ _ _ hw (lv_sub hl [3, 4, 2, 1, 0] rfl) hM hS
set_option maxRecDepth 20000 in
theorem t_m_best_60 {p : Program} {l : Launch} {e : Env} {s : State} {m : MethodId} {args : Array Value} {below : List Frame} {meth : Method} {c : Code} {E : zE} {q : Nat} {f_code : Int32} {a_tape : Nat → Int32} {a_size : Nat → Int32} {a_fault : Nat → Int32} {a_faultPlace : Nat → Int32} {a_many : Nat → Int32} {a_lands : Nat → Int32} {a_evenings : Nat → Int32} {a_sights : Nat → Int32} {a_choirs : Nat → Int32} {f_reached : Int32} {f_length : Int32} {f_begins : Int32} {f_sort : Int32} {f_value : Int32} {f_word : Int64} {f_wrongAt : Int32} {f_laterFault : Int32} {f_laterPlace : Int32} {a_told : Nat → Int32} {a_read : Nat → Int32} {f_farHut : Int32} {f_farSinger : Int32} {f_good : Int32} {f_land : Int32} {f_huts : Int32} {f_singers : Int32} {f_evening : Int32} {a_at : Nat → Int32} {a_knows : Nat → Int32} {a_climbed : Nat → Int32} {a_snow : Nat → Int32} {a_level : Nat → Int32} {f_begun : Int32} {f_minute : Int32} {f_avalanches : Int32} {a_run : Nat → Int32} {a_covers : Nat → Int32} {a_routes : Nat → Int32} {a_longest : Nat → Int32} {a_steep : Nat → Int32} {a_laid : Nat → Int32} {a_far : Nat → Int32} {f_sight : Int32} {a_runs : Nat → Int32} {f_choir : Int32} {f_voices : Int32} {a_rest : Nat → Int64} {a_wins : Nat → Int32} {f_seed : Int32} {a_other : Nat → Int32} {a_kept : Nat → Int32} {P25 : Int32 → Int32 → Int32 → (Nat → Int32) → Prop} {post : Int32 → (Int32) → (Int32) → (Int32) → (Int32) → (Nat → Int32) → Prop} {x2 : Int32} {x3 : Int32} {x4 : Int32} {x5 : Int32} {y0 : Int32} {ls : Array Slot} {H : Heap} {locs : List Loc}
    (zc : zC p s m args meth c cX11_best 7 RX11 (some .int))
    (hK : zK E s)
    (hM : mW E q f_code a_tape a_size a_fault a_faultPlace a_many a_lands a_evenings a_sights a_choirs f_reached f_length f_begins f_sort f_value f_word f_wrongAt f_laterFault f_laterPlace a_told a_read f_farHut f_farSinger f_good f_land f_huts f_singers f_evening a_at a_knows a_climbed a_snow a_level f_begun f_minute f_avalanches a_run a_covers a_routes a_longest a_steep a_laid a_far f_sight a_runs f_choir f_voices a_rest a_wins f_seed a_other a_kept H)
    (hS : va_S (mA q) s.heap H locs)
    (hP25 : ∀ (x3 : Int32) (x4 : Int32) (x5 : Int32) (a_run : Nat → Int32) (H : Heap) (locs : List Loc) (ls : Array Slot), P25 x3 x4 x5 a_run → lv_has ls 7 [(0, .ref q), (2, .int x2), (3, .int x3), (4, .int x4), (5, .int x5)] → mW E q f_code a_tape a_size a_fault a_faultPlace a_many a_lands a_evenings a_sights a_choirs f_reached f_length f_begins f_sort f_value f_word f_wrongAt f_laterFault f_laterPlace a_told a_read f_farHut f_farSinger f_good f_land f_huts f_singers f_evening a_at a_knows a_climbed a_snow a_level f_begun f_minute f_avalanches a_run a_covers a_routes a_longest a_steep a_laid a_far f_sight a_runs f_choir f_voices a_rest a_wins f_seed a_other a_kept H → va_S (mA q) s.heap H locs → W p l e rm_m_best s m args below meth c H locs 0 0 (MQ below (zQi (S := (Int32) × (Int32) × (Int32) × (Int32) × (Nat → Int32)) (fun r u => post r u.1 u.2.1 u.2.2.1 u.2.2.2.1 u.2.2.2.2) (fun u H => mW E q u.1 a_tape a_size a_fault a_faultPlace a_many a_lands a_evenings a_sights a_choirs f_reached f_length f_begins f_sort f_value f_word f_wrongAt f_laterFault f_laterPlace a_told a_read f_farHut f_farSinger f_good u.2.1 u.2.2.1 u.2.2.2.1 f_evening a_at a_knows a_climbed a_snow a_level f_begun f_minute f_avalanches u.2.2.2.2 a_covers a_routes a_longest a_steep a_laid a_far f_sight a_runs f_choir f_voices a_rest a_wins f_seed a_other a_kept H) (mA q)) args s 0 0 (mA q)) (F0 m 25 ls []))
    (hl : lv_has ls 7 [(0, .ref q), (2, .int x2), (3, .int x3), (4, .int x4), (5, .int x5)])
    (hw : q_m_best_60 P25 f_code a_many a_lands f_land f_huts f_singers a_run x2 x3 x4 x5 y0 post) :
    W p l e rm_m_best s m args below meth c H locs 0 0 (MQ below (zQi (S := (Int32) × (Int32) × (Int32) × (Int32) × (Nat → Int32)) (fun r u => post r u.1 u.2.1 u.2.2.1 u.2.2.2.1 u.2.2.2.2) (fun u H => mW E q u.1 a_tape a_size a_fault a_faultPlace a_many a_lands a_evenings a_sights a_choirs f_reached f_length f_begins f_sort f_value f_word f_wrongAt f_laterFault f_laterPlace a_told a_read f_farHut f_farSinger f_good u.2.1 u.2.2.1 u.2.2.2.1 f_evening a_at a_knows a_climbed a_snow a_level f_begun f_minute f_avalanches u.2.2.2.2 a_covers a_routes a_longest a_steep a_laid a_far f_sight a_runs f_choir f_voices a_rest a_wins f_seed a_other a_kept H) (mA q)) args s 0 0 (mA q)) (F0 m 60 ls [.int y0]) := by
  have hx := zc.1
  have hb := zc.2.1
  refine lv_istore (lv' := [(6, .int y0), (0, .ref q), (2, .int x2), (3, .int x3), (4, .int x4), (5, .int x5)]) hx hb dX11_best_60 hl (by decide) rfl (fun ls hl => ?_)
  refine lv_iload hx hb dX11_best_62 (lv_at hl 0 rfl) ?_
  refine lv_iload hx hb dX11_best_64 (lv_at hl 4 rfl) ?_
  refine lv_icmp_ge (tgt := 74) hx hb dX11_best_66 (by decide) (fun hc => ?_) (fun hc => ?_)
  · have hw := hw.1 hc
    refine lv_iload_n hx hb dX11_best_74 rfl (lv_at hl 3 rfl) ?_
    exact t_m_best_75 zc hK hM hS hP25 (lv_sub hl [1, 2, 4, 5, 0] rfl) hw
  · have hw := hw.2 hc
    refine lv_iload hx hb dX11_best_69 (lv_at hl 5 rfl) ?_
    refine lv_goto (tgt := 75) hx hb dX11_best_71 (by decide) ?_
    exact t_m_best_75 zc hK hM hS hP25 (lv_sub hl [1, 2, 4, 5, 0] rfl) hw
set_option maxRecDepth 20000 in
theorem t_m_best_25 {p : Program} {l : Launch} {e : Env} {s : State} {m : MethodId} {args : Array Value} {below : List Frame} {meth : Method} {c : Code} {E : zE} {q : Nat} {f_code : Int32} {a_tape : Nat → Int32} {a_size : Nat → Int32} {a_fault : Nat → Int32} {a_faultPlace : Nat → Int32} {a_many : Nat → Int32} {a_lands : Nat → Int32} {a_evenings : Nat → Int32} {a_sights : Nat → Int32} {a_choirs : Nat → Int32} {f_reached : Int32} {f_length : Int32} {f_begins : Int32} {f_sort : Int32} {f_value : Int32} {f_word : Int64} {f_wrongAt : Int32} {f_laterFault : Int32} {f_laterPlace : Int32} {a_told : Nat → Int32} {a_read : Nat → Int32} {f_farHut : Int32} {f_farSinger : Int32} {f_good : Int32} {f_land : Int32} {f_huts : Int32} {f_singers : Int32} {f_evening : Int32} {a_at : Nat → Int32} {a_knows : Nat → Int32} {a_climbed : Nat → Int32} {a_snow : Nat → Int32} {a_level : Nat → Int32} {f_begun : Int32} {f_minute : Int32} {f_avalanches : Int32} {a_run : Nat → Int32} {a_covers : Nat → Int32} {a_routes : Nat → Int32} {a_longest : Nat → Int32} {a_steep : Nat → Int32} {a_laid : Nat → Int32} {a_far : Nat → Int32} {f_sight : Int32} {a_runs : Nat → Int32} {f_choir : Int32} {f_voices : Int32} {a_rest : Nat → Int64} {a_wins : Nat → Int32} {f_seed : Int32} {a_other : Nat → Int32} {a_kept : Nat → Int32} {post : Int32 → (Int32) → (Int32) → (Int32) → (Int32) → (Nat → Int32) → Prop} {x2 : Int32} {x3 : Int32} {x4 : Int32} {x5 : Int32} {ls : Array Slot} {H : Heap} {locs : List Loc}
    (zc : zC p s m args meth c cX11_best 7 RX11 (some .int))
    (hK : zK E s)
    (hM : mW E q f_code a_tape a_size a_fault a_faultPlace a_many a_lands a_evenings a_sights a_choirs f_reached f_length f_begins f_sort f_value f_word f_wrongAt f_laterFault f_laterPlace a_told a_read f_farHut f_farSinger f_good f_land f_huts f_singers f_evening a_at a_knows a_climbed a_snow a_level f_begun f_minute f_avalanches a_run a_covers a_routes a_longest a_steep a_laid a_far f_sight a_runs f_choir f_voices a_rest a_wins f_seed a_other a_kept H)
    (hS : va_S (mA q) s.heap H locs)
    (hl : lv_has ls 7 [(0, .ref q), (2, .int x2), (3, .int x3), (4, .int x4), (5, .int x5)])
    (hw : q_m_best_25 f_code a_many a_lands f_land f_huts f_singers a_run x2 x3 x4 x5 post) :
    W p l e rm_m_best s m args below meth c H locs 0 0 (MQ below (zQi (S := (Int32) × (Int32) × (Int32) × (Int32) × (Nat → Int32)) (fun r u => post r u.1 u.2.1 u.2.2.1 u.2.2.2.1 u.2.2.2.2) (fun u H => mW E q u.1 a_tape a_size a_fault a_faultPlace a_many a_lands a_evenings a_sights a_choirs f_reached f_length f_begins f_sort f_value f_word f_wrongAt f_laterFault f_laterPlace a_told a_read f_farHut f_farSinger f_good u.2.1 u.2.2.1 u.2.2.2.1 f_evening a_at a_knows a_climbed a_snow a_level f_begun f_minute f_avalanches u.2.2.2.2 a_covers a_routes a_longest a_steep a_laid a_far f_sight a_runs f_choir f_voices a_rest a_wins f_seed a_other a_kept H) (mA q)) args s 0 0 (mA q)) (F0 m 25 ls []) := by
  have hx := zc.1
  have hb := zc.2.1
  refine hw (fun x3 x4 x5 a_run => ∀ (H : Heap) (locs : List Loc) (ls : Array Slot), lv_has ls 7 [(0, .ref q), (2, .int x2), (3, .int x3), (4, .int x4), (5, .int x5)] → mW E q f_code a_tape a_size a_fault a_faultPlace a_many a_lands a_evenings a_sights a_choirs f_reached f_length f_begins f_sort f_value f_word f_wrongAt f_laterFault f_laterPlace a_told a_read f_farHut f_farSinger f_good f_land f_huts f_singers f_evening a_at a_knows a_climbed a_snow a_level f_begun f_minute f_avalanches a_run a_covers a_routes a_longest a_steep a_laid a_far f_sight a_runs f_choir f_voices a_rest a_wins f_seed a_other a_kept H → va_S (mA q) s.heap H locs → W p l e rm_m_best s m args below meth c H locs 0 0 (MQ below (zQi (S := (Int32) × (Int32) × (Int32) × (Int32) × (Nat → Int32)) (fun r u => post r u.1 u.2.1 u.2.2.1 u.2.2.2.1 u.2.2.2.2) (fun u H => mW E q u.1 a_tape a_size a_fault a_faultPlace a_many a_lands a_evenings a_sights a_choirs f_reached f_length f_begins f_sort f_value f_word f_wrongAt f_laterFault f_laterPlace a_told a_read f_farHut f_farSinger f_good u.2.1 u.2.2.1 u.2.2.2.1 f_evening a_at a_knows a_climbed a_snow a_level f_begun f_minute f_avalanches u.2.2.2.2 a_covers a_routes a_longest a_steep a_laid a_far f_sight a_runs f_choir f_voices a_rest a_wins f_seed a_other a_kept H) (mA q)) args s 0 0 (mA q)) (F0 m 25 ls [])) ?_ _ _ _ hl hM hS
  intro x3 x4 x5 a_run hw H locs ls hl hM hS
  refine lv_iload hx hb dX11_best_25 (lv_at hl 4 rfl) ?_
  refine lv_aload_n hx hb dX11_best_27 rfl (lv_at hl 0 rfl) ?_
  refine mg_11_307_0 zc hK hM dX11_best_28 ?_
  refine lv_icmp_ge (tgt := 91) hx hb dX11_best_31 (by decide) (fun hc => ?_) (fun hc => ?_)
  · have hw := hw.1 hc
    refine lv_iload_n hx hb dX11_best_91 rfl (lv_at hl 2 rfl) ?_
    refine lv_iconst (v := (-1 : Int32)) hx hb dX11_best_92 (by decide) ?_
    refine lv_icmp_eq (tgt := 100) hx hb dX11_best_93 (by decide) (fun hc => ?_) (fun hc => ?_)
    · have hw := hw.1 hc
      exact t_m_best_100 zc hK hM hS  (lv_sub hl [2] rfl) hw
    · have hw := hw.2 hc
      refine lv_iload_n hx hb dX11_best_96 rfl (lv_at hl 1 rfl) ?_
      refine lv_if_ne (tgt := 104) hx hb dX11_best_97 (by decide) (fun hc => ?_) (fun hc => ?_)
      · have hw := hw.1 hc
        refine lv_iload hx hb dX11_best_104 (lv_at hl 3 rfl) ?_
        exact zret_iw ⟨f_code, f_land, f_huts, f_singers, a_run⟩ zc hS hw hM dX11_best_106
      · have hw := hw.2 hc
        exact t_m_best_100 zc hK hM hS  (lv_sub hl [2] rfl) hw
  · have hw := hw.2 hc
    refine lv_aload_n hx hb dX11_best_34 rfl (lv_at hl 0 rfl) ?_
    refine lv_iload hx hb dX11_best_35 (lv_at hl 4 rfl) ?_
    refine lv_iconst (v := (0 : Int32)) hx hb dX11_best_37 (by decide) ?_
    refine zVw_v [.int x5, .int (0 : Int32)] [] zc ky_X11_findRun kz_X11_findRun km_11_414 (c_m_findRun l hw) (mPreV0 hK hM) hS rfl rfl hl.1 (Nat.le_of_ble_eq_true rfl) ⟨rfl, rfl⟩ ⟨Nat.le_of_ble_eq_true rfl, Nat.le_of_ble_eq_true rfl⟩ ⟨(Nat.zero_le _), (Nat.zero_le _)⟩ dX11_best_38 (fun a_run_1 H locs hw hM hS => ?_)
    refine lv_aload_n hx hb dX11_best_41 rfl (lv_at hl 0 rfl) ?_
    refine lv_iload hx hb dX11_best_42 (lv_at hl 4 rfl) ?_
    refine zV_i [.int x5] [] zc ky_X11_isDam kz_X11_isDam km_11_355 (c_m_isDam l hw) (mPreV0 hK hM) rfl rfl hl.1 (Nat.le_of_ble_eq_true rfl) ⟨rfl, rfl⟩ ⟨Nat.le_of_ble_eq_true rfl, Nat.le_of_ble_eq_true rfl⟩ ⟨(Nat.zero_le _), (Nat.zero_le _)⟩ dX11_best_44 (fun r_1 hw => ?_)
    refine lv_if_eq (tgt := 56) hx hb dX11_best_47 (by decide) (fun hc => ?_) (fun hc => ?_)
    · have hw := hw.1 hc
      refine lv_aload_n hx hb dX11_best_56 rfl (lv_at hl 0 rfl) ?_
      refine zV_i [] [] zc ky_X11_lastVillage kz_X11_lastVillage km_11_426 (c_m_lastVillage l hw) (mPreV0 hK hM) rfl rfl hl.1 (Nat.le_of_ble_eq_true rfl) ⟨rfl, rfl⟩ ⟨Nat.le_of_ble_eq_true rfl, Nat.le_of_ble_eq_true rfl⟩ ⟨(Nat.zero_le _), (Nat.zero_le _)⟩ dX11_best_57 (fun r_2 hw => ?_)
      exact t_m_best_60 zc hK hM hS (fun _ _ _ _ H locs ls h hl hM hS => h H locs ls hl hM hS) (lv_sub hl [0, 1, 2, 3, 4] rfl) hw
    · have hw := hw.2 hc
      refine lv_ldcw (v := (1000000 : Int32)) hx hb zc.2.2.2.1 (zc.2.2.2.2.1 _ kc_11_410) dX11_best_50 ?_
      refine lv_goto (tgt := 60) hx hb dX11_best_53 (by decide) ?_
      exact t_m_best_60 zc hK hM hS (fun _ _ _ _ H locs ls h hl hM hS => h H locs ls hl hM hS) (lv_sub hl [0, 1, 2, 3, 4] rfl) hw
set_option maxRecDepth 20000 in
theorem t_m_best_0 {p : Program} {l : Launch} {e : Env} {s : State} {m : MethodId} {args : Array Value} {below : List Frame} {meth : Method} {c : Code} {E : zE} {q : Nat} {f_code : Int32} {a_tape : Nat → Int32} {a_size : Nat → Int32} {a_fault : Nat → Int32} {a_faultPlace : Nat → Int32} {a_many : Nat → Int32} {a_lands : Nat → Int32} {a_evenings : Nat → Int32} {a_sights : Nat → Int32} {a_choirs : Nat → Int32} {f_reached : Int32} {f_length : Int32} {f_begins : Int32} {f_sort : Int32} {f_value : Int32} {f_word : Int64} {f_wrongAt : Int32} {f_laterFault : Int32} {f_laterPlace : Int32} {a_told : Nat → Int32} {a_read : Nat → Int32} {f_farHut : Int32} {f_farSinger : Int32} {f_good : Int32} {f_land : Int32} {f_huts : Int32} {f_singers : Int32} {f_evening : Int32} {a_at : Nat → Int32} {a_knows : Nat → Int32} {a_climbed : Nat → Int32} {a_snow : Nat → Int32} {a_level : Nat → Int32} {f_begun : Int32} {f_minute : Int32} {f_avalanches : Int32} {a_run : Nat → Int32} {a_covers : Nat → Int32} {a_routes : Nat → Int32} {a_longest : Nat → Int32} {a_steep : Nat → Int32} {a_laid : Nat → Int32} {a_far : Nat → Int32} {f_sight : Int32} {a_runs : Nat → Int32} {f_choir : Int32} {f_voices : Int32} {a_rest : Nat → Int64} {a_wins : Nat → Int32} {f_seed : Int32} {a_other : Nat → Int32} {a_kept : Nat → Int32} {post : Int32 → (Int32) → (Int32) → (Int32) → (Int32) → (Nat → Int32) → Prop} {x1 : Int32} {x2 : Int32} {ls : Array Slot} {H : Heap} {locs : List Loc}
    (zc : zC p s m args meth c cX11_best 7 RX11 (some .int))
    (hK : zK E s)
    (hM : mW E q f_code a_tape a_size a_fault a_faultPlace a_many a_lands a_evenings a_sights a_choirs f_reached f_length f_begins f_sort f_value f_word f_wrongAt f_laterFault f_laterPlace a_told a_read f_farHut f_farSinger f_good f_land f_huts f_singers f_evening a_at a_knows a_climbed a_snow a_level f_begun f_minute f_avalanches a_run a_covers a_routes a_longest a_steep a_laid a_far f_sight a_runs f_choir f_voices a_rest a_wins f_seed a_other a_kept H)
    (hS : va_S (mA q) s.heap H locs)
    (hl : lv_has ls 7 [(0, .ref q), (1, .int x1), (2, .int x2)])
    (hw : q_m_best_0 f_code a_many a_lands f_land f_huts f_singers a_run x1 x2 post) :
    W p l e rm_m_best s m args below meth c H locs 0 0 (MQ below (zQi (S := (Int32) × (Int32) × (Int32) × (Int32) × (Nat → Int32)) (fun r u => post r u.1 u.2.1 u.2.2.1 u.2.2.2.1 u.2.2.2.2) (fun u H => mW E q u.1 a_tape a_size a_fault a_faultPlace a_many a_lands a_evenings a_sights a_choirs f_reached f_length f_begins f_sort f_value f_word f_wrongAt f_laterFault f_laterPlace a_told a_read f_farHut f_farSinger f_good u.2.1 u.2.2.1 u.2.2.2.1 f_evening a_at a_knows a_climbed a_snow a_level f_begun f_minute f_avalanches u.2.2.2.2 a_covers a_routes a_longest a_steep a_laid a_far f_sight a_runs f_choir f_voices a_rest a_wins f_seed a_other a_kept H) (mA q)) args s 0 0 (mA q)) (F0 m 0 ls []) := by
  have hx := zc.1
  have hb := zc.2.1
  refine lv_aload_n hx hb dX11_best_0 rfl (lv_at hl 0 rfl) ?_
  refine lv_iconst (v := (0 : Int32)) hx hb dX11_best_1 (by decide) ?_
  refine mp_11_97_0 zc hK hM hS dX11_best_2 (fun H locs hM hS => ?_)
  refine lv_aload_n hx hb dX11_best_5 rfl (lv_at hl 0 rfl) ?_
  refine lv_iload_n hx hb dX11_best_6 rfl (lv_at hl 1 rfl) ?_
  refine zVw_i [.int x1] [] zc ky_X11_hand kz_X11_hand km_11_313 (c_m_hand l hw) (mPreV0 hK hM) hS rfl rfl hl.1 (Nat.le_of_ble_eq_true rfl) ⟨rfl, rfl⟩ ⟨Nat.le_of_ble_eq_true rfl, Nat.le_of_ble_eq_true rfl⟩ ⟨(Nat.zero_le _), (Nat.zero_le _)⟩ dX11_best_7 (fun r_1 u H locs hw hM hS => ?_)
  obtain ⟨f_land_1, f_huts_1, f_singers_1⟩ := u
  refine lv_if_ne (tgt := 15) hx hb dX11_best_10 (by decide) (fun hc => ?_) (fun hc => ?_)
  · have hw := hw.1 hc
    refine lv_iconst (v := (-1 : Int32)) hx hb dX11_best_15 (by decide) ?_
    refine lv_istore_n (lv' := [(3, .int (-1 : Int32)), (0, .ref q), (1, .int x1), (2, .int x2)]) hx hb dX11_best_16 rfl hl (by decide) rfl (fun ls hl => ?_)
    refine lv_ldcw (v := (1000000 : Int32)) hx hb zc.2.2.2.1 (zc.2.2.2.2.1 _ kc_11_410) dX11_best_17 ?_
    refine lv_istore (lv' := [(4, .int (1000000 : Int32)), (3, .int (-1 : Int32)), (0, .ref q), (1, .int x1), (2, .int x2)]) hx hb dX11_best_20 hl (by decide) rfl (fun ls hl => ?_)
    refine lv_iconst (v := (0 : Int32)) hx hb dX11_best_22 (by decide) ?_
    refine lv_istore (lv' := [(5, .int (0 : Int32)), (4, .int (1000000 : Int32)), (3, .int (-1 : Int32)), (0, .ref q), (1, .int x1), (2, .int x2)]) hx hb dX11_best_23 hl (by decide) rfl (fun ls hl => ?_)
    exact t_m_best_25 zc hK hM hS  (lv_sub hl [3, 5, 2, 1, 0] rfl) hw
  · have hw := hw.2 hc
    refine lv_iconst (v := (-1 : Int32)) hx hb dX11_best_13 (by decide) ?_
    exact zret_iw ⟨(0 : Int32), f_land_1, f_huts_1, f_singers_1, a_run⟩ zc hS hw hM dX11_best_14
set_option maxRecDepth 20000 in
theorem c_m_best (l : Launch) {E : zE} {q : Nat} {f_code : Int32} {a_tape : Nat → Int32} {a_size : Nat → Int32} {a_fault : Nat → Int32} {a_faultPlace : Nat → Int32} {a_many : Nat → Int32} {a_lands : Nat → Int32} {a_evenings : Nat → Int32} {a_sights : Nat → Int32} {a_choirs : Nat → Int32} {f_reached : Int32} {f_length : Int32} {f_begins : Int32} {f_sort : Int32} {f_value : Int32} {f_word : Int64} {f_wrongAt : Int32} {f_laterFault : Int32} {f_laterPlace : Int32} {a_told : Nat → Int32} {a_read : Nat → Int32} {f_farHut : Int32} {f_farSinger : Int32} {f_good : Int32} {f_land : Int32} {f_huts : Int32} {f_singers : Int32} {f_evening : Int32} {a_at : Nat → Int32} {a_knows : Nat → Int32} {a_climbed : Nat → Int32} {a_snow : Nat → Int32} {a_level : Nat → Int32} {f_begun : Int32} {f_minute : Int32} {f_avalanches : Int32} {a_run : Nat → Int32} {a_covers : Nat → Int32} {a_routes : Nat → Int32} {a_longest : Nat → Int32} {a_steep : Nat → Int32} {a_laid : Nat → Int32} {a_far : Nat → Int32} {f_sight : Int32} {a_runs : Nat → Int32} {f_choir : Int32} {f_voices : Int32} {a_rest : Nat → Int64} {a_wins : Nat → Int32} {f_seed : Int32} {a_other : Nat → Int32} {a_kept : Nat → Int32} {x1 : Int32} {x2 : Int32} {post : Int32 → (Int32) → (Int32) → (Int32) → (Int32) → (Nat → Int32) → Prop} (hw : q_m_best_0 f_code a_many a_lands f_land f_huts f_singers a_run x1 x2 post) : Met l yX11_best (Cond.code yX11_best cX11_best 7 (some .int) :: zb) rm_m_best (va_Pc [.ref q, .int x1, .int x2] (fun U => mW E q f_code a_tape a_size a_fault a_faultPlace a_many a_lands a_evenings a_sights a_choirs f_reached f_length f_begins f_sort f_value f_word f_wrongAt f_laterFault f_laterPlace a_told a_read f_farHut f_farSinger f_good f_land f_huts f_singers f_evening a_at a_knows a_climbed a_snow a_level f_begun f_minute f_avalanches a_run a_covers a_routes a_longest a_steep a_laid a_far f_sight a_runs f_choir f_voices a_rest a_wins f_seed a_other a_kept U.heap ∧ zK E U)) (zQi (S := (Int32) × (Int32) × (Int32) × (Int32) × (Nat → Int32)) (fun r u => post r u.1 u.2.1 u.2.2.1 u.2.2.2.1 u.2.2.2.2) (fun u H => mW E q u.1 a_tape a_size a_fault a_faultPlace a_many a_lands a_evenings a_sights a_choirs f_reached f_length f_begins f_sort f_value f_word f_wrongAt f_laterFault f_laterPlace a_told a_read f_farHut f_farSinger f_good u.2.1 u.2.2.1 u.2.2.2.1 f_evening a_at a_knows a_climbed a_snow a_level f_begun f_minute f_avalanches u.2.2.2.2 a_covers a_routes a_longest a_steep a_laid a_far f_sight a_runs f_choir f_voices a_rest a_wins f_seed a_other a_kept H) (mA q)) 0 0 (mA q) := by
  refine Met.ofW (cc := cX11_best) (maxL := 7) (ret := (some .int)) (by decide) rfl ?_
  intro p e s m args below meth c s₁ B hml hv
  obtain ⟨rfl, hM, hK⟩ := hv
  have zc := zc_of B hml
  have hl := lv_entry ([.ref q, .int x1, .int x2]) (n := 7) (Nat.le_of_ble_eq_true rfl)
  rw [lg_entry_eq]
  generalize (lg_sl ([.ref q, .int x1, .int x2]) ++ List.replicate (7 - (lg_sl ([.ref q, .int x1, .int x2])).length) Slot.unset).toArray = ls at hl ⊢
  have hl : lv_has ls 7 [(0, .ref q), (1, .int x1), (2, .int x2)] := hl
  exact t_m_best_0 zc hK hM va_S.rf (lv_sub hl [0, 1, 2] rfl) hw
-- m_nextDown
abbrev rm_m_nextDown : Room := { frames := 2, cells := 0, slots := 0, locals := 42 }
def q_m_nextDown_44 (P4 : Int32 → Int32 → Prop) (a_lands : Nat → Int32) (f_land : Int32) (f_huts : Int32) (a_laid : Nat → Int32) (x2 : Int32) (y0 : Int32) (post : Int32 → Prop) : Prop :=
  ∀ v_1 : Int32, v_1 = x2 + (1 : Int32) → (P4 y0 v_1)
def q_m_nextDown_39 (P4 : Int32 → Int32 → Prop) (a_lands : Nat → Int32) (f_land : Int32) (f_huts : Int32) (a_laid : Nat → Int32) (x2 : Int32) (post : Int32 → Prop) : Prop :=
  q_m_nextDown_44 P4 a_lands f_land f_huts a_laid x2 x2 post
def q_m_nextDown_43 (P4 : Int32 → Int32 → Prop) (a_lands : Nat → Int32) (f_land : Int32) (f_huts : Int32) (a_laid : Nat → Int32) (x1 : Int32) (x2 : Int32) (post : Int32 → Prop) : Prop :=
  q_m_nextDown_44 P4 a_lands f_land f_huts a_laid x2 x1 post
def q_m_nextDown_4 (a_lands : Nat → Int32) (f_land : Int32) (f_huts : Int32) (a_laid : Nat → Int32) (x1 : Int32) (x2 : Int32) (post : Int32 → Prop) : Prop :=
  ∀ P4 : Int32 → Int32 → Prop, (∀ (x1 : Int32) (x2 : Int32), ((f_huts ≤ x2 → (post x1)) ∧ (¬ f_huts ≤ x2 → (vp_in x2 9 ∧ ((¬ (a_laid (Int32.toNatClampNeg x2)) = 0 → (q_m_nextDown_43 P4 a_lands f_land f_huts a_laid x1 x2 post)) ∧ ((a_laid (Int32.toNatClampNeg x2)) = 0 → ((x1 = (-1 : Int32) → (q_m_nextDown_39 P4 a_lands f_land f_huts a_laid x2 post)) ∧ (¬ x1 = (-1 : Int32) → (q_m_height_0 a_lands f_land x2 (fun r_1 => q_m_height_0 a_lands f_land x1 (fun r_2 => (r_1 ≤ r_2 → (q_m_nextDown_43 P4 a_lands f_land f_huts a_laid x1 x2 post)) ∧ (¬ r_1 ≤ r_2 → (q_m_nextDown_39 P4 a_lands f_land f_huts a_laid x2 post)))))))))))) → P4 x1 x2) → P4 x1 x2
def q_m_nextDown_0 (a_lands : Nat → Int32) (f_land : Int32) (f_huts : Int32) (a_laid : Nat → Int32) (post : Int32 → Prop) : Prop :=
  q_m_nextDown_4 a_lands f_land f_huts a_laid (-1 : Int32) (0 : Int32) post
set_option maxRecDepth 20000 in
theorem t_m_nextDown_44 {p : Program} {l : Launch} {e : Env} {s : State} {m : MethodId} {args : Array Value} {below : List Frame} {meth : Method} {c : Code} {E : zE} {q : Nat} {f_code : Int32} {a_tape : Nat → Int32} {a_size : Nat → Int32} {a_fault : Nat → Int32} {a_faultPlace : Nat → Int32} {a_many : Nat → Int32} {a_lands : Nat → Int32} {a_evenings : Nat → Int32} {a_sights : Nat → Int32} {a_choirs : Nat → Int32} {f_reached : Int32} {f_length : Int32} {f_begins : Int32} {f_sort : Int32} {f_value : Int32} {f_word : Int64} {f_wrongAt : Int32} {f_laterFault : Int32} {f_laterPlace : Int32} {a_told : Nat → Int32} {a_read : Nat → Int32} {f_farHut : Int32} {f_farSinger : Int32} {f_good : Int32} {f_land : Int32} {f_huts : Int32} {f_singers : Int32} {f_evening : Int32} {a_at : Nat → Int32} {a_knows : Nat → Int32} {a_climbed : Nat → Int32} {a_snow : Nat → Int32} {a_level : Nat → Int32} {f_begun : Int32} {f_minute : Int32} {f_avalanches : Int32} {a_run : Nat → Int32} {a_covers : Nat → Int32} {a_routes : Nat → Int32} {a_longest : Nat → Int32} {a_steep : Nat → Int32} {a_laid : Nat → Int32} {a_far : Nat → Int32} {f_sight : Int32} {a_runs : Nat → Int32} {f_choir : Int32} {f_voices : Int32} {a_rest : Nat → Int64} {a_wins : Nat → Int32} {f_seed : Int32} {a_other : Nat → Int32} {a_kept : Nat → Int32} {P4 : Int32 → Int32 → Prop} {post : Int32 → Prop} {x2 : Int32} {y0 : Int32} {ls : Array Slot}
    (zc : zC p s m args meth c cX11_nextDown 3 RX11 (some .int))
    (hK : zK E s)
    (hM : mW E q f_code a_tape a_size a_fault a_faultPlace a_many a_lands a_evenings a_sights a_choirs f_reached f_length f_begins f_sort f_value f_word f_wrongAt f_laterFault f_laterPlace a_told a_read f_farHut f_farSinger f_good f_land f_huts f_singers f_evening a_at a_knows a_climbed a_snow a_level f_begun f_minute f_avalanches a_run a_covers a_routes a_longest a_steep a_laid a_far f_sight a_runs f_choir f_voices a_rest a_wins f_seed a_other a_kept s.heap)
    (hP4 : ∀ (x1 : Int32) (x2 : Int32) (ls : Array Slot), P4 x1 x2 → lv_has ls 3 [(0, .ref q), (1, .int x1), (2, .int x2)] → W p l e rm_m_nextDown s m args below meth c s.heap [] 0 0 (MQ below (vp_Si post) args s 0 0 (fun _ => False)) (F0 m 4 ls []))
    (hl : lv_has ls 3 [(0, .ref q), (2, .int x2)])
    (hw : q_m_nextDown_44 P4 a_lands f_land f_huts a_laid x2 y0 post) :
    W p l e rm_m_nextDown s m args below meth c s.heap [] 0 0 (MQ below (vp_Si post) args s 0 0 (fun _ => False)) (F0 m 44 ls [.int y0]) := by
  have hx := zc.1
  have hb := zc.2.1
  refine lv_istore_n (lv' := [(1, .int y0), (0, .ref q), (2, .int x2)]) hx hb dX11_nextDown_44 rfl hl (by decide) rfl (fun ls hl => ?_)
  obtain ⟨v_1, ev_1⟩ : ∃ y : Int32, y = x2 + (1 : Int32) := ⟨_, rfl⟩
  have hw := hw v_1 ev_1
  refine lv_iinc (v := v_1) (k := 2) (lv' := [(2, .int v_1), (1, .int y0), (0, .ref q)]) hx hb dX11_nextDown_45 hl rfl (by rw [ev_1]; rfl) (by decide) rfl (fun ls hl => ?_)
  refine lv_goto (tgt := 4) hx hb dX11_nextDown_48 (by decide) ?_
  exact hP4 _ _ _ hw (lv_sub hl [2, 1, 0] rfl)
set_option maxRecDepth 20000 in
theorem t_m_nextDown_39 {p : Program} {l : Launch} {e : Env} {s : State} {m : MethodId} {args : Array Value} {below : List Frame} {meth : Method} {c : Code} {E : zE} {q : Nat} {f_code : Int32} {a_tape : Nat → Int32} {a_size : Nat → Int32} {a_fault : Nat → Int32} {a_faultPlace : Nat → Int32} {a_many : Nat → Int32} {a_lands : Nat → Int32} {a_evenings : Nat → Int32} {a_sights : Nat → Int32} {a_choirs : Nat → Int32} {f_reached : Int32} {f_length : Int32} {f_begins : Int32} {f_sort : Int32} {f_value : Int32} {f_word : Int64} {f_wrongAt : Int32} {f_laterFault : Int32} {f_laterPlace : Int32} {a_told : Nat → Int32} {a_read : Nat → Int32} {f_farHut : Int32} {f_farSinger : Int32} {f_good : Int32} {f_land : Int32} {f_huts : Int32} {f_singers : Int32} {f_evening : Int32} {a_at : Nat → Int32} {a_knows : Nat → Int32} {a_climbed : Nat → Int32} {a_snow : Nat → Int32} {a_level : Nat → Int32} {f_begun : Int32} {f_minute : Int32} {f_avalanches : Int32} {a_run : Nat → Int32} {a_covers : Nat → Int32} {a_routes : Nat → Int32} {a_longest : Nat → Int32} {a_steep : Nat → Int32} {a_laid : Nat → Int32} {a_far : Nat → Int32} {f_sight : Int32} {a_runs : Nat → Int32} {f_choir : Int32} {f_voices : Int32} {a_rest : Nat → Int64} {a_wins : Nat → Int32} {f_seed : Int32} {a_other : Nat → Int32} {a_kept : Nat → Int32} {P4 : Int32 → Int32 → Prop} {post : Int32 → Prop} {x2 : Int32} {ls : Array Slot}
    (zc : zC p s m args meth c cX11_nextDown 3 RX11 (some .int))
    (hK : zK E s)
    (hM : mW E q f_code a_tape a_size a_fault a_faultPlace a_many a_lands a_evenings a_sights a_choirs f_reached f_length f_begins f_sort f_value f_word f_wrongAt f_laterFault f_laterPlace a_told a_read f_farHut f_farSinger f_good f_land f_huts f_singers f_evening a_at a_knows a_climbed a_snow a_level f_begun f_minute f_avalanches a_run a_covers a_routes a_longest a_steep a_laid a_far f_sight a_runs f_choir f_voices a_rest a_wins f_seed a_other a_kept s.heap)
    (hP4 : ∀ (x1 : Int32) (x2 : Int32) (ls : Array Slot), P4 x1 x2 → lv_has ls 3 [(0, .ref q), (1, .int x1), (2, .int x2)] → W p l e rm_m_nextDown s m args below meth c s.heap [] 0 0 (MQ below (vp_Si post) args s 0 0 (fun _ => False)) (F0 m 4 ls []))
    (hl : lv_has ls 3 [(0, .ref q), (2, .int x2)])
    (hw : q_m_nextDown_39 P4 a_lands f_land f_huts a_laid x2 post) :
    W p l e rm_m_nextDown s m args below meth c s.heap [] 0 0 (MQ below (vp_Si post) args s 0 0 (fun _ => False)) (F0 m 39 ls []) := by
  have hx := zc.1
  have hb := zc.2.1
  refine lv_iload_n hx hb dX11_nextDown_39 rfl (lv_at hl 1 rfl) ?_
  refine lv_goto (tgt := 44) hx hb dX11_nextDown_40 (by decide) ?_
  exact t_m_nextDown_44 zc hK hM hP4 (lv_sub hl [0, 1] rfl) hw
set_option maxRecDepth 20000 in
theorem t_m_nextDown_43 {p : Program} {l : Launch} {e : Env} {s : State} {m : MethodId} {args : Array Value} {below : List Frame} {meth : Method} {c : Code} {E : zE} {q : Nat} {f_code : Int32} {a_tape : Nat → Int32} {a_size : Nat → Int32} {a_fault : Nat → Int32} {a_faultPlace : Nat → Int32} {a_many : Nat → Int32} {a_lands : Nat → Int32} {a_evenings : Nat → Int32} {a_sights : Nat → Int32} {a_choirs : Nat → Int32} {f_reached : Int32} {f_length : Int32} {f_begins : Int32} {f_sort : Int32} {f_value : Int32} {f_word : Int64} {f_wrongAt : Int32} {f_laterFault : Int32} {f_laterPlace : Int32} {a_told : Nat → Int32} {a_read : Nat → Int32} {f_farHut : Int32} {f_farSinger : Int32} {f_good : Int32} {f_land : Int32} {f_huts : Int32} {f_singers : Int32} {f_evening : Int32} {a_at : Nat → Int32} {a_knows : Nat → Int32} {a_climbed : Nat → Int32} {a_snow : Nat → Int32} {a_level : Nat → Int32} {f_begun : Int32} {f_minute : Int32} {f_avalanches : Int32} {a_run : Nat → Int32} {a_covers : Nat → Int32} {a_routes : Nat → Int32} {a_longest : Nat → Int32} {a_steep : Nat → Int32} {a_laid : Nat → Int32} {a_far : Nat → Int32} {f_sight : Int32} {a_runs : Nat → Int32} {f_choir : Int32} {f_voices : Int32} {a_rest : Nat → Int64} {a_wins : Nat → Int32} {f_seed : Int32} {a_other : Nat → Int32} {a_kept : Nat → Int32} {P4 : Int32 → Int32 → Prop} {post : Int32 → Prop} {x1 : Int32} {x2 : Int32} {ls : Array Slot}
    (zc : zC p s m args meth c cX11_nextDown 3 RX11 (some .int))
    (hK : zK E s)
    (hM : mW E q f_code a_tape a_size a_fault a_faultPlace a_many a_lands a_evenings a_sights a_choirs f_reached f_length f_begins f_sort f_value f_word f_wrongAt f_laterFault f_laterPlace a_told a_read f_farHut f_farSinger f_good f_land f_huts f_singers f_evening a_at a_knows a_climbed a_snow a_level f_begun f_minute f_avalanches a_run a_covers a_routes a_longest a_steep a_laid a_far f_sight a_runs f_choir f_voices a_rest a_wins f_seed a_other a_kept s.heap)
    (hP4 : ∀ (x1 : Int32) (x2 : Int32) (ls : Array Slot), P4 x1 x2 → lv_has ls 3 [(0, .ref q), (1, .int x1), (2, .int x2)] → W p l e rm_m_nextDown s m args below meth c s.heap [] 0 0 (MQ below (vp_Si post) args s 0 0 (fun _ => False)) (F0 m 4 ls []))
    (hl : lv_has ls 3 [(0, .ref q), (1, .int x1), (2, .int x2)])
    (hw : q_m_nextDown_43 P4 a_lands f_land f_huts a_laid x1 x2 post) :
    W p l e rm_m_nextDown s m args below meth c s.heap [] 0 0 (MQ below (vp_Si post) args s 0 0 (fun _ => False)) (F0 m 43 ls []) := by
  have hx := zc.1
  have hb := zc.2.1
  refine lv_iload_n hx hb dX11_nextDown_43 rfl (lv_at hl 1 rfl) ?_
  exact t_m_nextDown_44 zc hK hM hP4 (lv_sub hl [0, 2] rfl) hw
set_option maxRecDepth 20000 in
theorem t_m_nextDown_4 {p : Program} {l : Launch} {e : Env} {s : State} {m : MethodId} {args : Array Value} {below : List Frame} {meth : Method} {c : Code} {E : zE} {q : Nat} {f_code : Int32} {a_tape : Nat → Int32} {a_size : Nat → Int32} {a_fault : Nat → Int32} {a_faultPlace : Nat → Int32} {a_many : Nat → Int32} {a_lands : Nat → Int32} {a_evenings : Nat → Int32} {a_sights : Nat → Int32} {a_choirs : Nat → Int32} {f_reached : Int32} {f_length : Int32} {f_begins : Int32} {f_sort : Int32} {f_value : Int32} {f_word : Int64} {f_wrongAt : Int32} {f_laterFault : Int32} {f_laterPlace : Int32} {a_told : Nat → Int32} {a_read : Nat → Int32} {f_farHut : Int32} {f_farSinger : Int32} {f_good : Int32} {f_land : Int32} {f_huts : Int32} {f_singers : Int32} {f_evening : Int32} {a_at : Nat → Int32} {a_knows : Nat → Int32} {a_climbed : Nat → Int32} {a_snow : Nat → Int32} {a_level : Nat → Int32} {f_begun : Int32} {f_minute : Int32} {f_avalanches : Int32} {a_run : Nat → Int32} {a_covers : Nat → Int32} {a_routes : Nat → Int32} {a_longest : Nat → Int32} {a_steep : Nat → Int32} {a_laid : Nat → Int32} {a_far : Nat → Int32} {f_sight : Int32} {a_runs : Nat → Int32} {f_choir : Int32} {f_voices : Int32} {a_rest : Nat → Int64} {a_wins : Nat → Int32} {f_seed : Int32} {a_other : Nat → Int32} {a_kept : Nat → Int32} {post : Int32 → Prop} {x1 : Int32} {x2 : Int32} {ls : Array Slot}
    (zc : zC p s m args meth c cX11_nextDown 3 RX11 (some .int))
    (hK : zK E s)
    (hM : mW E q f_code a_tape a_size a_fault a_faultPlace a_many a_lands a_evenings a_sights a_choirs f_reached f_length f_begins f_sort f_value f_word f_wrongAt f_laterFault f_laterPlace a_told a_read f_farHut f_farSinger f_good f_land f_huts f_singers f_evening a_at a_knows a_climbed a_snow a_level f_begun f_minute f_avalanches a_run a_covers a_routes a_longest a_steep a_laid a_far f_sight a_runs f_choir f_voices a_rest a_wins f_seed a_other a_kept s.heap)
    (hl : lv_has ls 3 [(0, .ref q), (1, .int x1), (2, .int x2)])
    (hw : q_m_nextDown_4 a_lands f_land f_huts a_laid x1 x2 post) :
    W p l e rm_m_nextDown s m args below meth c s.heap [] 0 0 (MQ below (vp_Si post) args s 0 0 (fun _ => False)) (F0 m 4 ls []) := by
  have hx := zc.1
  have hb := zc.2.1
  refine hw (fun x1 x2 => ∀ (ls : Array Slot), lv_has ls 3 [(0, .ref q), (1, .int x1), (2, .int x2)] → W p l e rm_m_nextDown s m args below meth c s.heap [] 0 0 (MQ below (vp_Si post) args s 0 0 (fun _ => False)) (F0 m 4 ls [])) ?_ _ hl
  intro x1 x2 hw ls hl
  refine lv_iload_n hx hb dX11_nextDown_4 rfl (lv_at hl 2 rfl) ?_
  refine lv_aload_n hx hb dX11_nextDown_5 rfl (lv_at hl 0 rfl) ?_
  refine mg_11_307_0 zc hK hM dX11_nextDown_6 ?_
  refine lv_icmp_ge (tgt := 51) hx hb dX11_nextDown_9 (by decide) (fun hc => ?_) (fun hc => ?_)
  · have hw := hw.1 hc
    refine lv_iload_n hx hb dX11_nextDown_51 rfl (lv_at hl 1 rfl) ?_
    exact zret_i zc hw dX11_nextDown_52
  · have hw := hw.2 hc
    refine lv_aload_n hx hb dX11_nextDown_12 rfl (lv_at hl 0 rfl) ?_
    refine mg_11_74_0 zc hK hM dX11_nextDown_13 ?_
    refine lv_iload_n hx hb dX11_nextDown_16 rfl (lv_at hl 2 rfl) ?_
    refine mld_22 zc hK hM hw.1 dX11_nextDown_17 ?_
    have hw := hw.2
    refine lv_if_ne (tgt := 43) hx hb dX11_nextDown_18 (by decide) (fun hc => ?_) (fun hc => ?_)
    · have hw := hw.1 hc
      exact t_m_nextDown_43 zc hK hM (fun _ _ ls h hl => h ls hl) (lv_sub hl [0, 1, 2] rfl) hw
    · have hw := hw.2 hc
      refine lv_iload_n hx hb dX11_nextDown_21 rfl (lv_at hl 1 rfl) ?_
      refine lv_iconst (v := (-1 : Int32)) hx hb dX11_nextDown_22 (by decide) ?_
      refine lv_icmp_eq (tgt := 39) hx hb dX11_nextDown_23 (by decide) (fun hc => ?_) (fun hc => ?_)
      · have hw := hw.1 hc
        exact t_m_nextDown_39 zc hK hM (fun _ _ ls h hl => h ls hl) (lv_sub hl [0, 2] rfl) hw
      · have hw := hw.2 hc
        refine lv_aload_n hx hb dX11_nextDown_26 rfl (lv_at hl 0 rfl) ?_
        refine lv_iload_n hx hb dX11_nextDown_27 rfl (lv_at hl 2 rfl) ?_
        refine zV_i [.int x2] [] zc ky_X11_height kz_X11_height km_11_322 (c_m_height l hw) (mPreV0 hK hM) rfl rfl hl.1 (Nat.le_of_ble_eq_true rfl) ⟨rfl, rfl⟩ ⟨Nat.le_of_ble_eq_true rfl, Nat.le_of_ble_eq_true rfl⟩ ⟨(Nat.zero_le _), (Nat.zero_le _)⟩ dX11_nextDown_28 (fun r_1 hw => ?_)
        refine lv_aload_n hx hb dX11_nextDown_31 rfl (lv_at hl 0 rfl) ?_
        refine lv_iload_n hx hb dX11_nextDown_32 rfl (lv_at hl 1 rfl) ?_
        refine zV_i [.int x1] [.int r_1] zc ky_X11_height kz_X11_height km_11_322 (c_m_height l hw) (mPreV0 hK hM) rfl rfl hl.1 (Nat.le_of_ble_eq_true rfl) ⟨rfl, rfl⟩ ⟨Nat.le_of_ble_eq_true rfl, Nat.le_of_ble_eq_true rfl⟩ ⟨(Nat.zero_le _), (Nat.zero_le _)⟩ dX11_nextDown_33 (fun r_2 hw => ?_)
        refine lv_icmp_le (tgt := 43) hx hb dX11_nextDown_36 (by decide) (fun hc => ?_) (fun hc => ?_)
        · have hw := hw.1 hc
          exact t_m_nextDown_43 zc hK hM (fun _ _ ls h hl => h ls hl) (lv_sub hl [0, 1, 2] rfl) hw
        · have hw := hw.2 hc
          exact t_m_nextDown_39 zc hK hM (fun _ _ ls h hl => h ls hl) (lv_sub hl [0, 2] rfl) hw
set_option maxRecDepth 20000 in
theorem t_m_nextDown_0 {p : Program} {l : Launch} {e : Env} {s : State} {m : MethodId} {args : Array Value} {below : List Frame} {meth : Method} {c : Code} {E : zE} {q : Nat} {f_code : Int32} {a_tape : Nat → Int32} {a_size : Nat → Int32} {a_fault : Nat → Int32} {a_faultPlace : Nat → Int32} {a_many : Nat → Int32} {a_lands : Nat → Int32} {a_evenings : Nat → Int32} {a_sights : Nat → Int32} {a_choirs : Nat → Int32} {f_reached : Int32} {f_length : Int32} {f_begins : Int32} {f_sort : Int32} {f_value : Int32} {f_word : Int64} {f_wrongAt : Int32} {f_laterFault : Int32} {f_laterPlace : Int32} {a_told : Nat → Int32} {a_read : Nat → Int32} {f_farHut : Int32} {f_farSinger : Int32} {f_good : Int32} {f_land : Int32} {f_huts : Int32} {f_singers : Int32} {f_evening : Int32} {a_at : Nat → Int32} {a_knows : Nat → Int32} {a_climbed : Nat → Int32} {a_snow : Nat → Int32} {a_level : Nat → Int32} {f_begun : Int32} {f_minute : Int32} {f_avalanches : Int32} {a_run : Nat → Int32} {a_covers : Nat → Int32} {a_routes : Nat → Int32} {a_longest : Nat → Int32} {a_steep : Nat → Int32} {a_laid : Nat → Int32} {a_far : Nat → Int32} {f_sight : Int32} {a_runs : Nat → Int32} {f_choir : Int32} {f_voices : Int32} {a_rest : Nat → Int64} {a_wins : Nat → Int32} {f_seed : Int32} {a_other : Nat → Int32} {a_kept : Nat → Int32} {post : Int32 → Prop} {ls : Array Slot}
    (zc : zC p s m args meth c cX11_nextDown 3 RX11 (some .int))
    (hK : zK E s)
    (hM : mW E q f_code a_tape a_size a_fault a_faultPlace a_many a_lands a_evenings a_sights a_choirs f_reached f_length f_begins f_sort f_value f_word f_wrongAt f_laterFault f_laterPlace a_told a_read f_farHut f_farSinger f_good f_land f_huts f_singers f_evening a_at a_knows a_climbed a_snow a_level f_begun f_minute f_avalanches a_run a_covers a_routes a_longest a_steep a_laid a_far f_sight a_runs f_choir f_voices a_rest a_wins f_seed a_other a_kept s.heap)
    (hl : lv_has ls 3 [(0, .ref q)])
    (hw : q_m_nextDown_0 a_lands f_land f_huts a_laid post) :
    W p l e rm_m_nextDown s m args below meth c s.heap [] 0 0 (MQ below (vp_Si post) args s 0 0 (fun _ => False)) (F0 m 0 ls []) := by
  have hx := zc.1
  have hb := zc.2.1
  refine lv_iconst (v := (-1 : Int32)) hx hb dX11_nextDown_0 (by decide) ?_
  refine lv_istore_n (lv' := [(1, .int (-1 : Int32)), (0, .ref q)]) hx hb dX11_nextDown_1 rfl hl (by decide) rfl (fun ls hl => ?_)
  refine lv_iconst (v := (0 : Int32)) hx hb dX11_nextDown_2 (by decide) ?_
  refine lv_istore_n (lv' := [(2, .int (0 : Int32)), (1, .int (-1 : Int32)), (0, .ref q)]) hx hb dX11_nextDown_3 rfl hl (by decide) rfl (fun ls hl => ?_)
  exact t_m_nextDown_4 zc hK hM  (lv_sub hl [2, 1, 0] rfl) hw
set_option maxRecDepth 20000 in
theorem c_m_nextDown (l : Launch) {E : zE} {q : Nat} {f_code : Int32} {a_tape : Nat → Int32} {a_size : Nat → Int32} {a_fault : Nat → Int32} {a_faultPlace : Nat → Int32} {a_many : Nat → Int32} {a_lands : Nat → Int32} {a_evenings : Nat → Int32} {a_sights : Nat → Int32} {a_choirs : Nat → Int32} {f_reached : Int32} {f_length : Int32} {f_begins : Int32} {f_sort : Int32} {f_value : Int32} {f_word : Int64} {f_wrongAt : Int32} {f_laterFault : Int32} {f_laterPlace : Int32} {a_told : Nat → Int32} {a_read : Nat → Int32} {f_farHut : Int32} {f_farSinger : Int32} {f_good : Int32} {f_land : Int32} {f_huts : Int32} {f_singers : Int32} {f_evening : Int32} {a_at : Nat → Int32} {a_knows : Nat → Int32} {a_climbed : Nat → Int32} {a_snow : Nat → Int32} {a_level : Nat → Int32} {f_begun : Int32} {f_minute : Int32} {f_avalanches : Int32} {a_run : Nat → Int32} {a_covers : Nat → Int32} {a_routes : Nat → Int32} {a_longest : Nat → Int32} {a_steep : Nat → Int32} {a_laid : Nat → Int32} {a_far : Nat → Int32} {f_sight : Int32} {a_runs : Nat → Int32} {f_choir : Int32} {f_voices : Int32} {a_rest : Nat → Int64} {a_wins : Nat → Int32} {f_seed : Int32} {a_other : Nat → Int32} {a_kept : Nat → Int32} {post : Int32 → Prop} (hw : q_m_nextDown_0 a_lands f_land f_huts a_laid post) : Met l yX11_nextDown (Cond.code yX11_nextDown cX11_nextDown 3 (some .int) :: zb) rm_m_nextDown (va_Pc [.ref q] (fun U => mW E q f_code a_tape a_size a_fault a_faultPlace a_many a_lands a_evenings a_sights a_choirs f_reached f_length f_begins f_sort f_value f_word f_wrongAt f_laterFault f_laterPlace a_told a_read f_farHut f_farSinger f_good f_land f_huts f_singers f_evening a_at a_knows a_climbed a_snow a_level f_begun f_minute f_avalanches a_run a_covers a_routes a_longest a_steep a_laid a_far f_sight a_runs f_choir f_voices a_rest a_wins f_seed a_other a_kept U.heap ∧ zK E U)) (vp_Si post) 0 0 (fun _ => False) := by
  refine Met.ofW (cc := cX11_nextDown) (maxL := 3) (ret := (some .int)) (by decide) rfl ?_
  intro p e s m args below meth c s₁ B hml hv
  obtain ⟨rfl, hM, hK⟩ := hv
  have zc := zc_of B hml
  have hl := lv_entry ([.ref q]) (n := 3) (Nat.le_of_ble_eq_true rfl)
  rw [lg_entry_eq]
  generalize (lg_sl ([.ref q]) ++ List.replicate (3 - (lg_sl ([.ref q])).length) Slot.unset).toArray = ls at hl ⊢
  have hl : lv_has ls 3 [(0, .ref q)] := hl
  exact t_m_nextDown_0 zc hK hM (lv_sub hl [0] rfl) hw
-- m_goesDown
abbrev rm_m_goesDown : Room := { frames := 2, cells := 0, slots := 0, locals := 43 }
def q_m_goesDown_132 (a_lands : Nat → Int32) (f_land : Int32) (a_routes : Nat → Int32) (a_longest : Nat → Int32) (a_steep : Nat → Int32) (x1 : Int32) (x2 : Int32) (y0 : Int32) (y1 : Int32) (post : (Nat → Int32) → (Nat → Int32) → (Nat → Int32) → Prop) : Prop :=
  vp_in y0 9 ∧ (∀ a_longest_1 : Nat → Int32, a_longest_1 = upd a_longest (Int32.toNatClampNeg y0) y1 → (vp_in x2 9 ∧ (vp_in x1 9 ∧ (∀ v_1 : Int32, v_1 = ((a_routes (Int32.toNatClampNeg x2)) + (a_routes (Int32.toNatClampNeg x1))) → (vp_in x2 9 ∧ (∀ a_routes_1 : Nat → Int32, a_routes_1 = upd a_routes (Int32.toNatClampNeg x2) v_1 → (post a_routes_1 a_longest_1 a_steep)))))))
def q_m_goesDown_89 (a_lands : Nat → Int32) (f_land : Int32) (a_routes : Nat → Int32) (a_longest : Nat → Int32) (a_steep : Nat → Int32) (x1 : Int32) (x2 : Int32) (y0 : Int32) (y1 : Int32) (post : (Nat → Int32) → (Nat → Int32) → (Nat → Int32) → Prop) : Prop :=
  vp_in y0 9 ∧ (∀ a_steep_1 : Nat → Int32, a_steep_1 = upd a_steep (Int32.toNatClampNeg y0) y1 → (vp_in x2 9 ∧ ((¬ (a_routes (Int32.toNatClampNeg x2)) = 0 → (vp_in x2 9 ∧ (vp_in x1 9 ∧ (q_m_greater_0 (a_longest (Int32.toNatClampNeg x2)) ((a_longest (Int32.toNatClampNeg x1)) + (1 : Int32)) (fun r_1 => q_m_goesDown_132 a_lands f_land a_routes a_longest a_steep_1 x1 x2 x2 r_1 post))))) ∧ ((a_routes (Int32.toNatClampNeg x2)) = 0 → (vp_in x1 9 ∧ (q_m_goesDown_132 a_lands f_land a_routes a_longest a_steep_1 x1 x2 x2 ((a_longest (Int32.toNatClampNeg x1)) + (1 : Int32)) post))))))
def q_m_goesDown_0 (a_lands : Nat → Int32) (f_land : Int32) (a_routes : Nat → Int32) (a_longest : Nat → Int32) (a_steep : Nat → Int32) (x1 : Int32) (x2 : Int32) (post : (Nat → Int32) → (Nat → Int32) → (Nat → Int32) → Prop) : Prop :=
  q_m_way_0 a_lands f_land x1 x2 (fun r_1 => (r_1 = 0 → (post a_routes a_longest a_steep)) ∧ (¬ r_1 = 0 → (q_m_height_0 a_lands f_land x2 (fun r_2 => q_m_height_0 a_lands f_land x1 (fun r_3 => (r_3 ≤ r_2 → (post a_routes a_longest a_steep)) ∧ (¬ r_3 ≤ r_2 → (q_m_isDam_0 a_lands f_land x2 (fun r_4 => (¬ r_4 = 0 → (post a_routes a_longest a_steep)) ∧ (r_4 = 0 → (vp_in x1 9 ∧ ((¬ (a_routes (Int32.toNatClampNeg x1)) = 0 → (vp_in x1 9 ∧ (q_m_height_0 a_lands f_land x1 (fun r_5 => q_m_height_0 a_lands f_land x2 (fun r_6 => q_m_greater_0 (a_steep (Int32.toNatClampNeg x1)) (r_5 - r_6) (fun r_7 => vp_in x2 9 ∧ ((¬ (a_routes (Int32.toNatClampNeg x2)) = 0 → (vp_in x2 9 ∧ (q_m_lesser_0 (a_steep (Int32.toNatClampNeg x2)) r_7 (fun r_8 => q_m_goesDown_89 a_lands f_land a_routes a_longest a_steep x1 x2 x2 r_8 post)))) ∧ ((a_routes (Int32.toNatClampNeg x2)) = 0 → (q_m_goesDown_89 a_lands f_land a_routes a_longest a_steep x1 x2 x2 r_7 post))))))))) ∧ ((a_routes (Int32.toNatClampNeg x1)) = 0 → (post a_routes a_longest a_steep)))))))))))))
set_option maxRecDepth 20000 in
theorem t_m_goesDown_132 {p : Program} {l : Launch} {e : Env} {s : State} {m : MethodId} {args : Array Value} {below : List Frame} {meth : Method} {c : Code} {E : zE} {q : Nat} {f_code : Int32} {a_tape : Nat → Int32} {a_size : Nat → Int32} {a_fault : Nat → Int32} {a_faultPlace : Nat → Int32} {a_many : Nat → Int32} {a_lands : Nat → Int32} {a_evenings : Nat → Int32} {a_sights : Nat → Int32} {a_choirs : Nat → Int32} {f_reached : Int32} {f_length : Int32} {f_begins : Int32} {f_sort : Int32} {f_value : Int32} {f_word : Int64} {f_wrongAt : Int32} {f_laterFault : Int32} {f_laterPlace : Int32} {a_told : Nat → Int32} {a_read : Nat → Int32} {f_farHut : Int32} {f_farSinger : Int32} {f_good : Int32} {f_land : Int32} {f_huts : Int32} {f_singers : Int32} {f_evening : Int32} {a_at : Nat → Int32} {a_knows : Nat → Int32} {a_climbed : Nat → Int32} {a_snow : Nat → Int32} {a_level : Nat → Int32} {f_begun : Int32} {f_minute : Int32} {f_avalanches : Int32} {a_run : Nat → Int32} {a_covers : Nat → Int32} {a_routes : Nat → Int32} {a_longest : Nat → Int32} {a_steep : Nat → Int32} {a_laid : Nat → Int32} {a_far : Nat → Int32} {f_sight : Int32} {a_runs : Nat → Int32} {f_choir : Int32} {f_voices : Int32} {a_rest : Nat → Int64} {a_wins : Nat → Int32} {f_seed : Int32} {a_other : Nat → Int32} {a_kept : Nat → Int32} {post : (Nat → Int32) → (Nat → Int32) → (Nat → Int32) → Prop} {x1 : Int32} {x2 : Int32} {y0 : Int32} {y1 : Int32} {ls : Array Slot} {H : Heap} {locs : List Loc}
    (zc : zC p s m args meth c cX11_goesDown 4 RX11 none)
    (hK : zK E s)
    (hM : mW E q f_code a_tape a_size a_fault a_faultPlace a_many a_lands a_evenings a_sights a_choirs f_reached f_length f_begins f_sort f_value f_word f_wrongAt f_laterFault f_laterPlace a_told a_read f_farHut f_farSinger f_good f_land f_huts f_singers f_evening a_at a_knows a_climbed a_snow a_level f_begun f_minute f_avalanches a_run a_covers a_routes a_longest a_steep a_laid a_far f_sight a_runs f_choir f_voices a_rest a_wins f_seed a_other a_kept H)
    (hS : va_S (mA q) s.heap H locs)
    (hl : lv_has ls 4 [(0, .ref q), (1, .int x1), (2, .int x2)])
    (hw : q_m_goesDown_132 a_lands f_land a_routes a_longest a_steep x1 x2 y0 y1 post) :
    W p l e rm_m_goesDown s m args below meth c H locs 0 0 (MQ below (zQv (S := (Nat → Int32) × (Nat → Int32) × (Nat → Int32)) (fun u => post u.1 u.2.1 u.2.2) (fun u H => mW E q f_code a_tape a_size a_fault a_faultPlace a_many a_lands a_evenings a_sights a_choirs f_reached f_length f_begins f_sort f_value f_word f_wrongAt f_laterFault f_laterPlace a_told a_read f_farHut f_farSinger f_good f_land f_huts f_singers f_evening a_at a_knows a_climbed a_snow a_level f_begun f_minute f_avalanches a_run a_covers u.1 u.2.1 u.2.2 a_laid a_far f_sight a_runs f_choir f_voices a_rest a_wins f_seed a_other a_kept H) (mA q)) args s 0 0 (mA q)) (F0 m 132 ls [.int y1, .int y0, .ref (q + 20)]) := by
  have hx := zc.1
  have hb := zc.2.1
  refine mst_20 zc hK hM hS hw.1 dX11_goesDown_132 (fun a_longest_1 H locs ea_longest_1 hM hS => ?_)
  have hw := hw.2 a_longest_1 ea_longest_1
  refine lv_aload_n hx hb dX11_goesDown_133 rfl (lv_at hl 0 rfl) ?_
  refine mg_11_65_0 zc hK hM dX11_goesDown_134 ?_
  refine lv_iload_n hx hb dX11_goesDown_137 rfl (lv_at hl 2 rfl) ?_
  refine lv_dup2_11 hx hb dX11_goesDown_138 rfl rfl ?_
  refine mld_19 zc hK hM hw.1 dX11_goesDown_139 ?_
  have hw := hw.2
  refine lv_aload_n hx hb dX11_goesDown_140 rfl (lv_at hl 0 rfl) ?_
  refine mg_11_65_0 zc hK hM dX11_goesDown_141 ?_
  refine lv_iload_n hx hb dX11_goesDown_144 rfl (lv_at hl 1 rfl) ?_
  refine mld_19 zc hK hM hw.1 dX11_goesDown_145 ?_
  have hw := hw.2
  refine lv_iadd hx hb dX11_goesDown_146 ?_
  refine lv_topi (fun v_1 ev_1 => ?_)
  have hw := hw v_1 ev_1
  refine mst_19 zc hK hM hS hw.1 dX11_goesDown_147 (fun a_routes_1 H locs ea_routes_1 hM hS => ?_)
  have hw := hw.2 a_routes_1 ea_routes_1
  exact zret_vw ⟨a_routes_1, a_longest_1, a_steep⟩ zc hS hw hM dX11_goesDown_148
set_option maxRecDepth 20000 in
theorem t_m_goesDown_89 {p : Program} {l : Launch} {e : Env} {s : State} {m : MethodId} {args : Array Value} {below : List Frame} {meth : Method} {c : Code} {E : zE} {q : Nat} {f_code : Int32} {a_tape : Nat → Int32} {a_size : Nat → Int32} {a_fault : Nat → Int32} {a_faultPlace : Nat → Int32} {a_many : Nat → Int32} {a_lands : Nat → Int32} {a_evenings : Nat → Int32} {a_sights : Nat → Int32} {a_choirs : Nat → Int32} {f_reached : Int32} {f_length : Int32} {f_begins : Int32} {f_sort : Int32} {f_value : Int32} {f_word : Int64} {f_wrongAt : Int32} {f_laterFault : Int32} {f_laterPlace : Int32} {a_told : Nat → Int32} {a_read : Nat → Int32} {f_farHut : Int32} {f_farSinger : Int32} {f_good : Int32} {f_land : Int32} {f_huts : Int32} {f_singers : Int32} {f_evening : Int32} {a_at : Nat → Int32} {a_knows : Nat → Int32} {a_climbed : Nat → Int32} {a_snow : Nat → Int32} {a_level : Nat → Int32} {f_begun : Int32} {f_minute : Int32} {f_avalanches : Int32} {a_run : Nat → Int32} {a_covers : Nat → Int32} {a_routes : Nat → Int32} {a_longest : Nat → Int32} {a_steep : Nat → Int32} {a_laid : Nat → Int32} {a_far : Nat → Int32} {f_sight : Int32} {a_runs : Nat → Int32} {f_choir : Int32} {f_voices : Int32} {a_rest : Nat → Int64} {a_wins : Nat → Int32} {f_seed : Int32} {a_other : Nat → Int32} {a_kept : Nat → Int32} {post : (Nat → Int32) → (Nat → Int32) → (Nat → Int32) → Prop} {x1 : Int32} {x2 : Int32} {y0 : Int32} {y1 : Int32} {ls : Array Slot} {H : Heap} {locs : List Loc}
    (zc : zC p s m args meth c cX11_goesDown 4 RX11 none)
    (hK : zK E s)
    (hM : mW E q f_code a_tape a_size a_fault a_faultPlace a_many a_lands a_evenings a_sights a_choirs f_reached f_length f_begins f_sort f_value f_word f_wrongAt f_laterFault f_laterPlace a_told a_read f_farHut f_farSinger f_good f_land f_huts f_singers f_evening a_at a_knows a_climbed a_snow a_level f_begun f_minute f_avalanches a_run a_covers a_routes a_longest a_steep a_laid a_far f_sight a_runs f_choir f_voices a_rest a_wins f_seed a_other a_kept H)
    (hS : va_S (mA q) s.heap H locs)
    (hl : lv_has ls 4 [(0, .ref q), (1, .int x1), (2, .int x2)])
    (hw : q_m_goesDown_89 a_lands f_land a_routes a_longest a_steep x1 x2 y0 y1 post) :
    W p l e rm_m_goesDown s m args below meth c H locs 0 0 (MQ below (zQv (S := (Nat → Int32) × (Nat → Int32) × (Nat → Int32)) (fun u => post u.1 u.2.1 u.2.2) (fun u H => mW E q f_code a_tape a_size a_fault a_faultPlace a_many a_lands a_evenings a_sights a_choirs f_reached f_length f_begins f_sort f_value f_word f_wrongAt f_laterFault f_laterPlace a_told a_read f_farHut f_farSinger f_good f_land f_huts f_singers f_evening a_at a_knows a_climbed a_snow a_level f_begun f_minute f_avalanches a_run a_covers u.1 u.2.1 u.2.2 a_laid a_far f_sight a_runs f_choir f_voices a_rest a_wins f_seed a_other a_kept H) (mA q)) args s 0 0 (mA q)) (F0 m 89 ls [.int y1, .int y0, .ref (q + 21)]) := by
  have hx := zc.1
  have hb := zc.2.1
  refine mst_21 zc hK hM hS hw.1 dX11_goesDown_89 (fun a_steep_1 H locs ea_steep_1 hM hS => ?_)
  have hw := hw.2 a_steep_1 ea_steep_1
  refine lv_aload_n hx hb dX11_goesDown_90 rfl (lv_at hl 0 rfl) ?_
  refine mg_11_68_0 zc hK hM dX11_goesDown_91 ?_
  refine lv_iload_n hx hb dX11_goesDown_94 rfl (lv_at hl 2 rfl) ?_
  refine lv_aload_n hx hb dX11_goesDown_95 rfl (lv_at hl 0 rfl) ?_
  refine mg_11_65_0 zc hK hM dX11_goesDown_96 ?_
  refine lv_iload_n hx hb dX11_goesDown_99 rfl (lv_at hl 2 rfl) ?_
  refine mld_19 zc hK hM hw.1 dX11_goesDown_100 ?_
  have hw := hw.2
  refine lv_if_ne (tgt := 115) hx hb dX11_goesDown_101 (by decide) (fun hc => ?_) (fun hc => ?_)
  · have hw := hw.1 hc
    refine lv_aload_n hx hb dX11_goesDown_115 rfl (lv_at hl 0 rfl) ?_
    refine mg_11_68_0 zc hK hM dX11_goesDown_116 ?_
    refine lv_iload_n hx hb dX11_goesDown_119 rfl (lv_at hl 2 rfl) ?_
    refine mld_20 zc hK hM hw.1 dX11_goesDown_120 ?_
    have hw := hw.2
    refine lv_aload_n hx hb dX11_goesDown_121 rfl (lv_at hl 0 rfl) ?_
    refine mg_11_68_0 zc hK hM dX11_goesDown_122 ?_
    refine lv_iload_n hx hb dX11_goesDown_125 rfl (lv_at hl 1 rfl) ?_
    refine mld_20 zc hK hM hw.1 dX11_goesDown_126 ?_
    have hw := hw.2
    refine lv_iconst (v := (1 : Int32)) hx hb dX11_goesDown_127 (by decide) ?_
    refine lv_iadd hx hb dX11_goesDown_128 ?_
    refine zS_i [.int (a_longest (Int32.toNatClampNeg x2)), .int ((a_longest (Int32.toNatClampNeg x1)) + (1 : Int32))] [.int x2, .ref (q + 20)] zc ky_X11_greater kz_X11_greater km_11_171 (c_m_greater l hw) (zPre0 _) rfl rfl hl.1 (Nat.le_of_ble_eq_true rfl) ⟨rfl, rfl⟩ ⟨Nat.le_of_ble_eq_true rfl, Nat.le_of_ble_eq_true rfl⟩ ⟨(Nat.zero_le _), (Nat.zero_le _)⟩ dX11_goesDown_129 (fun r_1 hw => ?_)
    exact t_m_goesDown_132 zc hK hM hS  (lv_sub hl [0, 1, 2] rfl) hw
  · have hw := hw.2 hc
    refine lv_aload_n hx hb dX11_goesDown_104 rfl (lv_at hl 0 rfl) ?_
    refine mg_11_68_0 zc hK hM dX11_goesDown_105 ?_
    refine lv_iload_n hx hb dX11_goesDown_108 rfl (lv_at hl 1 rfl) ?_
    refine mld_20 zc hK hM hw.1 dX11_goesDown_109 ?_
    have hw := hw.2
    refine lv_iconst (v := (1 : Int32)) hx hb dX11_goesDown_110 (by decide) ?_
    refine lv_iadd hx hb dX11_goesDown_111 ?_
    refine lv_goto (tgt := 132) hx hb dX11_goesDown_112 (by decide) ?_
    exact t_m_goesDown_132 zc hK hM hS  (lv_sub hl [0, 1, 2] rfl) hw
set_option maxRecDepth 20000 in
theorem t_m_goesDown_0 {p : Program} {l : Launch} {e : Env} {s : State} {m : MethodId} {args : Array Value} {below : List Frame} {meth : Method} {c : Code} {E : zE} {q : Nat} {f_code : Int32} {a_tape : Nat → Int32} {a_size : Nat → Int32} {a_fault : Nat → Int32} {a_faultPlace : Nat → Int32} {a_many : Nat → Int32} {a_lands : Nat → Int32} {a_evenings : Nat → Int32} {a_sights : Nat → Int32} {a_choirs : Nat → Int32} {f_reached : Int32} {f_length : Int32} {f_begins : Int32} {f_sort : Int32} {f_value : Int32} {f_word : Int64} {f_wrongAt : Int32} {f_laterFault : Int32} {f_laterPlace : Int32} {a_told : Nat → Int32} {a_read : Nat → Int32} {f_farHut : Int32} {f_farSinger : Int32} {f_good : Int32} {f_land : Int32} {f_huts : Int32} {f_singers : Int32} {f_evening : Int32} {a_at : Nat → Int32} {a_knows : Nat → Int32} {a_climbed : Nat → Int32} {a_snow : Nat → Int32} {a_level : Nat → Int32} {f_begun : Int32} {f_minute : Int32} {f_avalanches : Int32} {a_run : Nat → Int32} {a_covers : Nat → Int32} {a_routes : Nat → Int32} {a_longest : Nat → Int32} {a_steep : Nat → Int32} {a_laid : Nat → Int32} {a_far : Nat → Int32} {f_sight : Int32} {a_runs : Nat → Int32} {f_choir : Int32} {f_voices : Int32} {a_rest : Nat → Int64} {a_wins : Nat → Int32} {f_seed : Int32} {a_other : Nat → Int32} {a_kept : Nat → Int32} {post : (Nat → Int32) → (Nat → Int32) → (Nat → Int32) → Prop} {x1 : Int32} {x2 : Int32} {ls : Array Slot} {H : Heap} {locs : List Loc}
    (zc : zC p s m args meth c cX11_goesDown 4 RX11 none)
    (hK : zK E s)
    (hM : mW E q f_code a_tape a_size a_fault a_faultPlace a_many a_lands a_evenings a_sights a_choirs f_reached f_length f_begins f_sort f_value f_word f_wrongAt f_laterFault f_laterPlace a_told a_read f_farHut f_farSinger f_good f_land f_huts f_singers f_evening a_at a_knows a_climbed a_snow a_level f_begun f_minute f_avalanches a_run a_covers a_routes a_longest a_steep a_laid a_far f_sight a_runs f_choir f_voices a_rest a_wins f_seed a_other a_kept H)
    (hS : va_S (mA q) s.heap H locs)
    (hl : lv_has ls 4 [(0, .ref q), (1, .int x1), (2, .int x2)])
    (hw : q_m_goesDown_0 a_lands f_land a_routes a_longest a_steep x1 x2 post) :
    W p l e rm_m_goesDown s m args below meth c H locs 0 0 (MQ below (zQv (S := (Nat → Int32) × (Nat → Int32) × (Nat → Int32)) (fun u => post u.1 u.2.1 u.2.2) (fun u H => mW E q f_code a_tape a_size a_fault a_faultPlace a_many a_lands a_evenings a_sights a_choirs f_reached f_length f_begins f_sort f_value f_word f_wrongAt f_laterFault f_laterPlace a_told a_read f_farHut f_farSinger f_good f_land f_huts f_singers f_evening a_at a_knows a_climbed a_snow a_level f_begun f_minute f_avalanches a_run a_covers u.1 u.2.1 u.2.2 a_laid a_far f_sight a_runs f_choir f_voices a_rest a_wins f_seed a_other a_kept H) (mA q)) args s 0 0 (mA q)) (F0 m 0 ls []) := by
  have hx := zc.1
  have hb := zc.2.1
  refine lv_aload_n hx hb dX11_goesDown_0 rfl (lv_at hl 0 rfl) ?_
  refine lv_iload_n hx hb dX11_goesDown_1 rfl (lv_at hl 1 rfl) ?_
  refine lv_iload_n hx hb dX11_goesDown_2 rfl (lv_at hl 2 rfl) ?_
  refine zV_i [.int x1, .int x2] [] zc ky_X11_way kz_X11_way km_11_319 (c_m_way l hw) (mPreV0 hK hM) rfl rfl hl.1 (Nat.le_of_ble_eq_true rfl) ⟨rfl, rfl⟩ ⟨Nat.le_of_ble_eq_true rfl, Nat.le_of_ble_eq_true rfl⟩ ⟨(Nat.zero_le _), (Nat.zero_le _)⟩ dX11_goesDown_3 (fun r_1 hw => ?_)
  refine lv_if_eq (tgt := 39) hx hb dX11_goesDown_6 (by decide) (fun hc => ?_) (fun hc => ?_)
  · have hw := hw.1 hc
    exact zret_vw ⟨a_routes, a_longest, a_steep⟩ zc hS hw hM dX11_goesDown_39
  · have hw := hw.2 hc
    refine lv_aload_n hx hb dX11_goesDown_9 rfl (lv_at hl 0 rfl) ?_
    refine lv_iload_n hx hb dX11_goesDown_10 rfl (lv_at hl 2 rfl) ?_
    refine zV_i [.int x2] [] zc ky_X11_height kz_X11_height km_11_322 (c_m_height l hw) (mPreV0 hK hM) rfl rfl hl.1 (Nat.le_of_ble_eq_true rfl) ⟨rfl, rfl⟩ ⟨Nat.le_of_ble_eq_true rfl, Nat.le_of_ble_eq_true rfl⟩ ⟨(Nat.zero_le _), (Nat.zero_le _)⟩ dX11_goesDown_11 (fun r_2 hw => ?_)
    refine lv_aload_n hx hb dX11_goesDown_14 rfl (lv_at hl 0 rfl) ?_
    refine lv_iload_n hx hb dX11_goesDown_15 rfl (lv_at hl 1 rfl) ?_
    refine zV_i [.int x1] [.int r_2] zc ky_X11_height kz_X11_height km_11_322 (c_m_height l hw) (mPreV0 hK hM) rfl rfl hl.1 (Nat.le_of_ble_eq_true rfl) ⟨rfl, rfl⟩ ⟨Nat.le_of_ble_eq_true rfl, Nat.le_of_ble_eq_true rfl⟩ ⟨(Nat.zero_le _), (Nat.zero_le _)⟩ dX11_goesDown_16 (fun r_3 hw => ?_)
    refine lv_icmp_ge (tgt := 39) hx hb dX11_goesDown_19 (by decide) (fun hc => ?_) (fun hc => ?_)
    · have hw := hw.1 hc
      exact zret_vw ⟨a_routes, a_longest, a_steep⟩ zc hS hw hM dX11_goesDown_39
    · have hw := hw.2 hc
      refine lv_aload_n hx hb dX11_goesDown_22 rfl (lv_at hl 0 rfl) ?_
      refine lv_iload_n hx hb dX11_goesDown_23 rfl (lv_at hl 2 rfl) ?_
      refine zV_i [.int x2] [] zc ky_X11_isDam kz_X11_isDam km_11_355 (c_m_isDam l hw) (mPreV0 hK hM) rfl rfl hl.1 (Nat.le_of_ble_eq_true rfl) ⟨rfl, rfl⟩ ⟨Nat.le_of_ble_eq_true rfl, Nat.le_of_ble_eq_true rfl⟩ ⟨(Nat.zero_le _), (Nat.zero_le _)⟩ dX11_goesDown_24 (fun r_4 hw => ?_)
      refine lv_if_ne (tgt := 39) hx hb dX11_goesDown_27 (by decide) (fun hc => ?_) (fun hc => ?_)
      · have hw := hw.1 hc
        exact zret_vw ⟨a_routes, a_longest, a_steep⟩ zc hS hw hM dX11_goesDown_39
      · have hw := hw.2 hc
        refine lv_aload_n hx hb dX11_goesDown_30 rfl (lv_at hl 0 rfl) ?_
        refine mg_11_65_0 zc hK hM dX11_goesDown_31 ?_
        refine lv_iload_n hx hb dX11_goesDown_34 rfl (lv_at hl 1 rfl) ?_
        refine mld_19 zc hK hM hw.1 dX11_goesDown_35 ?_
        have hw := hw.2
        refine lv_if_ne (tgt := 40) hx hb dX11_goesDown_36 (by decide) (fun hc => ?_) (fun hc => ?_)
        · have hw := hw.1 hc
          refine lv_aload_n hx hb dX11_goesDown_40 rfl (lv_at hl 0 rfl) ?_
          refine mg_11_71_0 zc hK hM dX11_goesDown_41 ?_
          refine lv_iload_n hx hb dX11_goesDown_44 rfl (lv_at hl 1 rfl) ?_
          refine mld_21 zc hK hM hw.1 dX11_goesDown_45 ?_
          have hw := hw.2
          refine lv_aload_n hx hb dX11_goesDown_46 rfl (lv_at hl 0 rfl) ?_
          refine lv_iload_n hx hb dX11_goesDown_47 rfl (lv_at hl 1 rfl) ?_
          refine zV_i [.int x1] [.int (a_steep (Int32.toNatClampNeg x1))] zc ky_X11_height kz_X11_height km_11_322 (c_m_height l hw) (mPreV0 hK hM) rfl rfl hl.1 (Nat.le_of_ble_eq_true rfl) ⟨rfl, rfl⟩ ⟨Nat.le_of_ble_eq_true rfl, Nat.le_of_ble_eq_true rfl⟩ ⟨(Nat.zero_le _), (Nat.zero_le _)⟩ dX11_goesDown_48 (fun r_5 hw => ?_)
          refine lv_aload_n hx hb dX11_goesDown_51 rfl (lv_at hl 0 rfl) ?_
          refine lv_iload_n hx hb dX11_goesDown_52 rfl (lv_at hl 2 rfl) ?_
          refine zV_i [.int x2] [.int r_5, .int (a_steep (Int32.toNatClampNeg x1))] zc ky_X11_height kz_X11_height km_11_322 (c_m_height l hw) (mPreV0 hK hM) rfl rfl hl.1 (Nat.le_of_ble_eq_true rfl) ⟨rfl, rfl⟩ ⟨Nat.le_of_ble_eq_true rfl, Nat.le_of_ble_eq_true rfl⟩ ⟨(Nat.zero_le _), (Nat.zero_le _)⟩ dX11_goesDown_53 (fun r_6 hw => ?_)
          refine lv_isub hx hb dX11_goesDown_56 ?_
          refine zS_i [.int (a_steep (Int32.toNatClampNeg x1)), .int (r_5 - r_6)] [] zc ky_X11_greater kz_X11_greater km_11_171 (c_m_greater l hw) (zPre0 _) rfl rfl hl.1 (Nat.le_of_ble_eq_true rfl) ⟨rfl, rfl⟩ ⟨Nat.le_of_ble_eq_true rfl, Nat.le_of_ble_eq_true rfl⟩ ⟨(Nat.zero_le _), (Nat.zero_le _)⟩ dX11_goesDown_57 (fun r_7 hw => ?_)
          refine lv_istore_n (lv' := [(3, .int r_7), (0, .ref q), (1, .int x1), (2, .int x2)]) hx hb dX11_goesDown_60 rfl hl (by decide) rfl (fun ls hl => ?_)
          refine lv_aload_n hx hb dX11_goesDown_61 rfl (lv_at hl 1 rfl) ?_
          refine mg_11_71_0 zc hK hM dX11_goesDown_62 ?_
          refine lv_iload_n hx hb dX11_goesDown_65 rfl (lv_at hl 3 rfl) ?_
          refine lv_aload_n hx hb dX11_goesDown_66 rfl (lv_at hl 1 rfl) ?_
          refine mg_11_65_0 zc hK hM dX11_goesDown_67 ?_
          refine lv_iload_n hx hb dX11_goesDown_70 rfl (lv_at hl 3 rfl) ?_
          refine mld_19 zc hK hM hw.1 dX11_goesDown_71 ?_
          have hw := hw.2
          refine lv_if_ne (tgt := 79) hx hb dX11_goesDown_72 (by decide) (fun hc => ?_) (fun hc => ?_)
          · have hw := hw.1 hc
            refine lv_aload_n hx hb dX11_goesDown_79 rfl (lv_at hl 1 rfl) ?_
            refine mg_11_71_0 zc hK hM dX11_goesDown_80 ?_
            refine lv_iload_n hx hb dX11_goesDown_83 rfl (lv_at hl 3 rfl) ?_
            refine mld_21 zc hK hM hw.1 dX11_goesDown_84 ?_
            have hw := hw.2
            refine lv_iload_n hx hb dX11_goesDown_85 rfl (lv_at hl 0 rfl) ?_
            refine zS_i [.int (a_steep (Int32.toNatClampNeg x2)), .int r_7] [.int x2, .ref (q + 21)] zc ky_X11_lesser kz_X11_lesser km_11_411 (c_m_lesser l hw) (zPre0 _) rfl rfl hl.1 (Nat.le_of_ble_eq_true rfl) ⟨rfl, rfl⟩ ⟨Nat.le_of_ble_eq_true rfl, Nat.le_of_ble_eq_true rfl⟩ ⟨(Nat.zero_le _), (Nat.zero_le _)⟩ dX11_goesDown_86 (fun r_8 hw => ?_)
            exact t_m_goesDown_89 zc hK hM hS  (lv_sub hl [1, 2, 3] rfl) hw
          · have hw := hw.2 hc
            refine lv_iload_n hx hb dX11_goesDown_75 rfl (lv_at hl 0 rfl) ?_
            refine lv_goto (tgt := 89) hx hb dX11_goesDown_76 (by decide) ?_
            exact t_m_goesDown_89 zc hK hM hS  (lv_sub hl [1, 2, 3] rfl) hw
        · have hw := hw.2 hc
          exact zret_vw ⟨a_routes, a_longest, a_steep⟩ zc hS hw hM dX11_goesDown_39
set_option maxRecDepth 20000 in
theorem c_m_goesDown (l : Launch) {E : zE} {q : Nat} {f_code : Int32} {a_tape : Nat → Int32} {a_size : Nat → Int32} {a_fault : Nat → Int32} {a_faultPlace : Nat → Int32} {a_many : Nat → Int32} {a_lands : Nat → Int32} {a_evenings : Nat → Int32} {a_sights : Nat → Int32} {a_choirs : Nat → Int32} {f_reached : Int32} {f_length : Int32} {f_begins : Int32} {f_sort : Int32} {f_value : Int32} {f_word : Int64} {f_wrongAt : Int32} {f_laterFault : Int32} {f_laterPlace : Int32} {a_told : Nat → Int32} {a_read : Nat → Int32} {f_farHut : Int32} {f_farSinger : Int32} {f_good : Int32} {f_land : Int32} {f_huts : Int32} {f_singers : Int32} {f_evening : Int32} {a_at : Nat → Int32} {a_knows : Nat → Int32} {a_climbed : Nat → Int32} {a_snow : Nat → Int32} {a_level : Nat → Int32} {f_begun : Int32} {f_minute : Int32} {f_avalanches : Int32} {a_run : Nat → Int32} {a_covers : Nat → Int32} {a_routes : Nat → Int32} {a_longest : Nat → Int32} {a_steep : Nat → Int32} {a_laid : Nat → Int32} {a_far : Nat → Int32} {f_sight : Int32} {a_runs : Nat → Int32} {f_choir : Int32} {f_voices : Int32} {a_rest : Nat → Int64} {a_wins : Nat → Int32} {f_seed : Int32} {a_other : Nat → Int32} {a_kept : Nat → Int32} {x1 : Int32} {x2 : Int32} {post : (Nat → Int32) → (Nat → Int32) → (Nat → Int32) → Prop} (hw : q_m_goesDown_0 a_lands f_land a_routes a_longest a_steep x1 x2 post) : Met l yX11_goesDown (Cond.code yX11_goesDown cX11_goesDown 4 none :: zb) rm_m_goesDown (va_Pc [.ref q, .int x1, .int x2] (fun U => mW E q f_code a_tape a_size a_fault a_faultPlace a_many a_lands a_evenings a_sights a_choirs f_reached f_length f_begins f_sort f_value f_word f_wrongAt f_laterFault f_laterPlace a_told a_read f_farHut f_farSinger f_good f_land f_huts f_singers f_evening a_at a_knows a_climbed a_snow a_level f_begun f_minute f_avalanches a_run a_covers a_routes a_longest a_steep a_laid a_far f_sight a_runs f_choir f_voices a_rest a_wins f_seed a_other a_kept U.heap ∧ zK E U)) (zQv (S := (Nat → Int32) × (Nat → Int32) × (Nat → Int32)) (fun u => post u.1 u.2.1 u.2.2) (fun u H => mW E q f_code a_tape a_size a_fault a_faultPlace a_many a_lands a_evenings a_sights a_choirs f_reached f_length f_begins f_sort f_value f_word f_wrongAt f_laterFault f_laterPlace a_told a_read f_farHut f_farSinger f_good f_land f_huts f_singers f_evening a_at a_knows a_climbed a_snow a_level f_begun f_minute f_avalanches a_run a_covers u.1 u.2.1 u.2.2 a_laid a_far f_sight a_runs f_choir f_voices a_rest a_wins f_seed a_other a_kept H) (mA q)) 0 0 (mA q) := by
  refine Met.ofW (cc := cX11_goesDown) (maxL := 4) (ret := none) (by decide) rfl ?_
  intro p e s m args below meth c s₁ B hml hv
  obtain ⟨rfl, hM, hK⟩ := hv
  have zc := zc_of B hml
  have hl := lv_entry ([.ref q, .int x1, .int x2]) (n := 4) (Nat.le_of_ble_eq_true rfl)
  rw [lg_entry_eq]
  generalize (lg_sl ([.ref q, .int x1, .int x2]) ++ List.replicate (4 - (lg_sl ([.ref q, .int x1, .int x2])).length) Slot.unset).toArray = ls at hl ⊢
  have hl : lv_has ls 4 [(0, .ref q), (1, .int x1), (2, .int x2)] := hl
  exact t_m_goesDown_0 zc hK hM va_S.rf (lv_sub hl [0, 1, 2] rfl) hw
end
section
-- m_findRoutes
abbrev rm_m_findRoutes : Room := { frames := 3, cells := 0, slots := 0, locals := 66 }
def q_m_findRoutes_33 (P2 : Int32 → (Nat → Int32) → (Nat → Int32) → (Nat → Int32) → (Nat → Int32) → Prop) (a_lands : Nat → Int32) (f_land : Int32) (f_huts : Int32) (a_routes : Nat → Int32) (a_longest : Nat → Int32) (a_steep : Nat → Int32) (a_laid : Nat → Int32) (x1 : Int32) (x2 : Int32) (y0 : Int32) (y1 : Int32) (post : (Nat → Int32) → (Nat → Int32) → (Nat → Int32) → (Nat → Int32) → Prop) : Prop :=
  vp_in y0 9 ∧ (∀ a_routes_1 : Nat → Int32, a_routes_1 = upd a_routes (Int32.toNatClampNeg y0) y1 → (vp_in x2 9 ∧ (∀ a_longest_1 : Nat → Int32, a_longest_1 = upd a_longest (Int32.toNatClampNeg x2) (0 : Int32) → (vp_in x2 9 ∧ (∀ a_steep_1 : Nat → Int32, a_steep_1 = upd a_steep (Int32.toNatClampNeg x2) (0 : Int32) → (vp_in x2 9 ∧ (∀ a_laid_1 : Nat → Int32, a_laid_1 = upd a_laid (Int32.toNatClampNeg x2) (vp_nar .boolean (0 : Int32)) → (∀ v_1 : Int32, v_1 = x2 + (1 : Int32) → (P2 v_1 a_routes_1 a_longest_1 a_steep_1 a_laid_1)))))))))
def q_m_findRoutes_32 (P2 : Int32 → (Nat → Int32) → (Nat → Int32) → (Nat → Int32) → (Nat → Int32) → Prop) (a_lands : Nat → Int32) (f_land : Int32) (f_huts : Int32) (a_routes : Nat → Int32) (a_longest : Nat → Int32) (a_steep : Nat → Int32) (a_laid : Nat → Int32) (x1 : Int32) (x2 : Int32) (y0 : Int32) (post : (Nat → Int32) → (Nat → Int32) → (Nat → Int32) → (Nat → Int32) → Prop) : Prop :=
  q_m_findRoutes_33 P2 a_lands f_land f_huts a_routes a_longest a_steep a_laid x1 x2 y0 (0 : Int32) post
def q_m_findRoutes_86 (P63 : Int32 → (Nat → Int32) → (Nat → Int32) → (Nat → Int32) → (Nat → Int32) → Prop) (a_lands : Nat → Int32) (f_land : Int32) (f_huts : Int32) (a_routes : Nat → Int32) (a_longest : Nat → Int32) (a_steep : Nat → Int32) (a_laid : Nat → Int32) (x2 : Int32) (x3 : Int32) (x4 : Int32) (post : (Nat → Int32) → (Nat → Int32) → (Nat → Int32) → (Nat → Int32) → Prop) : Prop :=
  ∀ P86 : Int32 → (Nat → Int32) → (Nat → Int32) → (Nat → Int32) → Prop, (∀ (x4 : Int32) (a_routes : Nat → Int32) (a_longest : Nat → Int32) (a_steep : Nat → Int32), ((f_huts ≤ x4 → (∀ v_1 : Int32, v_1 = x2 + (1 : Int32) → (P63 v_1 a_routes a_longest a_steep a_laid))) ∧ (¬ f_huts ≤ x4 → (q_m_goesDown_0 a_lands f_land a_routes a_longest a_steep x3 x4 (fun a_routes_1 a_longest_1 a_steep_1 => ∀ v_2 : Int32, v_2 = x4 + (1 : Int32) → (P86 v_2 a_routes_1 a_longest_1 a_steep_1))))) → P86 x4 a_routes a_longest a_steep) → P86 x4 a_routes a_longest a_steep
def q_m_findRoutes_63 (a_lands : Nat → Int32) (f_land : Int32) (f_huts : Int32) (a_routes : Nat → Int32) (a_longest : Nat → Int32) (a_steep : Nat → Int32) (a_laid : Nat → Int32) (x2 : Int32) (post : (Nat → Int32) → (Nat → Int32) → (Nat → Int32) → (Nat → Int32) → Prop) : Prop :=
  ∀ P63 : Int32 → (Nat → Int32) → (Nat → Int32) → (Nat → Int32) → (Nat → Int32) → Prop, (∀ (x2 : Int32) (a_routes : Nat → Int32) (a_longest : Nat → Int32) (a_steep : Nat → Int32) (a_laid : Nat → Int32), ((f_huts ≤ x2 → (post a_routes a_longest a_steep a_laid)) ∧ (¬ f_huts ≤ x2 → (q_m_nextDown_0 a_lands f_land f_huts a_laid (fun r_1 => vp_in r_1 9 ∧ (∀ a_laid_1 : Nat → Int32, a_laid_1 = upd a_laid (Int32.toNatClampNeg r_1) (vp_nar .boolean (1 : Int32)) → (q_m_findRoutes_86 P63 a_lands f_land f_huts a_routes a_longest a_steep a_laid_1 x2 r_1 (0 : Int32) post)))))) → P63 x2 a_routes a_longest a_steep a_laid) → P63 x2 a_routes a_longest a_steep a_laid
def q_m_findRoutes_2 (a_lands : Nat → Int32) (f_land : Int32) (f_huts : Int32) (a_routes : Nat → Int32) (a_longest : Nat → Int32) (a_steep : Nat → Int32) (a_laid : Nat → Int32) (x1 : Int32) (x2 : Int32) (post : (Nat → Int32) → (Nat → Int32) → (Nat → Int32) → (Nat → Int32) → Prop) : Prop :=
  ∀ P2 : Int32 → (Nat → Int32) → (Nat → Int32) → (Nat → Int32) → (Nat → Int32) → Prop, (∀ (x2 : Int32) (a_routes : Nat → Int32) (a_longest : Nat → Int32) (a_steep : Nat → Int32) (a_laid : Nat → Int32), ((f_huts ≤ x2 → (q_m_findRoutes_63 a_lands f_land f_huts a_routes a_longest a_steep a_laid (0 : Int32) post)) ∧ (¬ f_huts ≤ x2 → ((¬ x2 = x1 → (q_m_findRoutes_32 P2 a_lands f_land f_huts a_routes a_longest a_steep a_laid x1 x2 x2 post)) ∧ (x2 = x1 → (q_m_isDam_0 a_lands f_land x2 (fun r_1 => (¬ r_1 = 0 → (q_m_findRoutes_32 P2 a_lands f_land f_huts a_routes a_longest a_steep a_laid x1 x2 x2 post)) ∧ (r_1 = 0 → (q_m_findRoutes_33 P2 a_lands f_land f_huts a_routes a_longest a_steep a_laid x1 x2 x2 (1 : Int32) post)))))))) → P2 x2 a_routes a_longest a_steep a_laid) → P2 x2 a_routes a_longest a_steep a_laid
def q_m_findRoutes_0 (a_lands : Nat → Int32) (f_land : Int32) (f_huts : Int32) (a_routes : Nat → Int32) (a_longest : Nat → Int32) (a_steep : Nat → Int32) (a_laid : Nat → Int32) (x1 : Int32) (post : (Nat → Int32) → (Nat → Int32) → (Nat → Int32) → (Nat → Int32) → Prop) : Prop :=
  q_m_findRoutes_2 a_lands f_land f_huts a_routes a_longest a_steep a_laid x1 (0 : Int32) post
set_option maxRecDepth 20000 in
theorem t_m_findRoutes_33 {p : Program} {l : Launch} {e : Env} {s : State} {m : MethodId} {args : Array Value} {below : List Frame} {meth : Method} {c : Code} {E : zE} {q : Nat} {f_code : Int32} {a_tape : Nat → Int32} {a_size : Nat → Int32} {a_fault : Nat → Int32} {a_faultPlace : Nat → Int32} {a_many : Nat → Int32} {a_lands : Nat → Int32} {a_evenings : Nat → Int32} {a_sights : Nat → Int32} {a_choirs : Nat → Int32} {f_reached : Int32} {f_length : Int32} {f_begins : Int32} {f_sort : Int32} {f_value : Int32} {f_word : Int64} {f_wrongAt : Int32} {f_laterFault : Int32} {f_laterPlace : Int32} {a_told : Nat → Int32} {a_read : Nat → Int32} {f_farHut : Int32} {f_farSinger : Int32} {f_good : Int32} {f_land : Int32} {f_huts : Int32} {f_singers : Int32} {f_evening : Int32} {a_at : Nat → Int32} {a_knows : Nat → Int32} {a_climbed : Nat → Int32} {a_snow : Nat → Int32} {a_level : Nat → Int32} {f_begun : Int32} {f_minute : Int32} {f_avalanches : Int32} {a_run : Nat → Int32} {a_covers : Nat → Int32} {a_routes : Nat → Int32} {a_longest : Nat → Int32} {a_steep : Nat → Int32} {a_laid : Nat → Int32} {a_far : Nat → Int32} {f_sight : Int32} {a_runs : Nat → Int32} {f_choir : Int32} {f_voices : Int32} {a_rest : Nat → Int64} {a_wins : Nat → Int32} {f_seed : Int32} {a_other : Nat → Int32} {a_kept : Nat → Int32} {P2 : Int32 → (Nat → Int32) → (Nat → Int32) → (Nat → Int32) → (Nat → Int32) → Prop} {post : (Nat → Int32) → (Nat → Int32) → (Nat → Int32) → (Nat → Int32) → Prop} {x1 : Int32} {x2 : Int32} {y0 : Int32} {y1 : Int32} {ls : Array Slot} {H : Heap} {locs : List Loc}
    (zc : zC p s m args meth c cX11_findRoutes 5 RX11 none)
    (hK : zK E s)
    (hM : mW E q f_code a_tape a_size a_fault a_faultPlace a_many a_lands a_evenings a_sights a_choirs f_reached f_length f_begins f_sort f_value f_word f_wrongAt f_laterFault f_laterPlace a_told a_read f_farHut f_farSinger f_good f_land f_huts f_singers f_evening a_at a_knows a_climbed a_snow a_level f_begun f_minute f_avalanches a_run a_covers a_routes a_longest a_steep a_laid a_far f_sight a_runs f_choir f_voices a_rest a_wins f_seed a_other a_kept H)
    (hS : va_S (mA q) s.heap H locs)
    (hP2 : ∀ (x2 : Int32) (a_routes : Nat → Int32) (a_longest : Nat → Int32) (a_steep : Nat → Int32) (a_laid : Nat → Int32) (H : Heap) (locs : List Loc) (ls : Array Slot), P2 x2 a_routes a_longest a_steep a_laid → lv_has ls 5 [(0, .ref q), (1, .int x1), (2, .int x2)] → mW E q f_code a_tape a_size a_fault a_faultPlace a_many a_lands a_evenings a_sights a_choirs f_reached f_length f_begins f_sort f_value f_word f_wrongAt f_laterFault f_laterPlace a_told a_read f_farHut f_farSinger f_good f_land f_huts f_singers f_evening a_at a_knows a_climbed a_snow a_level f_begun f_minute f_avalanches a_run a_covers a_routes a_longest a_steep a_laid a_far f_sight a_runs f_choir f_voices a_rest a_wins f_seed a_other a_kept H → va_S (mA q) s.heap H locs → W p l e rm_m_findRoutes s m args below meth c H locs 0 0 (MQ below (zQv (S := (Nat → Int32) × (Nat → Int32) × (Nat → Int32) × (Nat → Int32)) (fun u => post u.1 u.2.1 u.2.2.1 u.2.2.2) (fun u H => mW E q f_code a_tape a_size a_fault a_faultPlace a_many a_lands a_evenings a_sights a_choirs f_reached f_length f_begins f_sort f_value f_word f_wrongAt f_laterFault f_laterPlace a_told a_read f_farHut f_farSinger f_good f_land f_huts f_singers f_evening a_at a_knows a_climbed a_snow a_level f_begun f_minute f_avalanches a_run a_covers u.1 u.2.1 u.2.2.1 u.2.2.2 a_far f_sight a_runs f_choir f_voices a_rest a_wins f_seed a_other a_kept H) (mA q)) args s 0 0 (mA q)) (F0 m 2 ls []))
    (hl : lv_has ls 5 [(0, .ref q), (1, .int x1), (2, .int x2)])
    (hw : q_m_findRoutes_33 P2 a_lands f_land f_huts a_routes a_longest a_steep a_laid x1 x2 y0 y1 post) :
    W p l e rm_m_findRoutes s m args below meth c H locs 0 0 (MQ below (zQv (S := (Nat → Int32) × (Nat → Int32) × (Nat → Int32) × (Nat → Int32)) (fun u => post u.1 u.2.1 u.2.2.1 u.2.2.2) (fun u H => mW E q f_code a_tape a_size a_fault a_faultPlace a_many a_lands a_evenings a_sights a_choirs f_reached f_length f_begins f_sort f_value f_word f_wrongAt f_laterFault f_laterPlace a_told a_read f_farHut f_farSinger f_good f_land f_huts f_singers f_evening a_at a_knows a_climbed a_snow a_level f_begun f_minute f_avalanches a_run a_covers u.1 u.2.1 u.2.2.1 u.2.2.2 a_far f_sight a_runs f_choir f_voices a_rest a_wins f_seed a_other a_kept H) (mA q)) args s 0 0 (mA q)) (F0 m 33 ls [.int y1, .int y0, .ref (q + 19)]) := by
  have hx := zc.1
  have hb := zc.2.1
  refine mst_19 zc hK hM hS hw.1 dX11_findRoutes_33 (fun a_routes_1 H locs ea_routes_1 hM hS => ?_)
  have hw := hw.2 a_routes_1 ea_routes_1
  refine lv_aload_n hx hb dX11_findRoutes_34 rfl (lv_at hl 0 rfl) ?_
  refine mg_11_68_0 zc hK hM dX11_findRoutes_35 ?_
  refine lv_iload_n hx hb dX11_findRoutes_38 rfl (lv_at hl 2 rfl) ?_
  refine lv_iconst (v := (0 : Int32)) hx hb dX11_findRoutes_39 (by decide) ?_
  refine mst_20 zc hK hM hS hw.1 dX11_findRoutes_40 (fun a_longest_1 H locs ea_longest_1 hM hS => ?_)
  have hw := hw.2 a_longest_1 ea_longest_1
  refine lv_aload_n hx hb dX11_findRoutes_41 rfl (lv_at hl 0 rfl) ?_
  refine mg_11_71_0 zc hK hM dX11_findRoutes_42 ?_
  refine lv_iload_n hx hb dX11_findRoutes_45 rfl (lv_at hl 2 rfl) ?_
  refine lv_iconst (v := (0 : Int32)) hx hb dX11_findRoutes_46 (by decide) ?_
  refine mst_21 zc hK hM hS hw.1 dX11_findRoutes_47 (fun a_steep_1 H locs ea_steep_1 hM hS => ?_)
  have hw := hw.2 a_steep_1 ea_steep_1
  refine lv_aload_n hx hb dX11_findRoutes_48 rfl (lv_at hl 0 rfl) ?_
  refine mg_11_74_0 zc hK hM dX11_findRoutes_49 ?_
  refine lv_iload_n hx hb dX11_findRoutes_52 rfl (lv_at hl 2 rfl) ?_
  refine lv_iconst (v := (0 : Int32)) hx hb dX11_findRoutes_53 (by decide) ?_
  refine mst_22 zc hK hM hS hw.1 dX11_findRoutes_54 (fun a_laid_1 H locs ea_laid_1 hM hS => ?_)
  have hw := hw.2 a_laid_1 ea_laid_1
  obtain ⟨v_1, ev_1⟩ : ∃ y : Int32, y = x2 + (1 : Int32) := ⟨_, rfl⟩
  have hw := hw v_1 ev_1
  refine lv_iinc (v := v_1) (k := 2) (lv' := [(2, .int v_1), (0, .ref q), (1, .int x1)]) hx hb dX11_findRoutes_55 hl rfl (by rw [ev_1]; rfl) (by decide) rfl (fun ls hl => ?_)
  refine lv_goto (tgt := 2) hx hb dX11_findRoutes_58 (by decide) ?_
  exact hP2 _ _ _ _ _ _ _ _ hw (lv_sub hl [1, 2, 0] rfl) hM hS
set_option maxRecDepth 20000 in
theorem t_m_findRoutes_32 {p : Program} {l : Launch} {e : Env} {s : State} {m : MethodId} {args : Array Value} {below : List Frame} {meth : Method} {c : Code} {E : zE} {q : Nat} {f_code : Int32} {a_tape : Nat → Int32} {a_size : Nat → Int32} {a_fault : Nat → Int32} {a_faultPlace : Nat → Int32} {a_many : Nat → Int32} {a_lands : Nat → Int32} {a_evenings : Nat → Int32} {a_sights : Nat → Int32} {a_choirs : Nat → Int32} {f_reached : Int32} {f_length : Int32} {f_begins : Int32} {f_sort : Int32} {f_value : Int32} {f_word : Int64} {f_wrongAt : Int32} {f_laterFault : Int32} {f_laterPlace : Int32} {a_told : Nat → Int32} {a_read : Nat → Int32} {f_farHut : Int32} {f_farSinger : Int32} {f_good : Int32} {f_land : Int32} {f_huts : Int32} {f_singers : Int32} {f_evening : Int32} {a_at : Nat → Int32} {a_knows : Nat → Int32} {a_climbed : Nat → Int32} {a_snow : Nat → Int32} {a_level : Nat → Int32} {f_begun : Int32} {f_minute : Int32} {f_avalanches : Int32} {a_run : Nat → Int32} {a_covers : Nat → Int32} {a_routes : Nat → Int32} {a_longest : Nat → Int32} {a_steep : Nat → Int32} {a_laid : Nat → Int32} {a_far : Nat → Int32} {f_sight : Int32} {a_runs : Nat → Int32} {f_choir : Int32} {f_voices : Int32} {a_rest : Nat → Int64} {a_wins : Nat → Int32} {f_seed : Int32} {a_other : Nat → Int32} {a_kept : Nat → Int32} {P2 : Int32 → (Nat → Int32) → (Nat → Int32) → (Nat → Int32) → (Nat → Int32) → Prop} {post : (Nat → Int32) → (Nat → Int32) → (Nat → Int32) → (Nat → Int32) → Prop} {x1 : Int32} {x2 : Int32} {y0 : Int32} {ls : Array Slot} {H : Heap} {locs : List Loc}
    (zc : zC p s m args meth c cX11_findRoutes 5 RX11 none)
    (hK : zK E s)
    (hM : mW E q f_code a_tape a_size a_fault a_faultPlace a_many a_lands a_evenings a_sights a_choirs f_reached f_length f_begins f_sort f_value f_word f_wrongAt f_laterFault f_laterPlace a_told a_read f_farHut f_farSinger f_good f_land f_huts f_singers f_evening a_at a_knows a_climbed a_snow a_level f_begun f_minute f_avalanches a_run a_covers a_routes a_longest a_steep a_laid a_far f_sight a_runs f_choir f_voices a_rest a_wins f_seed a_other a_kept H)
    (hS : va_S (mA q) s.heap H locs)
    (hP2 : ∀ (x2 : Int32) (a_routes : Nat → Int32) (a_longest : Nat → Int32) (a_steep : Nat → Int32) (a_laid : Nat → Int32) (H : Heap) (locs : List Loc) (ls : Array Slot), P2 x2 a_routes a_longest a_steep a_laid → lv_has ls 5 [(0, .ref q), (1, .int x1), (2, .int x2)] → mW E q f_code a_tape a_size a_fault a_faultPlace a_many a_lands a_evenings a_sights a_choirs f_reached f_length f_begins f_sort f_value f_word f_wrongAt f_laterFault f_laterPlace a_told a_read f_farHut f_farSinger f_good f_land f_huts f_singers f_evening a_at a_knows a_climbed a_snow a_level f_begun f_minute f_avalanches a_run a_covers a_routes a_longest a_steep a_laid a_far f_sight a_runs f_choir f_voices a_rest a_wins f_seed a_other a_kept H → va_S (mA q) s.heap H locs → W p l e rm_m_findRoutes s m args below meth c H locs 0 0 (MQ below (zQv (S := (Nat → Int32) × (Nat → Int32) × (Nat → Int32) × (Nat → Int32)) (fun u => post u.1 u.2.1 u.2.2.1 u.2.2.2) (fun u H => mW E q f_code a_tape a_size a_fault a_faultPlace a_many a_lands a_evenings a_sights a_choirs f_reached f_length f_begins f_sort f_value f_word f_wrongAt f_laterFault f_laterPlace a_told a_read f_farHut f_farSinger f_good f_land f_huts f_singers f_evening a_at a_knows a_climbed a_snow a_level f_begun f_minute f_avalanches a_run a_covers u.1 u.2.1 u.2.2.1 u.2.2.2 a_far f_sight a_runs f_choir f_voices a_rest a_wins f_seed a_other a_kept H) (mA q)) args s 0 0 (mA q)) (F0 m 2 ls []))
    (hl : lv_has ls 5 [(0, .ref q), (1, .int x1), (2, .int x2)])
    (hw : q_m_findRoutes_32 P2 a_lands f_land f_huts a_routes a_longest a_steep a_laid x1 x2 y0 post) :
    W p l e rm_m_findRoutes s m args below meth c H locs 0 0 (MQ below (zQv (S := (Nat → Int32) × (Nat → Int32) × (Nat → Int32) × (Nat → Int32)) (fun u => post u.1 u.2.1 u.2.2.1 u.2.2.2) (fun u H => mW E q f_code a_tape a_size a_fault a_faultPlace a_many a_lands a_evenings a_sights a_choirs f_reached f_length f_begins f_sort f_value f_word f_wrongAt f_laterFault f_laterPlace a_told a_read f_farHut f_farSinger f_good f_land f_huts f_singers f_evening a_at a_knows a_climbed a_snow a_level f_begun f_minute f_avalanches a_run a_covers u.1 u.2.1 u.2.2.1 u.2.2.2 a_far f_sight a_runs f_choir f_voices a_rest a_wins f_seed a_other a_kept H) (mA q)) args s 0 0 (mA q)) (F0 m 32 ls [.int y0, .ref (q + 19)]) := by
  have hx := zc.1
  have hb := zc.2.1
  refine lv_iconst (v := (0 : Int32)) hx hb dX11_findRoutes_32 (by decide) ?_
  exact t_m_findRoutes_33 zc hK hM hS hP2 (lv_sub hl [0, 1, 2] rfl) hw
set_option maxRecDepth 20000 in
theorem t_m_findRoutes_86 {p : Program} {l : Launch} {e : Env} {s : State} {m : MethodId} {args : Array Value} {below : List Frame} {meth : Method} {c : Code} {E : zE} {q : Nat} {f_code : Int32} {a_tape : Nat → Int32} {a_size : Nat → Int32} {a_fault : Nat → Int32} {a_faultPlace : Nat → Int32} {a_many : Nat → Int32} {a_lands : Nat → Int32} {a_evenings : Nat → Int32} {a_sights : Nat → Int32} {a_choirs : Nat → Int32} {f_reached : Int32} {f_length : Int32} {f_begins : Int32} {f_sort : Int32} {f_value : Int32} {f_word : Int64} {f_wrongAt : Int32} {f_laterFault : Int32} {f_laterPlace : Int32} {a_told : Nat → Int32} {a_read : Nat → Int32} {f_farHut : Int32} {f_farSinger : Int32} {f_good : Int32} {f_land : Int32} {f_huts : Int32} {f_singers : Int32} {f_evening : Int32} {a_at : Nat → Int32} {a_knows : Nat → Int32} {a_climbed : Nat → Int32} {a_snow : Nat → Int32} {a_level : Nat → Int32} {f_begun : Int32} {f_minute : Int32} {f_avalanches : Int32} {a_run : Nat → Int32} {a_covers : Nat → Int32} {a_routes : Nat → Int32} {a_longest : Nat → Int32} {a_steep : Nat → Int32} {a_laid : Nat → Int32} {a_far : Nat → Int32} {f_sight : Int32} {a_runs : Nat → Int32} {f_choir : Int32} {f_voices : Int32} {a_rest : Nat → Int64} {a_wins : Nat → Int32} {f_seed : Int32} {a_other : Nat → Int32} {a_kept : Nat → Int32} {P63 : Int32 → (Nat → Int32) → (Nat → Int32) → (Nat → Int32) → (Nat → Int32) → Prop} {post : (Nat → Int32) → (Nat → Int32) → (Nat → Int32) → (Nat → Int32) → Prop} {x2 : Int32} {x3 : Int32} {x4 : Int32} {ls : Array Slot} {H : Heap} {locs : List Loc}
    (zc : zC p s m args meth c cX11_findRoutes 5 RX11 none)
    (hK : zK E s)
    (hM : mW E q f_code a_tape a_size a_fault a_faultPlace a_many a_lands a_evenings a_sights a_choirs f_reached f_length f_begins f_sort f_value f_word f_wrongAt f_laterFault f_laterPlace a_told a_read f_farHut f_farSinger f_good f_land f_huts f_singers f_evening a_at a_knows a_climbed a_snow a_level f_begun f_minute f_avalanches a_run a_covers a_routes a_longest a_steep a_laid a_far f_sight a_runs f_choir f_voices a_rest a_wins f_seed a_other a_kept H)
    (hS : va_S (mA q) s.heap H locs)
    (hP63 : ∀ (x2 : Int32) (a_routes : Nat → Int32) (a_longest : Nat → Int32) (a_steep : Nat → Int32) (a_laid : Nat → Int32) (H : Heap) (locs : List Loc) (ls : Array Slot), P63 x2 a_routes a_longest a_steep a_laid → lv_has ls 5 [(0, .ref q), (2, .int x2)] → mW E q f_code a_tape a_size a_fault a_faultPlace a_many a_lands a_evenings a_sights a_choirs f_reached f_length f_begins f_sort f_value f_word f_wrongAt f_laterFault f_laterPlace a_told a_read f_farHut f_farSinger f_good f_land f_huts f_singers f_evening a_at a_knows a_climbed a_snow a_level f_begun f_minute f_avalanches a_run a_covers a_routes a_longest a_steep a_laid a_far f_sight a_runs f_choir f_voices a_rest a_wins f_seed a_other a_kept H → va_S (mA q) s.heap H locs → W p l e rm_m_findRoutes s m args below meth c H locs 0 0 (MQ below (zQv (S := (Nat → Int32) × (Nat → Int32) × (Nat → Int32) × (Nat → Int32)) (fun u => post u.1 u.2.1 u.2.2.1 u.2.2.2) (fun u H => mW E q f_code a_tape a_size a_fault a_faultPlace a_many a_lands a_evenings a_sights a_choirs f_reached f_length f_begins f_sort f_value f_word f_wrongAt f_laterFault f_laterPlace a_told a_read f_farHut f_farSinger f_good f_land f_huts f_singers f_evening a_at a_knows a_climbed a_snow a_level f_begun f_minute f_avalanches a_run a_covers u.1 u.2.1 u.2.2.1 u.2.2.2 a_far f_sight a_runs f_choir f_voices a_rest a_wins f_seed a_other a_kept H) (mA q)) args s 0 0 (mA q)) (F0 m 63 ls []))
    (hl : lv_has ls 5 [(0, .ref q), (2, .int x2), (3, .int x3), (4, .int x4)])
    (hw : q_m_findRoutes_86 P63 a_lands f_land f_huts a_routes a_longest a_steep a_laid x2 x3 x4 post) :
    W p l e rm_m_findRoutes s m args below meth c H locs 0 0 (MQ below (zQv (S := (Nat → Int32) × (Nat → Int32) × (Nat → Int32) × (Nat → Int32)) (fun u => post u.1 u.2.1 u.2.2.1 u.2.2.2) (fun u H => mW E q f_code a_tape a_size a_fault a_faultPlace a_many a_lands a_evenings a_sights a_choirs f_reached f_length f_begins f_sort f_value f_word f_wrongAt f_laterFault f_laterPlace a_told a_read f_farHut f_farSinger f_good f_land f_huts f_singers f_evening a_at a_knows a_climbed a_snow a_level f_begun f_minute f_avalanches a_run a_covers u.1 u.2.1 u.2.2.1 u.2.2.2 a_far f_sight a_runs f_choir f_voices a_rest a_wins f_seed a_other a_kept H) (mA q)) args s 0 0 (mA q)) (F0 m 86 ls []) := by
  have hx := zc.1
  have hb := zc.2.1
  refine hw (fun x4 a_routes a_longest a_steep => ∀ (H : Heap) (locs : List Loc) (ls : Array Slot), lv_has ls 5 [(0, .ref q), (2, .int x2), (3, .int x3), (4, .int x4)] → mW E q f_code a_tape a_size a_fault a_faultPlace a_many a_lands a_evenings a_sights a_choirs f_reached f_length f_begins f_sort f_value f_word f_wrongAt f_laterFault f_laterPlace a_told a_read f_farHut f_farSinger f_good f_land f_huts f_singers f_evening a_at a_knows a_climbed a_snow a_level f_begun f_minute f_avalanches a_run a_covers a_routes a_longest a_steep a_laid a_far f_sight a_runs f_choir f_voices a_rest a_wins f_seed a_other a_kept H → va_S (mA q) s.heap H locs → W p l e rm_m_findRoutes s m args below meth c H locs 0 0 (MQ below (zQv (S := (Nat → Int32) × (Nat → Int32) × (Nat → Int32) × (Nat → Int32)) (fun u => post u.1 u.2.1 u.2.2.1 u.2.2.2) (fun u H => mW E q f_code a_tape a_size a_fault a_faultPlace a_many a_lands a_evenings a_sights a_choirs f_reached f_length f_begins f_sort f_value f_word f_wrongAt f_laterFault f_laterPlace a_told a_read f_farHut f_farSinger f_good f_land f_huts f_singers f_evening a_at a_knows a_climbed a_snow a_level f_begun f_minute f_avalanches a_run a_covers u.1 u.2.1 u.2.2.1 u.2.2.2 a_far f_sight a_runs f_choir f_voices a_rest a_wins f_seed a_other a_kept H) (mA q)) args s 0 0 (mA q)) (F0 m 86 ls [])) ?_ _ _ _ hl hM hS
  intro x4 a_routes a_longest a_steep hw H locs ls hl hM hS
  refine lv_iload hx hb dX11_findRoutes_86 (lv_at hl 3 rfl) ?_
  refine lv_aload_n hx hb dX11_findRoutes_88 rfl (lv_at hl 0 rfl) ?_
  refine mg_11_307_0 zc hK hM dX11_findRoutes_89 ?_
  refine lv_icmp_ge (tgt := 108) hx hb dX11_findRoutes_92 (by decide) (fun hc => ?_) (fun hc => ?_)
  · have hw := hw.1 hc
    obtain ⟨v_1, ev_1⟩ : ∃ y : Int32, y = x2 + (1 : Int32) := ⟨_, rfl⟩
    have hw := hw v_1 ev_1
    refine lv_iinc (v := v_1) (k := 1) (lv' := [(2, .int v_1), (0, .ref q), (3, .int x3), (4, .int x4)]) hx hb dX11_findRoutes_108 hl rfl (by rw [ev_1]; rfl) (by decide) rfl (fun ls hl => ?_)
    refine lv_goto (tgt := 63) hx hb dX11_findRoutes_111 (by decide) ?_
    exact hP63 _ _ _ _ _ _ _ _ hw (lv_sub hl [1, 0] rfl) hM hS
  · have hw := hw.2 hc
    refine lv_aload_n hx hb dX11_findRoutes_95 rfl (lv_at hl 0 rfl) ?_
    refine lv_iload_n hx hb dX11_findRoutes_96 rfl (lv_at hl 2 rfl) ?_
    refine lv_iload hx hb dX11_findRoutes_97 (lv_at hl 3 rfl) ?_
    refine zVw_v [.int x3, .int x4] [] zc ky_X11_goesDown kz_X11_goesDown km_11_444 (c_m_goesDown l hw) (mPreV0 hK hM) hS rfl rfl hl.1 (Nat.le_of_ble_eq_true rfl) ⟨rfl, rfl⟩ ⟨Nat.le_of_ble_eq_true rfl, Nat.le_of_ble_eq_true rfl⟩ ⟨(Nat.zero_le _), (Nat.zero_le _)⟩ dX11_findRoutes_99 (fun u H locs hw hM hS => ?_)
    obtain ⟨a_routes_1, a_longest_1, a_steep_1⟩ := u
    obtain ⟨v_2, ev_2⟩ : ∃ y : Int32, y = x4 + (1 : Int32) := ⟨_, rfl⟩
    have hw := hw v_2 ev_2
    refine lv_iinc (v := v_2) (k := 3) (lv' := [(4, .int v_2), (0, .ref q), (2, .int x2), (3, .int x3)]) hx hb dX11_findRoutes_102 hl rfl (by rw [ev_2]; rfl) (by decide) rfl (fun ls hl => ?_)
    refine lv_goto (tgt := 86) hx hb dX11_findRoutes_105 (by decide) ?_
    exact hw _ _ _ (lv_sub hl [1, 2, 3, 0] rfl) hM hS
set_option maxRecDepth 20000 in
theorem t_m_findRoutes_63 {p : Program} {l : Launch} {e : Env} {s : State} {m : MethodId} {args : Array Value} {below : List Frame} {meth : Method} {c : Code} {E : zE} {q : Nat} {f_code : Int32} {a_tape : Nat → Int32} {a_size : Nat → Int32} {a_fault : Nat → Int32} {a_faultPlace : Nat → Int32} {a_many : Nat → Int32} {a_lands : Nat → Int32} {a_evenings : Nat → Int32} {a_sights : Nat → Int32} {a_choirs : Nat → Int32} {f_reached : Int32} {f_length : Int32} {f_begins : Int32} {f_sort : Int32} {f_value : Int32} {f_word : Int64} {f_wrongAt : Int32} {f_laterFault : Int32} {f_laterPlace : Int32} {a_told : Nat → Int32} {a_read : Nat → Int32} {f_farHut : Int32} {f_farSinger : Int32} {f_good : Int32} {f_land : Int32} {f_huts : Int32} {f_singers : Int32} {f_evening : Int32} {a_at : Nat → Int32} {a_knows : Nat → Int32} {a_climbed : Nat → Int32} {a_snow : Nat → Int32} {a_level : Nat → Int32} {f_begun : Int32} {f_minute : Int32} {f_avalanches : Int32} {a_run : Nat → Int32} {a_covers : Nat → Int32} {a_routes : Nat → Int32} {a_longest : Nat → Int32} {a_steep : Nat → Int32} {a_laid : Nat → Int32} {a_far : Nat → Int32} {f_sight : Int32} {a_runs : Nat → Int32} {f_choir : Int32} {f_voices : Int32} {a_rest : Nat → Int64} {a_wins : Nat → Int32} {f_seed : Int32} {a_other : Nat → Int32} {a_kept : Nat → Int32} {post : (Nat → Int32) → (Nat → Int32) → (Nat → Int32) → (Nat → Int32) → Prop} {x2 : Int32} {ls : Array Slot} {H : Heap} {locs : List Loc}
    (zc : zC p s m args meth c cX11_findRoutes 5 RX11 none)
    (hK : zK E s)
    (hM : mW E q f_code a_tape a_size a_fault a_faultPlace a_many a_lands a_evenings a_sights a_choirs f_reached f_length f_begins f_sort f_value f_word f_wrongAt f_laterFault f_laterPlace a_told a_read f_farHut f_farSinger f_good f_land f_huts f_singers f_evening a_at a_knows a_climbed a_snow a_level f_begun f_minute f_avalanches a_run a_covers a_routes a_longest a_steep a_laid a_far f_sight a_runs f_choir f_voices a_rest a_wins f_seed a_other a_kept H)
    (hS : va_S (mA q) s.heap H locs)
    (hl : lv_has ls 5 [(0, .ref q), (2, .int x2)])
    (hw : q_m_findRoutes_63 a_lands f_land f_huts a_routes a_longest a_steep a_laid x2 post) :
    W p l e rm_m_findRoutes s m args below meth c H locs 0 0 (MQ below (zQv (S := (Nat → Int32) × (Nat → Int32) × (Nat → Int32) × (Nat → Int32)) (fun u => post u.1 u.2.1 u.2.2.1 u.2.2.2) (fun u H => mW E q f_code a_tape a_size a_fault a_faultPlace a_many a_lands a_evenings a_sights a_choirs f_reached f_length f_begins f_sort f_value f_word f_wrongAt f_laterFault f_laterPlace a_told a_read f_farHut f_farSinger f_good f_land f_huts f_singers f_evening a_at a_knows a_climbed a_snow a_level f_begun f_minute f_avalanches a_run a_covers u.1 u.2.1 u.2.2.1 u.2.2.2 a_far f_sight a_runs f_choir f_voices a_rest a_wins f_seed a_other a_kept H) (mA q)) args s 0 0 (mA q)) (F0 m 63 ls []) := by
  have hx := zc.1
  have hb := zc.2.1
  refine hw (fun x2 a_routes a_longest a_steep a_laid => ∀ (H : Heap) (locs : List Loc) (ls : Array Slot), lv_has ls 5 [(0, .ref q), (2, .int x2)] → mW E q f_code a_tape a_size a_fault a_faultPlace a_many a_lands a_evenings a_sights a_choirs f_reached f_length f_begins f_sort f_value f_word f_wrongAt f_laterFault f_laterPlace a_told a_read f_farHut f_farSinger f_good f_land f_huts f_singers f_evening a_at a_knows a_climbed a_snow a_level f_begun f_minute f_avalanches a_run a_covers a_routes a_longest a_steep a_laid a_far f_sight a_runs f_choir f_voices a_rest a_wins f_seed a_other a_kept H → va_S (mA q) s.heap H locs → W p l e rm_m_findRoutes s m args below meth c H locs 0 0 (MQ below (zQv (S := (Nat → Int32) × (Nat → Int32) × (Nat → Int32) × (Nat → Int32)) (fun u => post u.1 u.2.1 u.2.2.1 u.2.2.2) (fun u H => mW E q f_code a_tape a_size a_fault a_faultPlace a_many a_lands a_evenings a_sights a_choirs f_reached f_length f_begins f_sort f_value f_word f_wrongAt f_laterFault f_laterPlace a_told a_read f_farHut f_farSinger f_good f_land f_huts f_singers f_evening a_at a_knows a_climbed a_snow a_level f_begun f_minute f_avalanches a_run a_covers u.1 u.2.1 u.2.2.1 u.2.2.2 a_far f_sight a_runs f_choir f_voices a_rest a_wins f_seed a_other a_kept H) (mA q)) args s 0 0 (mA q)) (F0 m 63 ls [])) ?_ _ _ _ hl hM hS
  intro x2 a_routes a_longest a_steep a_laid hw H locs ls hl hM hS
  refine lv_iload_n hx hb dX11_findRoutes_63 rfl (lv_at hl 1 rfl) ?_
  refine lv_aload_n hx hb dX11_findRoutes_64 rfl (lv_at hl 0 rfl) ?_
  refine mg_11_307_0 zc hK hM dX11_findRoutes_65 ?_
  refine lv_icmp_ge (tgt := 114) hx hb dX11_findRoutes_68 (by decide) (fun hc => ?_) (fun hc => ?_)
  · have hw := hw.1 hc
    exact zret_vw ⟨a_routes, a_longest, a_steep, a_laid⟩ zc hS hw hM dX11_findRoutes_114
  · have hw := hw.2 hc
    refine lv_aload_n hx hb dX11_findRoutes_71 rfl (lv_at hl 0 rfl) ?_
    refine zV_i [] [] zc ky_X11_nextDown kz_X11_nextDown km_11_441 (c_m_nextDown l hw) (mPreV0 hK hM) rfl rfl hl.1 (Nat.le_of_ble_eq_true rfl) ⟨rfl, rfl⟩ ⟨Nat.le_of_ble_eq_true rfl, Nat.le_of_ble_eq_true rfl⟩ ⟨(Nat.zero_le _), (Nat.zero_le _)⟩ dX11_findRoutes_72 (fun r_1 hw => ?_)
    refine lv_istore_n (lv' := [(3, .int r_1), (0, .ref q), (2, .int x2)]) hx hb dX11_findRoutes_75 rfl hl (by decide) rfl (fun ls hl => ?_)
    refine lv_aload_n hx hb dX11_findRoutes_76 rfl (lv_at hl 1 rfl) ?_
    refine mg_11_74_0 zc hK hM dX11_findRoutes_77 ?_
    refine lv_iload_n hx hb dX11_findRoutes_80 rfl (lv_at hl 0 rfl) ?_
    refine lv_iconst (v := (1 : Int32)) hx hb dX11_findRoutes_81 (by decide) ?_
    refine mst_22 zc hK hM hS hw.1 dX11_findRoutes_82 (fun a_laid_1 H locs ea_laid_1 hM hS => ?_)
    have hw := hw.2 a_laid_1 ea_laid_1
    refine lv_iconst (v := (0 : Int32)) hx hb dX11_findRoutes_83 (by decide) ?_
    refine lv_istore (lv' := [(4, .int (0 : Int32)), (3, .int r_1), (0, .ref q), (2, .int x2)]) hx hb dX11_findRoutes_84 hl (by decide) rfl (fun ls hl => ?_)
    exact t_m_findRoutes_86 zc hK hM hS (fun _ _ _ _ _ H locs ls h hl hM hS => h H locs ls hl hM hS) (lv_sub hl [2, 3, 1, 0] rfl) hw
set_option maxRecDepth 20000 in
theorem t_m_findRoutes_2 {p : Program} {l : Launch} {e : Env} {s : State} {m : MethodId} {args : Array Value} {below : List Frame} {meth : Method} {c : Code} {E : zE} {q : Nat} {f_code : Int32} {a_tape : Nat → Int32} {a_size : Nat → Int32} {a_fault : Nat → Int32} {a_faultPlace : Nat → Int32} {a_many : Nat → Int32} {a_lands : Nat → Int32} {a_evenings : Nat → Int32} {a_sights : Nat → Int32} {a_choirs : Nat → Int32} {f_reached : Int32} {f_length : Int32} {f_begins : Int32} {f_sort : Int32} {f_value : Int32} {f_word : Int64} {f_wrongAt : Int32} {f_laterFault : Int32} {f_laterPlace : Int32} {a_told : Nat → Int32} {a_read : Nat → Int32} {f_farHut : Int32} {f_farSinger : Int32} {f_good : Int32} {f_land : Int32} {f_huts : Int32} {f_singers : Int32} {f_evening : Int32} {a_at : Nat → Int32} {a_knows : Nat → Int32} {a_climbed : Nat → Int32} {a_snow : Nat → Int32} {a_level : Nat → Int32} {f_begun : Int32} {f_minute : Int32} {f_avalanches : Int32} {a_run : Nat → Int32} {a_covers : Nat → Int32} {a_routes : Nat → Int32} {a_longest : Nat → Int32} {a_steep : Nat → Int32} {a_laid : Nat → Int32} {a_far : Nat → Int32} {f_sight : Int32} {a_runs : Nat → Int32} {f_choir : Int32} {f_voices : Int32} {a_rest : Nat → Int64} {a_wins : Nat → Int32} {f_seed : Int32} {a_other : Nat → Int32} {a_kept : Nat → Int32} {post : (Nat → Int32) → (Nat → Int32) → (Nat → Int32) → (Nat → Int32) → Prop} {x1 : Int32} {x2 : Int32} {ls : Array Slot} {H : Heap} {locs : List Loc}
    (zc : zC p s m args meth c cX11_findRoutes 5 RX11 none)
    (hK : zK E s)
    (hM : mW E q f_code a_tape a_size a_fault a_faultPlace a_many a_lands a_evenings a_sights a_choirs f_reached f_length f_begins f_sort f_value f_word f_wrongAt f_laterFault f_laterPlace a_told a_read f_farHut f_farSinger f_good f_land f_huts f_singers f_evening a_at a_knows a_climbed a_snow a_level f_begun f_minute f_avalanches a_run a_covers a_routes a_longest a_steep a_laid a_far f_sight a_runs f_choir f_voices a_rest a_wins f_seed a_other a_kept H)
    (hS : va_S (mA q) s.heap H locs)
    (hl : lv_has ls 5 [(0, .ref q), (1, .int x1), (2, .int x2)])
    (hw : q_m_findRoutes_2 a_lands f_land f_huts a_routes a_longest a_steep a_laid x1 x2 post) :
    W p l e rm_m_findRoutes s m args below meth c H locs 0 0 (MQ below (zQv (S := (Nat → Int32) × (Nat → Int32) × (Nat → Int32) × (Nat → Int32)) (fun u => post u.1 u.2.1 u.2.2.1 u.2.2.2) (fun u H => mW E q f_code a_tape a_size a_fault a_faultPlace a_many a_lands a_evenings a_sights a_choirs f_reached f_length f_begins f_sort f_value f_word f_wrongAt f_laterFault f_laterPlace a_told a_read f_farHut f_farSinger f_good f_land f_huts f_singers f_evening a_at a_knows a_climbed a_snow a_level f_begun f_minute f_avalanches a_run a_covers u.1 u.2.1 u.2.2.1 u.2.2.2 a_far f_sight a_runs f_choir f_voices a_rest a_wins f_seed a_other a_kept H) (mA q)) args s 0 0 (mA q)) (F0 m 2 ls []) := by
  have hx := zc.1
  have hb := zc.2.1
  refine hw (fun x2 a_routes a_longest a_steep a_laid => ∀ (H : Heap) (locs : List Loc) (ls : Array Slot), lv_has ls 5 [(0, .ref q), (1, .int x1), (2, .int x2)] → mW E q f_code a_tape a_size a_fault a_faultPlace a_many a_lands a_evenings a_sights a_choirs f_reached f_length f_begins f_sort f_value f_word f_wrongAt f_laterFault f_laterPlace a_told a_read f_farHut f_farSinger f_good f_land f_huts f_singers f_evening a_at a_knows a_climbed a_snow a_level f_begun f_minute f_avalanches a_run a_covers a_routes a_longest a_steep a_laid a_far f_sight a_runs f_choir f_voices a_rest a_wins f_seed a_other a_kept H → va_S (mA q) s.heap H locs → W p l e rm_m_findRoutes s m args below meth c H locs 0 0 (MQ below (zQv (S := (Nat → Int32) × (Nat → Int32) × (Nat → Int32) × (Nat → Int32)) (fun u => post u.1 u.2.1 u.2.2.1 u.2.2.2) (fun u H => mW E q f_code a_tape a_size a_fault a_faultPlace a_many a_lands a_evenings a_sights a_choirs f_reached f_length f_begins f_sort f_value f_word f_wrongAt f_laterFault f_laterPlace a_told a_read f_farHut f_farSinger f_good f_land f_huts f_singers f_evening a_at a_knows a_climbed a_snow a_level f_begun f_minute f_avalanches a_run a_covers u.1 u.2.1 u.2.2.1 u.2.2.2 a_far f_sight a_runs f_choir f_voices a_rest a_wins f_seed a_other a_kept H) (mA q)) args s 0 0 (mA q)) (F0 m 2 ls [])) ?_ _ _ _ hl hM hS
  intro x2 a_routes a_longest a_steep a_laid hw H locs ls hl hM hS
  refine lv_iload_n hx hb dX11_findRoutes_2 rfl (lv_at hl 2 rfl) ?_
  refine lv_aload_n hx hb dX11_findRoutes_3 rfl (lv_at hl 0 rfl) ?_
  refine mg_11_307_0 zc hK hM dX11_findRoutes_4 ?_
  refine lv_icmp_ge (tgt := 61) hx hb dX11_findRoutes_7 (by decide) (fun hc => ?_) (fun hc => ?_)
  · have hw := hw.1 hc
    refine lv_iconst (v := (0 : Int32)) hx hb dX11_findRoutes_61 (by decide) ?_
    refine lv_istore_n (lv' := [(2, .int (0 : Int32)), (0, .ref q), (1, .int x1)]) hx hb dX11_findRoutes_62 rfl hl (by decide) rfl (fun ls hl => ?_)
    exact t_m_findRoutes_63 zc hK hM hS  (lv_sub hl [1, 0] rfl) hw
  · have hw := hw.2 hc
    refine lv_aload_n hx hb dX11_findRoutes_10 rfl (lv_at hl 0 rfl) ?_
    refine mg_11_65_0 zc hK hM dX11_findRoutes_11 ?_
    refine lv_iload_n hx hb dX11_findRoutes_14 rfl (lv_at hl 2 rfl) ?_
    refine lv_iload_n hx hb dX11_findRoutes_15 rfl (lv_at hl 2 rfl) ?_
    refine lv_iload_n hx hb dX11_findRoutes_16 rfl (lv_at hl 1 rfl) ?_
    refine lv_icmp_ne (tgt := 32) hx hb dX11_findRoutes_17 (by decide) (fun hc => ?_) (fun hc => ?_)
    · have hw := hw.1 hc
      exact t_m_findRoutes_32 zc hK hM hS (fun _ _ _ _ _ H locs ls h hl hM hS => h H locs ls hl hM hS) (lv_sub hl [0, 1, 2] rfl) hw
    · have hw := hw.2 hc
      refine lv_aload_n hx hb dX11_findRoutes_20 rfl (lv_at hl 0 rfl) ?_
      refine lv_iload_n hx hb dX11_findRoutes_21 rfl (lv_at hl 2 rfl) ?_
      refine zV_i [.int x2] [.int x2, .ref (q + 19)] zc ky_X11_isDam kz_X11_isDam km_11_355 (c_m_isDam l hw) (mPreV0 hK hM) rfl rfl hl.1 (Nat.le_of_ble_eq_true rfl) ⟨rfl, rfl⟩ ⟨Nat.le_of_ble_eq_true rfl, Nat.le_of_ble_eq_true rfl⟩ ⟨(Nat.zero_le _), (Nat.zero_le _)⟩ dX11_findRoutes_22 (fun r_1 hw => ?_)
      refine lv_if_ne (tgt := 32) hx hb dX11_findRoutes_25 (by decide) (fun hc => ?_) (fun hc => ?_)
      · have hw := hw.1 hc
        exact t_m_findRoutes_32 zc hK hM hS (fun _ _ _ _ _ H locs ls h hl hM hS => h H locs ls hl hM hS) (lv_sub hl [0, 1, 2] rfl) hw
      · have hw := hw.2 hc
        refine lv_iconst (v := (1 : Int32)) hx hb dX11_findRoutes_28 (by decide) ?_
        refine lv_goto (tgt := 33) hx hb dX11_findRoutes_29 (by decide) ?_
        exact t_m_findRoutes_33 zc hK hM hS (fun _ _ _ _ _ H locs ls h hl hM hS => h H locs ls hl hM hS) (lv_sub hl [0, 1, 2] rfl) hw
set_option maxRecDepth 20000 in
theorem t_m_findRoutes_0 {p : Program} {l : Launch} {e : Env} {s : State} {m : MethodId} {args : Array Value} {below : List Frame} {meth : Method} {c : Code} {E : zE} {q : Nat} {f_code : Int32} {a_tape : Nat → Int32} {a_size : Nat → Int32} {a_fault : Nat → Int32} {a_faultPlace : Nat → Int32} {a_many : Nat → Int32} {a_lands : Nat → Int32} {a_evenings : Nat → Int32} {a_sights : Nat → Int32} {a_choirs : Nat → Int32} {f_reached : Int32} {f_length : Int32} {f_begins : Int32} {f_sort : Int32} {f_value : Int32} {f_word : Int64} {f_wrongAt : Int32} {f_laterFault : Int32} {f_laterPlace : Int32} {a_told : Nat → Int32} {a_read : Nat → Int32} {f_farHut : Int32} {f_farSinger : Int32} {f_good : Int32} {f_land : Int32} {f_huts : Int32} {f_singers : Int32} {f_evening : Int32} {a_at : Nat → Int32} {a_knows : Nat → Int32} {a_climbed : Nat → Int32} {a_snow : Nat → Int32} {a_level : Nat → Int32} {f_begun : Int32} {f_minute : Int32} {f_avalanches : Int32} {a_run : Nat → Int32} {a_covers : Nat → Int32} {a_routes : Nat → Int32} {a_longest : Nat → Int32} {a_steep : Nat → Int32} {a_laid : Nat → Int32} {a_far : Nat → Int32} {f_sight : Int32} {a_runs : Nat → Int32} {f_choir : Int32} {f_voices : Int32} {a_rest : Nat → Int64} {a_wins : Nat → Int32} {f_seed : Int32} {a_other : Nat → Int32} {a_kept : Nat → Int32} {post : (Nat → Int32) → (Nat → Int32) → (Nat → Int32) → (Nat → Int32) → Prop} {x1 : Int32} {ls : Array Slot} {H : Heap} {locs : List Loc}
    (zc : zC p s m args meth c cX11_findRoutes 5 RX11 none)
    (hK : zK E s)
    (hM : mW E q f_code a_tape a_size a_fault a_faultPlace a_many a_lands a_evenings a_sights a_choirs f_reached f_length f_begins f_sort f_value f_word f_wrongAt f_laterFault f_laterPlace a_told a_read f_farHut f_farSinger f_good f_land f_huts f_singers f_evening a_at a_knows a_climbed a_snow a_level f_begun f_minute f_avalanches a_run a_covers a_routes a_longest a_steep a_laid a_far f_sight a_runs f_choir f_voices a_rest a_wins f_seed a_other a_kept H)
    (hS : va_S (mA q) s.heap H locs)
    (hl : lv_has ls 5 [(0, .ref q), (1, .int x1)])
    (hw : q_m_findRoutes_0 a_lands f_land f_huts a_routes a_longest a_steep a_laid x1 post) :
    W p l e rm_m_findRoutes s m args below meth c H locs 0 0 (MQ below (zQv (S := (Nat → Int32) × (Nat → Int32) × (Nat → Int32) × (Nat → Int32)) (fun u => post u.1 u.2.1 u.2.2.1 u.2.2.2) (fun u H => mW E q f_code a_tape a_size a_fault a_faultPlace a_many a_lands a_evenings a_sights a_choirs f_reached f_length f_begins f_sort f_value f_word f_wrongAt f_laterFault f_laterPlace a_told a_read f_farHut f_farSinger f_good f_land f_huts f_singers f_evening a_at a_knows a_climbed a_snow a_level f_begun f_minute f_avalanches a_run a_covers u.1 u.2.1 u.2.2.1 u.2.2.2 a_far f_sight a_runs f_choir f_voices a_rest a_wins f_seed a_other a_kept H) (mA q)) args s 0 0 (mA q)) (F0 m 0 ls []) := by
  have hx := zc.1
  have hb := zc.2.1
  refine lv_iconst (v := (0 : Int32)) hx hb dX11_findRoutes_0 (by decide) ?_
  refine lv_istore_n (lv' := [(2, .int (0 : Int32)), (0, .ref q), (1, .int x1)]) hx hb dX11_findRoutes_1 rfl hl (by decide) rfl (fun ls hl => ?_)
  exact t_m_findRoutes_2 zc hK hM hS  (lv_sub hl [1, 2, 0] rfl) hw
set_option maxRecDepth 20000 in
theorem c_m_findRoutes (l : Launch) {E : zE} {q : Nat} {f_code : Int32} {a_tape : Nat → Int32} {a_size : Nat → Int32} {a_fault : Nat → Int32} {a_faultPlace : Nat → Int32} {a_many : Nat → Int32} {a_lands : Nat → Int32} {a_evenings : Nat → Int32} {a_sights : Nat → Int32} {a_choirs : Nat → Int32} {f_reached : Int32} {f_length : Int32} {f_begins : Int32} {f_sort : Int32} {f_value : Int32} {f_word : Int64} {f_wrongAt : Int32} {f_laterFault : Int32} {f_laterPlace : Int32} {a_told : Nat → Int32} {a_read : Nat → Int32} {f_farHut : Int32} {f_farSinger : Int32} {f_good : Int32} {f_land : Int32} {f_huts : Int32} {f_singers : Int32} {f_evening : Int32} {a_at : Nat → Int32} {a_knows : Nat → Int32} {a_climbed : Nat → Int32} {a_snow : Nat → Int32} {a_level : Nat → Int32} {f_begun : Int32} {f_minute : Int32} {f_avalanches : Int32} {a_run : Nat → Int32} {a_covers : Nat → Int32} {a_routes : Nat → Int32} {a_longest : Nat → Int32} {a_steep : Nat → Int32} {a_laid : Nat → Int32} {a_far : Nat → Int32} {f_sight : Int32} {a_runs : Nat → Int32} {f_choir : Int32} {f_voices : Int32} {a_rest : Nat → Int64} {a_wins : Nat → Int32} {f_seed : Int32} {a_other : Nat → Int32} {a_kept : Nat → Int32} {x1 : Int32} {post : (Nat → Int32) → (Nat → Int32) → (Nat → Int32) → (Nat → Int32) → Prop} (hw : q_m_findRoutes_0 a_lands f_land f_huts a_routes a_longest a_steep a_laid x1 post) : Met l yX11_findRoutes (Cond.code yX11_findRoutes cX11_findRoutes 5 none :: zb) rm_m_findRoutes (va_Pc [.ref q, .int x1] (fun U => mW E q f_code a_tape a_size a_fault a_faultPlace a_many a_lands a_evenings a_sights a_choirs f_reached f_length f_begins f_sort f_value f_word f_wrongAt f_laterFault f_laterPlace a_told a_read f_farHut f_farSinger f_good f_land f_huts f_singers f_evening a_at a_knows a_climbed a_snow a_level f_begun f_minute f_avalanches a_run a_covers a_routes a_longest a_steep a_laid a_far f_sight a_runs f_choir f_voices a_rest a_wins f_seed a_other a_kept U.heap ∧ zK E U)) (zQv (S := (Nat → Int32) × (Nat → Int32) × (Nat → Int32) × (Nat → Int32)) (fun u => post u.1 u.2.1 u.2.2.1 u.2.2.2) (fun u H => mW E q f_code a_tape a_size a_fault a_faultPlace a_many a_lands a_evenings a_sights a_choirs f_reached f_length f_begins f_sort f_value f_word f_wrongAt f_laterFault f_laterPlace a_told a_read f_farHut f_farSinger f_good f_land f_huts f_singers f_evening a_at a_knows a_climbed a_snow a_level f_begun f_minute f_avalanches a_run a_covers u.1 u.2.1 u.2.2.1 u.2.2.2 a_far f_sight a_runs f_choir f_voices a_rest a_wins f_seed a_other a_kept H) (mA q)) 0 0 (mA q) := by
  refine Met.ofW (cc := cX11_findRoutes) (maxL := 5) (ret := none) (by decide) rfl ?_
  intro p e s m args below meth c s₁ B hml hv
  obtain ⟨rfl, hM, hK⟩ := hv
  have zc := zc_of B hml
  have hl := lv_entry ([.ref q, .int x1]) (n := 5) (Nat.le_of_ble_eq_true rfl)
  rw [lg_entry_eq]
  generalize (lg_sl ([.ref q, .int x1]) ++ List.replicate (5 - (lg_sl ([.ref q, .int x1])).length) Slot.unset).toArray = ls at hl ⊢
  have hl : lv_has ls 5 [(0, .ref q), (1, .int x1)] := hl
  exact t_m_findRoutes_0 zc hK hM va_S.rf (lv_sub hl [0, 1] rfl) hw
-- m_routes
abbrev rm_m_routes : Room := { frames := 4, cells := 0, slots := 0, locals := 90 }
def q_m_routes_0 (f_code : Int32) (a_many : Nat → Int32) (a_lands : Nat → Int32) (f_land : Int32) (f_huts : Int32) (f_singers : Int32) (a_routes : Nat → Int32) (a_longest : Nat → Int32) (a_steep : Nat → Int32) (a_laid : Nat → Int32) (x1 : Int32) (x2 : Int32) (x3 : Int32) (x4 : Int32) (post : Int32 → (Int32) → (Int32) → (Int32) → (Int32) → (Nat → Int32) → (Nat → Int32) → (Nat → Int32) → (Nat → Int32) → Prop) : Prop :=
  q_m_hand_0 a_many a_lands f_land f_huts f_singers x1 (fun r_1 f_land_1 f_huts_1 f_singers_1 => (r_1 = 0 → (post (-2 : Int32) (0 : Int32) f_land_1 f_huts_1 f_singers_1 a_routes a_longest a_steep a_laid)) ∧ (¬ r_1 = 0 → (q_m_isHut_0 f_huts_1 x2 (fun r_2 => (r_2 = 0 → (post (-2 : Int32) (0 : Int32) f_land_1 f_huts_1 f_singers_1 a_routes a_longest a_steep a_laid)) ∧ (¬ r_2 = 0 → (q_m_isHut_0 f_huts_1 x3 (fun r_3 => (r_3 = 0 → (post (-2 : Int32) (0 : Int32) f_land_1 f_huts_1 f_singers_1 a_routes a_longest a_steep a_laid)) ∧ (¬ r_3 = 0 → ((x2 = x3 → (post (-2 : Int32) (0 : Int32) f_land_1 f_huts_1 f_singers_1 a_routes a_longest a_steep a_laid)) ∧ (¬ x2 = x3 → (q_m_in_0 x4 (0 : Int32) (2 : Int32) (fun r_4 => (¬ r_4 = 0 → (q_m_findRoutes_0 a_lands f_land_1 f_huts_1 a_routes a_longest a_steep a_laid x2 (fun a_routes_1 a_longest_1 a_steep_1 a_laid_1 => (¬ x4 = 0 → (vp_in x3 9 ∧ ((¬ (a_routes_1 (Int32.toNatClampNeg x3)) = 0 → ((¬ x4 = (1 : Int32) → (vp_in x3 9 ∧ (post (a_steep_1 (Int32.toNatClampNeg x3)) (0 : Int32) f_land_1 f_huts_1 f_singers_1 a_routes_1 a_longest_1 a_steep_1 a_laid_1))) ∧ (x4 = (1 : Int32) → (vp_in x3 9 ∧ (post (a_longest_1 (Int32.toNatClampNeg x3)) (0 : Int32) f_land_1 f_huts_1 f_singers_1 a_routes_1 a_longest_1 a_steep_1 a_laid_1))))) ∧ ((a_routes_1 (Int32.toNatClampNeg x3)) = 0 → (post (-1 : Int32) (0 : Int32) f_land_1 f_huts_1 f_singers_1 a_routes_1 a_longest_1 a_steep_1 a_laid_1))))) ∧ (x4 = 0 → (vp_in x3 9 ∧ (post (a_routes_1 (Int32.toNatClampNeg x3)) (0 : Int32) f_land_1 f_huts_1 f_singers_1 a_routes_1 a_longest_1 a_steep_1 a_laid_1)))))) ∧ (r_4 = 0 → (post (-2 : Int32) (0 : Int32) f_land_1 f_huts_1 f_singers_1 a_routes a_longest a_steep a_laid))))))))))))))
set_option maxRecDepth 20000 in
theorem t_m_routes_0 {p : Program} {l : Launch} {e : Env} {s : State} {m : MethodId} {args : Array Value} {below : List Frame} {meth : Method} {c : Code} {E : zE} {q : Nat} {f_code : Int32} {a_tape : Nat → Int32} {a_size : Nat → Int32} {a_fault : Nat → Int32} {a_faultPlace : Nat → Int32} {a_many : Nat → Int32} {a_lands : Nat → Int32} {a_evenings : Nat → Int32} {a_sights : Nat → Int32} {a_choirs : Nat → Int32} {f_reached : Int32} {f_length : Int32} {f_begins : Int32} {f_sort : Int32} {f_value : Int32} {f_word : Int64} {f_wrongAt : Int32} {f_laterFault : Int32} {f_laterPlace : Int32} {a_told : Nat → Int32} {a_read : Nat → Int32} {f_farHut : Int32} {f_farSinger : Int32} {f_good : Int32} {f_land : Int32} {f_huts : Int32} {f_singers : Int32} {f_evening : Int32} {a_at : Nat → Int32} {a_knows : Nat → Int32} {a_climbed : Nat → Int32} {a_snow : Nat → Int32} {a_level : Nat → Int32} {f_begun : Int32} {f_minute : Int32} {f_avalanches : Int32} {a_run : Nat → Int32} {a_covers : Nat → Int32} {a_routes : Nat → Int32} {a_longest : Nat → Int32} {a_steep : Nat → Int32} {a_laid : Nat → Int32} {a_far : Nat → Int32} {f_sight : Int32} {a_runs : Nat → Int32} {f_choir : Int32} {f_voices : Int32} {a_rest : Nat → Int64} {a_wins : Nat → Int32} {f_seed : Int32} {a_other : Nat → Int32} {a_kept : Nat → Int32} {post : Int32 → (Int32) → (Int32) → (Int32) → (Int32) → (Nat → Int32) → (Nat → Int32) → (Nat → Int32) → (Nat → Int32) → Prop} {x1 : Int32} {x2 : Int32} {x3 : Int32} {x4 : Int32} {ls : Array Slot} {H : Heap} {locs : List Loc}
    (zc : zC p s m args meth c cX11_routes 5 RX11 (some .int))
    (hK : zK E s)
    (hM : mW E q f_code a_tape a_size a_fault a_faultPlace a_many a_lands a_evenings a_sights a_choirs f_reached f_length f_begins f_sort f_value f_word f_wrongAt f_laterFault f_laterPlace a_told a_read f_farHut f_farSinger f_good f_land f_huts f_singers f_evening a_at a_knows a_climbed a_snow a_level f_begun f_minute f_avalanches a_run a_covers a_routes a_longest a_steep a_laid a_far f_sight a_runs f_choir f_voices a_rest a_wins f_seed a_other a_kept H)
    (hS : va_S (mA q) s.heap H locs)
    (hl : lv_has ls 5 [(0, .ref q), (1, .int x1), (2, .int x2), (3, .int x3), (4, .int x4)])
    (hw : q_m_routes_0 f_code a_many a_lands f_land f_huts f_singers a_routes a_longest a_steep a_laid x1 x2 x3 x4 post) :
    W p l e rm_m_routes s m args below meth c H locs 0 0 (MQ below (zQi (S := (Int32) × (Int32) × (Int32) × (Int32) × (Nat → Int32) × (Nat → Int32) × (Nat → Int32) × (Nat → Int32)) (fun r u => post r u.1 u.2.1 u.2.2.1 u.2.2.2.1 u.2.2.2.2.1 u.2.2.2.2.2.1 u.2.2.2.2.2.2.1 u.2.2.2.2.2.2.2) (fun u H => mW E q u.1 a_tape a_size a_fault a_faultPlace a_many a_lands a_evenings a_sights a_choirs f_reached f_length f_begins f_sort f_value f_word f_wrongAt f_laterFault f_laterPlace a_told a_read f_farHut f_farSinger f_good u.2.1 u.2.2.1 u.2.2.2.1 f_evening a_at a_knows a_climbed a_snow a_level f_begun f_minute f_avalanches a_run a_covers u.2.2.2.2.1 u.2.2.2.2.2.1 u.2.2.2.2.2.2.1 u.2.2.2.2.2.2.2 a_far f_sight a_runs f_choir f_voices a_rest a_wins f_seed a_other a_kept H) (mA q)) args s 0 0 (mA q)) (F0 m 0 ls []) := by
  have hx := zc.1
  have hb := zc.2.1
  refine lv_aload_n hx hb dX11_routes_0 rfl (lv_at hl 0 rfl) ?_
  refine lv_iconst (v := (0 : Int32)) hx hb dX11_routes_1 (by decide) ?_
  refine mp_11_97_0 zc hK hM hS dX11_routes_2 (fun H locs hM hS => ?_)
  refine lv_aload_n hx hb dX11_routes_5 rfl (lv_at hl 0 rfl) ?_
  refine lv_iload_n hx hb dX11_routes_6 rfl (lv_at hl 1 rfl) ?_
  refine zVw_i [.int x1] [] zc ky_X11_hand kz_X11_hand km_11_313 (c_m_hand l hw) (mPreV0 hK hM) hS rfl rfl hl.1 (Nat.le_of_ble_eq_true rfl) ⟨rfl, rfl⟩ ⟨Nat.le_of_ble_eq_true rfl, Nat.le_of_ble_eq_true rfl⟩ ⟨(Nat.zero_le _), (Nat.zero_le _)⟩ dX11_routes_7 (fun r_1 u H locs hw hM hS => ?_)
  obtain ⟨f_land_1, f_huts_1, f_singers_1⟩ := u
  refine lv_if_eq (tgt := 44) hx hb dX11_routes_10 (by decide) (fun hc => ?_) (fun hc => ?_)
  · have hw := hw.1 hc
    refine lv_bipush (v := (-2 : Int32)) hx hb dX11_routes_44 (by decide) ?_
    exact zret_iw ⟨(0 : Int32), f_land_1, f_huts_1, f_singers_1, a_routes, a_longest, a_steep, a_laid⟩ zc hS hw hM dX11_routes_46
  · have hw := hw.2 hc
    refine lv_aload_n hx hb dX11_routes_13 rfl (lv_at hl 0 rfl) ?_
    refine lv_iload_n hx hb dX11_routes_14 rfl (lv_at hl 2 rfl) ?_
    refine zV_i [.int x2] [] zc ky_X11_isHut kz_X11_isHut km_11_316 (c_m_isHut l hw) (mPreV0 hK hM) rfl rfl hl.1 (Nat.le_of_ble_eq_true rfl) ⟨rfl, rfl⟩ ⟨Nat.le_of_ble_eq_true rfl, Nat.le_of_ble_eq_true rfl⟩ ⟨(Nat.zero_le _), (Nat.zero_le _)⟩ dX11_routes_15 (fun r_2 hw => ?_)
    refine lv_if_eq (tgt := 44) hx hb dX11_routes_18 (by decide) (fun hc => ?_) (fun hc => ?_)
    · have hw := hw.1 hc
      refine lv_bipush (v := (-2 : Int32)) hx hb dX11_routes_44 (by decide) ?_
      exact zret_iw ⟨(0 : Int32), f_land_1, f_huts_1, f_singers_1, a_routes, a_longest, a_steep, a_laid⟩ zc hS hw hM dX11_routes_46
    · have hw := hw.2 hc
      refine lv_aload_n hx hb dX11_routes_21 rfl (lv_at hl 0 rfl) ?_
      refine lv_iload_n hx hb dX11_routes_22 rfl (lv_at hl 3 rfl) ?_
      refine zV_i [.int x3] [] zc ky_X11_isHut kz_X11_isHut km_11_316 (c_m_isHut l hw) (mPreV0 hK hM) rfl rfl hl.1 (Nat.le_of_ble_eq_true rfl) ⟨rfl, rfl⟩ ⟨Nat.le_of_ble_eq_true rfl, Nat.le_of_ble_eq_true rfl⟩ ⟨(Nat.zero_le _), (Nat.zero_le _)⟩ dX11_routes_23 (fun r_3 hw => ?_)
      refine lv_if_eq (tgt := 44) hx hb dX11_routes_26 (by decide) (fun hc => ?_) (fun hc => ?_)
      · have hw := hw.1 hc
        refine lv_bipush (v := (-2 : Int32)) hx hb dX11_routes_44 (by decide) ?_
        exact zret_iw ⟨(0 : Int32), f_land_1, f_huts_1, f_singers_1, a_routes, a_longest, a_steep, a_laid⟩ zc hS hw hM dX11_routes_46
      · have hw := hw.2 hc
        refine lv_iload_n hx hb dX11_routes_29 rfl (lv_at hl 2 rfl) ?_
        refine lv_iload_n hx hb dX11_routes_30 rfl (lv_at hl 3 rfl) ?_
        refine lv_icmp_eq (tgt := 44) hx hb dX11_routes_31 (by decide) (fun hc => ?_) (fun hc => ?_)
        · have hw := hw.1 hc
          refine lv_bipush (v := (-2 : Int32)) hx hb dX11_routes_44 (by decide) ?_
          exact zret_iw ⟨(0 : Int32), f_land_1, f_huts_1, f_singers_1, a_routes, a_longest, a_steep, a_laid⟩ zc hS hw hM dX11_routes_46
        · have hw := hw.2 hc
          refine lv_iload hx hb dX11_routes_34 (lv_at hl 4 rfl) ?_
          refine lv_iconst (v := (0 : Int32)) hx hb dX11_routes_36 (by decide) ?_
          refine lv_iconst (v := (2 : Int32)) hx hb dX11_routes_37 (by decide) ?_
          refine zS_i [.int x4, .int (0 : Int32), .int (2 : Int32)] [] zc ky_X11_in kz_X11_in km_11_109 (c_m_in l hw) (zPre0 _) rfl rfl hl.1 (Nat.le_of_ble_eq_true rfl) ⟨rfl, rfl⟩ ⟨Nat.le_of_ble_eq_true rfl, Nat.le_of_ble_eq_true rfl⟩ ⟨(Nat.zero_le _), (Nat.zero_le _)⟩ dX11_routes_38 (fun r_4 hw => ?_)
          refine lv_if_ne (tgt := 47) hx hb dX11_routes_41 (by decide) (fun hc => ?_) (fun hc => ?_)
          · have hw := hw.1 hc
            refine lv_aload_n hx hb dX11_routes_47 rfl (lv_at hl 0 rfl) ?_
            refine lv_iload_n hx hb dX11_routes_48 rfl (lv_at hl 2 rfl) ?_
            refine zVw_v [.int x2] [] zc ky_X11_findRoutes kz_X11_findRoutes km_11_447 (c_m_findRoutes l hw) (mPreV0 hK hM) hS rfl rfl hl.1 (Nat.le_of_ble_eq_true rfl) ⟨rfl, rfl⟩ ⟨Nat.le_of_ble_eq_true rfl, Nat.le_of_ble_eq_true rfl⟩ ⟨(Nat.zero_le _), (Nat.zero_le _)⟩ dX11_routes_49 (fun u H locs hw hM hS => ?_)
            obtain ⟨a_routes_1, a_longest_1, a_steep_1, a_laid_1⟩ := u
            refine lv_iload hx hb dX11_routes_52 (lv_at hl 4 rfl) ?_
            refine lv_if_ne (tgt := 66) hx hb dX11_routes_54 (by decide) (fun hc => ?_) (fun hc => ?_)
            · have hw := hw.1 hc
              refine lv_aload_n hx hb dX11_routes_66 rfl (lv_at hl 0 rfl) ?_
              refine mg_11_65_0 zc hK hM dX11_routes_67 ?_
              refine lv_iload_n hx hb dX11_routes_70 rfl (lv_at hl 3 rfl) ?_
              refine mld_19 zc hK hM hw.1 dX11_routes_71 ?_
              have hw := hw.2
              refine lv_if_ne (tgt := 79) hx hb dX11_routes_72 (by decide) (fun hc => ?_) (fun hc => ?_)
              · have hw := hw.1 hc
                refine lv_iload hx hb dX11_routes_79 (lv_at hl 4 rfl) ?_
                refine lv_iconst (v := (1 : Int32)) hx hb dX11_routes_81 (by decide) ?_
                refine lv_icmp_ne (tgt := 94) hx hb dX11_routes_82 (by decide) (fun hc => ?_) (fun hc => ?_)
                · have hw := hw.1 hc
                  refine lv_aload_n hx hb dX11_routes_94 rfl (lv_at hl 0 rfl) ?_
                  refine mg_11_71_0 zc hK hM dX11_routes_95 ?_
                  refine lv_iload_n hx hb dX11_routes_98 rfl (lv_at hl 3 rfl) ?_
                  refine mld_21 zc hK hM hw.1 dX11_routes_99 ?_
                  have hw := hw.2
                  exact zret_iw ⟨(0 : Int32), f_land_1, f_huts_1, f_singers_1, a_routes_1, a_longest_1, a_steep_1, a_laid_1⟩ zc hS hw hM dX11_routes_100
                · have hw := hw.2 hc
                  refine lv_aload_n hx hb dX11_routes_85 rfl (lv_at hl 0 rfl) ?_
                  refine mg_11_68_0 zc hK hM dX11_routes_86 ?_
                  refine lv_iload_n hx hb dX11_routes_89 rfl (lv_at hl 3 rfl) ?_
                  refine mld_20 zc hK hM hw.1 dX11_routes_90 ?_
                  have hw := hw.2
                  refine lv_goto (tgt := 100) hx hb dX11_routes_91 (by decide) ?_
                  exact zret_iw ⟨(0 : Int32), f_land_1, f_huts_1, f_singers_1, a_routes_1, a_longest_1, a_steep_1, a_laid_1⟩ zc hS hw hM dX11_routes_100
              · have hw := hw.2 hc
                refine lv_iconst (v := (-1 : Int32)) hx hb dX11_routes_75 (by decide) ?_
                refine lv_goto (tgt := 100) hx hb dX11_routes_76 (by decide) ?_
                exact zret_iw ⟨(0 : Int32), f_land_1, f_huts_1, f_singers_1, a_routes_1, a_longest_1, a_steep_1, a_laid_1⟩ zc hS hw hM dX11_routes_100
            · have hw := hw.2 hc
              refine lv_aload_n hx hb dX11_routes_57 rfl (lv_at hl 0 rfl) ?_
              refine mg_11_65_0 zc hK hM dX11_routes_58 ?_
              refine lv_iload_n hx hb dX11_routes_61 rfl (lv_at hl 3 rfl) ?_
              refine mld_19 zc hK hM hw.1 dX11_routes_62 ?_
              have hw := hw.2
              refine lv_goto (tgt := 100) hx hb dX11_routes_63 (by decide) ?_
              exact zret_iw ⟨(0 : Int32), f_land_1, f_huts_1, f_singers_1, a_routes_1, a_longest_1, a_steep_1, a_laid_1⟩ zc hS hw hM dX11_routes_100
          · have hw := hw.2 hc
            refine lv_bipush (v := (-2 : Int32)) hx hb dX11_routes_44 (by decide) ?_
            exact zret_iw ⟨(0 : Int32), f_land_1, f_huts_1, f_singers_1, a_routes, a_longest, a_steep, a_laid⟩ zc hS hw hM dX11_routes_46
set_option maxRecDepth 20000 in
theorem c_m_routes (l : Launch) {E : zE} {q : Nat} {f_code : Int32} {a_tape : Nat → Int32} {a_size : Nat → Int32} {a_fault : Nat → Int32} {a_faultPlace : Nat → Int32} {a_many : Nat → Int32} {a_lands : Nat → Int32} {a_evenings : Nat → Int32} {a_sights : Nat → Int32} {a_choirs : Nat → Int32} {f_reached : Int32} {f_length : Int32} {f_begins : Int32} {f_sort : Int32} {f_value : Int32} {f_word : Int64} {f_wrongAt : Int32} {f_laterFault : Int32} {f_laterPlace : Int32} {a_told : Nat → Int32} {a_read : Nat → Int32} {f_farHut : Int32} {f_farSinger : Int32} {f_good : Int32} {f_land : Int32} {f_huts : Int32} {f_singers : Int32} {f_evening : Int32} {a_at : Nat → Int32} {a_knows : Nat → Int32} {a_climbed : Nat → Int32} {a_snow : Nat → Int32} {a_level : Nat → Int32} {f_begun : Int32} {f_minute : Int32} {f_avalanches : Int32} {a_run : Nat → Int32} {a_covers : Nat → Int32} {a_routes : Nat → Int32} {a_longest : Nat → Int32} {a_steep : Nat → Int32} {a_laid : Nat → Int32} {a_far : Nat → Int32} {f_sight : Int32} {a_runs : Nat → Int32} {f_choir : Int32} {f_voices : Int32} {a_rest : Nat → Int64} {a_wins : Nat → Int32} {f_seed : Int32} {a_other : Nat → Int32} {a_kept : Nat → Int32} {x1 : Int32} {x2 : Int32} {x3 : Int32} {x4 : Int32} {post : Int32 → (Int32) → (Int32) → (Int32) → (Int32) → (Nat → Int32) → (Nat → Int32) → (Nat → Int32) → (Nat → Int32) → Prop} (hw : q_m_routes_0 f_code a_many a_lands f_land f_huts f_singers a_routes a_longest a_steep a_laid x1 x2 x3 x4 post) : Met l yX11_routes (Cond.code yX11_routes cX11_routes 5 (some .int) :: zb) rm_m_routes (va_Pc [.ref q, .int x1, .int x2, .int x3, .int x4] (fun U => mW E q f_code a_tape a_size a_fault a_faultPlace a_many a_lands a_evenings a_sights a_choirs f_reached f_length f_begins f_sort f_value f_word f_wrongAt f_laterFault f_laterPlace a_told a_read f_farHut f_farSinger f_good f_land f_huts f_singers f_evening a_at a_knows a_climbed a_snow a_level f_begun f_minute f_avalanches a_run a_covers a_routes a_longest a_steep a_laid a_far f_sight a_runs f_choir f_voices a_rest a_wins f_seed a_other a_kept U.heap ∧ zK E U)) (zQi (S := (Int32) × (Int32) × (Int32) × (Int32) × (Nat → Int32) × (Nat → Int32) × (Nat → Int32) × (Nat → Int32)) (fun r u => post r u.1 u.2.1 u.2.2.1 u.2.2.2.1 u.2.2.2.2.1 u.2.2.2.2.2.1 u.2.2.2.2.2.2.1 u.2.2.2.2.2.2.2) (fun u H => mW E q u.1 a_tape a_size a_fault a_faultPlace a_many a_lands a_evenings a_sights a_choirs f_reached f_length f_begins f_sort f_value f_word f_wrongAt f_laterFault f_laterPlace a_told a_read f_farHut f_farSinger f_good u.2.1 u.2.2.1 u.2.2.2.1 f_evening a_at a_knows a_climbed a_snow a_level f_begun f_minute f_avalanches a_run a_covers u.2.2.2.2.1 u.2.2.2.2.2.1 u.2.2.2.2.2.2.1 u.2.2.2.2.2.2.2 a_far f_sight a_runs f_choir f_voices a_rest a_wins f_seed a_other a_kept H) (mA q)) 0 0 (mA q) := by
  refine Met.ofW (cc := cX11_routes) (maxL := 5) (ret := (some .int)) (by decide) rfl ?_
  intro p e s m args below meth c s₁ B hml hv
  obtain ⟨rfl, hM, hK⟩ := hv
  have zc := zc_of B hml
  have hl := lv_entry ([.ref q, .int x1, .int x2, .int x3, .int x4]) (n := 5) (Nat.le_of_ble_eq_true rfl)
  rw [lg_entry_eq]
  generalize (lg_sl ([.ref q, .int x1, .int x2, .int x3, .int x4]) ++ List.replicate (5 - (lg_sl ([.ref q, .int x1, .int x2, .int x3, .int x4])).length) Slot.unset).toArray = ls at hl ⊢
  have hl : lv_has ls 5 [(0, .ref q), (1, .int x1), (2, .int x2), (3, .int x3), (4, .int x4)] := hl
  exact t_m_routes_0 zc hK hM va_S.rf (lv_sub hl [0, 1, 2, 3, 4] rfl) hw
-- m_mutesOf
abbrev rm_m_mutesOf : Room := { frames := 3, cells := 0, slots := 0, locals := 70 }
def q_m_mutesOf_0 (a_lands : Nat → Int32) (f_land : Int32) (f_huts : Int32) (a_run : Nat → Int32) (x1 : Int32) (x2 : Int32) (post : Int32 → (Nat → Int32) → Prop) : Prop :=
  q_m_findRun_0 a_lands f_land f_huts a_run x1 (0 : Int32) (fun a_run_1 => q_m_comesBy_0 f_huts a_run_1 (999999 : Int32) (fun r_1 => q_m_findRun_0 a_lands f_land f_huts a_run_1 x1 ((1 : Int32) <<< (x2 &&& 31)) (fun a_run_2 => q_m_comesBy_0 f_huts a_run_2 (999999 : Int32) (fun r_2 => q_m_ones_0 (((r_1 &&& (r_2 ^^^ (-1 : Int32))) &&& (((1 : Int32) <<< (x1 &&& 31)) ^^^ (-1 : Int32))) &&& (((1 : Int32) <<< (x2 &&& 31)) ^^^ (-1 : Int32))) (fun r_3 => post r_3 a_run_2)))))
set_option maxRecDepth 20000 in
theorem t_m_mutesOf_0 {p : Program} {l : Launch} {e : Env} {s : State} {m : MethodId} {args : Array Value} {below : List Frame} {meth : Method} {c : Code} {E : zE} {q : Nat} {f_code : Int32} {a_tape : Nat → Int32} {a_size : Nat → Int32} {a_fault : Nat → Int32} {a_faultPlace : Nat → Int32} {a_many : Nat → Int32} {a_lands : Nat → Int32} {a_evenings : Nat → Int32} {a_sights : Nat → Int32} {a_choirs : Nat → Int32} {f_reached : Int32} {f_length : Int32} {f_begins : Int32} {f_sort : Int32} {f_value : Int32} {f_word : Int64} {f_wrongAt : Int32} {f_laterFault : Int32} {f_laterPlace : Int32} {a_told : Nat → Int32} {a_read : Nat → Int32} {f_farHut : Int32} {f_farSinger : Int32} {f_good : Int32} {f_land : Int32} {f_huts : Int32} {f_singers : Int32} {f_evening : Int32} {a_at : Nat → Int32} {a_knows : Nat → Int32} {a_climbed : Nat → Int32} {a_snow : Nat → Int32} {a_level : Nat → Int32} {f_begun : Int32} {f_minute : Int32} {f_avalanches : Int32} {a_run : Nat → Int32} {a_covers : Nat → Int32} {a_routes : Nat → Int32} {a_longest : Nat → Int32} {a_steep : Nat → Int32} {a_laid : Nat → Int32} {a_far : Nat → Int32} {f_sight : Int32} {a_runs : Nat → Int32} {f_choir : Int32} {f_voices : Int32} {a_rest : Nat → Int64} {a_wins : Nat → Int32} {f_seed : Int32} {a_other : Nat → Int32} {a_kept : Nat → Int32} {post : Int32 → (Nat → Int32) → Prop} {x1 : Int32} {x2 : Int32} {ls : Array Slot} {H : Heap} {locs : List Loc}
    (zc : zC p s m args meth c cX11_mutesOf 4 RX11 (some .int))
    (hK : zK E s)
    (hM : mW E q f_code a_tape a_size a_fault a_faultPlace a_many a_lands a_evenings a_sights a_choirs f_reached f_length f_begins f_sort f_value f_word f_wrongAt f_laterFault f_laterPlace a_told a_read f_farHut f_farSinger f_good f_land f_huts f_singers f_evening a_at a_knows a_climbed a_snow a_level f_begun f_minute f_avalanches a_run a_covers a_routes a_longest a_steep a_laid a_far f_sight a_runs f_choir f_voices a_rest a_wins f_seed a_other a_kept H)
    (hS : va_S (mA q) s.heap H locs)
    (hl : lv_has ls 4 [(0, .ref q), (1, .int x1), (2, .int x2)])
    (hw : q_m_mutesOf_0 a_lands f_land f_huts a_run x1 x2 post) :
    W p l e rm_m_mutesOf s m args below meth c H locs 0 0 (MQ below (zQi (S := (Nat → Int32)) (fun r u => post r u) (fun u H => mW E q f_code a_tape a_size a_fault a_faultPlace a_many a_lands a_evenings a_sights a_choirs f_reached f_length f_begins f_sort f_value f_word f_wrongAt f_laterFault f_laterPlace a_told a_read f_farHut f_farSinger f_good f_land f_huts f_singers f_evening a_at a_knows a_climbed a_snow a_level f_begun f_minute f_avalanches u a_covers a_routes a_longest a_steep a_laid a_far f_sight a_runs f_choir f_voices a_rest a_wins f_seed a_other a_kept H) (mA q)) args s 0 0 (mA q)) (F0 m 0 ls []) := by
  have hx := zc.1
  have hb := zc.2.1
  refine lv_aload_n hx hb dX11_mutesOf_0 rfl (lv_at hl 0 rfl) ?_
  refine lv_iload_n hx hb dX11_mutesOf_1 rfl (lv_at hl 1 rfl) ?_
  refine lv_iconst (v := (0 : Int32)) hx hb dX11_mutesOf_2 (by decide) ?_
  refine zVw_v [.int x1, .int (0 : Int32)] [] zc ky_X11_findRun kz_X11_findRun km_11_414 (c_m_findRun l hw) (mPreV0 hK hM) hS rfl rfl hl.1 (Nat.le_of_ble_eq_true rfl) ⟨rfl, rfl⟩ ⟨Nat.le_of_ble_eq_true rfl, Nat.le_of_ble_eq_true rfl⟩ ⟨(Nat.zero_le _), (Nat.zero_le _)⟩ dX11_mutesOf_3 (fun a_run_1 H locs hw hM hS => ?_)
  refine lv_aload_n hx hb dX11_mutesOf_6 rfl (lv_at hl 0 rfl) ?_
  refine lv_ldcw (v := (999999 : Int32)) hx hb zc.2.2.2.1 (zc.2.2.2.2.1 _ kc_11_450) dX11_mutesOf_7 ?_
  refine zV_i [.int (999999 : Int32)] [] zc ky_X11_comesBy kz_X11_comesBy km_11_423 (c_m_comesBy l hw) (mPreV0 hK hM) rfl rfl hl.1 (Nat.le_of_ble_eq_true rfl) ⟨rfl, rfl⟩ ⟨Nat.le_of_ble_eq_true rfl, Nat.le_of_ble_eq_true rfl⟩ ⟨(Nat.zero_le _), (Nat.zero_le _)⟩ dX11_mutesOf_10 (fun r_1 hw => ?_)
  refine lv_istore_n (lv' := [(3, .int r_1), (0, .ref q), (1, .int x1), (2, .int x2)]) hx hb dX11_mutesOf_13 rfl hl (by decide) rfl (fun ls hl => ?_)
  refine lv_aload_n hx hb dX11_mutesOf_14 rfl (lv_at hl 1 rfl) ?_
  refine lv_iload_n hx hb dX11_mutesOf_15 rfl (lv_at hl 2 rfl) ?_
  refine lv_iconst (v := (1 : Int32)) hx hb dX11_mutesOf_16 (by decide) ?_
  refine lv_iload_n hx hb dX11_mutesOf_17 rfl (lv_at hl 3 rfl) ?_
  refine lv_ishl hx hb dX11_mutesOf_18 ?_
  refine zVw_v [.int x1, .int ((1 : Int32) <<< (x2 &&& 31))] [] zc ky_X11_findRun kz_X11_findRun km_11_414 (c_m_findRun l hw) (mPreV0 hK hM) hS rfl rfl hl.1 (Nat.le_of_ble_eq_true rfl) ⟨rfl, rfl⟩ ⟨Nat.le_of_ble_eq_true rfl, Nat.le_of_ble_eq_true rfl⟩ ⟨(Nat.zero_le _), (Nat.zero_le _)⟩ dX11_mutesOf_19 (fun a_run_2 H locs hw hM hS => ?_)
  refine lv_iload_n hx hb dX11_mutesOf_22 rfl (lv_at hl 0 rfl) ?_
  refine lv_aload_n hx hb dX11_mutesOf_23 rfl (lv_at hl 1 rfl) ?_
  refine lv_ldcw (v := (999999 : Int32)) hx hb zc.2.2.2.1 (zc.2.2.2.2.1 _ kc_11_450) dX11_mutesOf_24 ?_
  refine zV_i [.int (999999 : Int32)] [.int r_1] zc ky_X11_comesBy kz_X11_comesBy km_11_423 (c_m_comesBy l hw) (mPreV0 hK hM) rfl rfl hl.1 (Nat.le_of_ble_eq_true rfl) ⟨rfl, rfl⟩ ⟨Nat.le_of_ble_eq_true rfl, Nat.le_of_ble_eq_true rfl⟩ ⟨(Nat.zero_le _), (Nat.zero_le _)⟩ dX11_mutesOf_27 (fun r_2 hw => ?_)
  refine lv_iconst (v := (-1 : Int32)) hx hb dX11_mutesOf_30 (by decide) ?_
  refine lv_ixor hx hb dX11_mutesOf_31 ?_
  refine lv_iand hx hb dX11_mutesOf_32 ?_
  refine lv_iconst (v := (1 : Int32)) hx hb dX11_mutesOf_33 (by decide) ?_
  refine lv_iload_n hx hb dX11_mutesOf_34 rfl (lv_at hl 2 rfl) ?_
  refine lv_ishl hx hb dX11_mutesOf_35 ?_
  refine lv_iconst (v := (-1 : Int32)) hx hb dX11_mutesOf_36 (by decide) ?_
  refine lv_ixor hx hb dX11_mutesOf_37 ?_
  refine lv_iand hx hb dX11_mutesOf_38 ?_
  refine lv_iconst (v := (1 : Int32)) hx hb dX11_mutesOf_39 (by decide) ?_
  refine lv_iload_n hx hb dX11_mutesOf_40 rfl (lv_at hl 3 rfl) ?_
  refine lv_ishl hx hb dX11_mutesOf_41 ?_
  refine lv_iconst (v := (-1 : Int32)) hx hb dX11_mutesOf_42 (by decide) ?_
  refine lv_ixor hx hb dX11_mutesOf_43 ?_
  refine lv_iand hx hb dX11_mutesOf_44 ?_
  refine zS_i [.int (((r_1 &&& (r_2 ^^^ (-1 : Int32))) &&& (((1 : Int32) <<< (x1 &&& 31)) ^^^ (-1 : Int32))) &&& (((1 : Int32) <<< (x2 &&& 31)) ^^^ (-1 : Int32)))] [] zc ky_X11_ones kz_X11_ones km_11_429 (c_m_ones l hw) (zPre0 _) rfl rfl hl.1 (Nat.le_of_ble_eq_true rfl) ⟨rfl, rfl⟩ ⟨Nat.le_of_ble_eq_true rfl, Nat.le_of_ble_eq_true rfl⟩ ⟨(Nat.zero_le _), (Nat.zero_le _)⟩ dX11_mutesOf_45 (fun r_3 hw => ?_)
  exact zret_iw a_run_2 zc hS hw hM dX11_mutesOf_48
set_option maxRecDepth 20000 in
theorem c_m_mutesOf (l : Launch) {E : zE} {q : Nat} {f_code : Int32} {a_tape : Nat → Int32} {a_size : Nat → Int32} {a_fault : Nat → Int32} {a_faultPlace : Nat → Int32} {a_many : Nat → Int32} {a_lands : Nat → Int32} {a_evenings : Nat → Int32} {a_sights : Nat → Int32} {a_choirs : Nat → Int32} {f_reached : Int32} {f_length : Int32} {f_begins : Int32} {f_sort : Int32} {f_value : Int32} {f_word : Int64} {f_wrongAt : Int32} {f_laterFault : Int32} {f_laterPlace : Int32} {a_told : Nat → Int32} {a_read : Nat → Int32} {f_farHut : Int32} {f_farSinger : Int32} {f_good : Int32} {f_land : Int32} {f_huts : Int32} {f_singers : Int32} {f_evening : Int32} {a_at : Nat → Int32} {a_knows : Nat → Int32} {a_climbed : Nat → Int32} {a_snow : Nat → Int32} {a_level : Nat → Int32} {f_begun : Int32} {f_minute : Int32} {f_avalanches : Int32} {a_run : Nat → Int32} {a_covers : Nat → Int32} {a_routes : Nat → Int32} {a_longest : Nat → Int32} {a_steep : Nat → Int32} {a_laid : Nat → Int32} {a_far : Nat → Int32} {f_sight : Int32} {a_runs : Nat → Int32} {f_choir : Int32} {f_voices : Int32} {a_rest : Nat → Int64} {a_wins : Nat → Int32} {f_seed : Int32} {a_other : Nat → Int32} {a_kept : Nat → Int32} {x1 : Int32} {x2 : Int32} {post : Int32 → (Nat → Int32) → Prop} (hw : q_m_mutesOf_0 a_lands f_land f_huts a_run x1 x2 post) : Met l yX11_mutesOf (Cond.code yX11_mutesOf cX11_mutesOf 4 (some .int) :: zb) rm_m_mutesOf (va_Pc [.ref q, .int x1, .int x2] (fun U => mW E q f_code a_tape a_size a_fault a_faultPlace a_many a_lands a_evenings a_sights a_choirs f_reached f_length f_begins f_sort f_value f_word f_wrongAt f_laterFault f_laterPlace a_told a_read f_farHut f_farSinger f_good f_land f_huts f_singers f_evening a_at a_knows a_climbed a_snow a_level f_begun f_minute f_avalanches a_run a_covers a_routes a_longest a_steep a_laid a_far f_sight a_runs f_choir f_voices a_rest a_wins f_seed a_other a_kept U.heap ∧ zK E U)) (zQi (S := (Nat → Int32)) (fun r u => post r u) (fun u H => mW E q f_code a_tape a_size a_fault a_faultPlace a_many a_lands a_evenings a_sights a_choirs f_reached f_length f_begins f_sort f_value f_word f_wrongAt f_laterFault f_laterPlace a_told a_read f_farHut f_farSinger f_good f_land f_huts f_singers f_evening a_at a_knows a_climbed a_snow a_level f_begun f_minute f_avalanches u a_covers a_routes a_longest a_steep a_laid a_far f_sight a_runs f_choir f_voices a_rest a_wins f_seed a_other a_kept H) (mA q)) 0 0 (mA q) := by
  refine Met.ofW (cc := cX11_mutesOf) (maxL := 4) (ret := (some .int)) (by decide) rfl ?_
  intro p e s m args below meth c s₁ B hml hv
  obtain ⟨rfl, hM, hK⟩ := hv
  have zc := zc_of B hml
  have hl := lv_entry ([.ref q, .int x1, .int x2]) (n := 4) (Nat.le_of_ble_eq_true rfl)
  rw [lg_entry_eq]
  generalize (lg_sl ([.ref q, .int x1, .int x2]) ++ List.replicate (4 - (lg_sl ([.ref q, .int x1, .int x2])).length) Slot.unset).toArray = ls at hl ⊢
  have hl : lv_has ls 4 [(0, .ref q), (1, .int x1), (2, .int x2)] := hl
  exact t_m_mutesOf_0 zc hK hM va_S.rf (lv_sub hl [0, 1, 2] rfl) hw
-- m_mutes
abbrev rm_m_mutes : Room := { frames := 4, cells := 0, slots := 0, locals := 93 }
def q_m_mutes_130 (P79 : Int32 → Int32 → Int32 → (Nat → Int32) → Prop) (f_code : Int32) (a_many : Nat → Int32) (a_lands : Nat → Int32) (f_land : Int32) (f_huts : Int32) (f_singers : Int32) (a_run : Nat → Int32) (x2 : Int32) (x5 : Int32) (x6 : Int32) (x7 : Int32) (y0 : Int32) (post : Int32 → (Int32) → (Int32) → (Int32) → (Int32) → (Nat → Int32) → Prop) : Prop :=
  q_m_greater_0 x5 x7 (fun r_1 => ∀ v_1 : Int32, v_1 = x6 + (1 : Int32) → (P79 y0 r_1 v_1 a_run))
def q_m_mutes_114 (P79 : Int32 → Int32 → Int32 → (Nat → Int32) → Prop) (f_code : Int32) (a_many : Nat → Int32) (a_lands : Nat → Int32) (f_land : Int32) (f_huts : Int32) (f_singers : Int32) (a_run : Nat → Int32) (x2 : Int32) (x4 : Int32) (x5 : Int32) (x6 : Int32) (y0 : Int32) (post : Int32 → (Int32) → (Int32) → (Int32) → (Int32) → (Nat → Int32) → Prop) : Prop :=
  (y0 ≤ x5 → (q_m_mutes_130 P79 f_code a_many a_lands f_land f_huts f_singers a_run x2 x5 x6 y0 x4 post)) ∧ (¬ y0 ≤ x5 → (q_m_mutes_130 P79 f_code a_many a_lands f_land f_huts f_singers a_run x2 x5 x6 y0 x6 post))
def q_m_mutes_103 (P79 : Int32 → Int32 → Int32 → (Nat → Int32) → Prop) (f_code : Int32) (a_many : Nat → Int32) (a_lands : Nat → Int32) (f_land : Int32) (f_huts : Int32) (f_singers : Int32) (a_run : Nat → Int32) (x2 : Int32) (x4 : Int32) (x5 : Int32) (x6 : Int32) (post : Int32 → (Int32) → (Int32) → (Int32) → (Int32) → (Nat → Int32) → Prop) : Prop :=
  q_m_mutes_114 P79 f_code a_many a_lands f_land f_huts f_singers a_run x2 x4 x5 x6 (-1 : Int32) post
def q_m_mutes_79 (f_code : Int32) (a_many : Nat → Int32) (a_lands : Nat → Int32) (f_land : Int32) (f_huts : Int32) (f_singers : Int32) (a_run : Nat → Int32) (x2 : Int32) (x4 : Int32) (x5 : Int32) (x6 : Int32) (post : Int32 → (Int32) → (Int32) → (Int32) → (Int32) → (Nat → Int32) → Prop) : Prop :=
  ∀ P79 : Int32 → Int32 → Int32 → (Nat → Int32) → Prop, (∀ (x4 : Int32) (x5 : Int32) (x6 : Int32) (a_run : Nat → Int32), ((f_huts ≤ x6 → (post x4 f_code f_land f_huts f_singers a_run)) ∧ (¬ f_huts ≤ x6 → ((x6 = x2 → (q_m_mutes_103 P79 f_code a_many a_lands f_land f_huts f_singers a_run x2 x4 x5 x6 post)) ∧ (¬ x6 = x2 → (q_m_isDam_0 a_lands f_land x6 (fun r_1 => (r_1 = 0 → (q_m_mutesOf_0 a_lands f_land f_huts a_run x2 x6 (fun r_2 a_run_1 => q_m_mutes_114 P79 f_code a_many a_lands f_land f_huts f_singers a_run_1 x2 x4 x5 x6 r_2 post))) ∧ (¬ r_1 = 0 → (q_m_mutes_103 P79 f_code a_many a_lands f_land f_huts f_singers a_run x2 x4 x5 x6 post)))))))) → P79 x4 x5 x6 a_run) → P79 x4 x5 x6 a_run
def q_m_mutes_58 (f_code : Int32) (a_many : Nat → Int32) (a_lands : Nat → Int32) (f_land : Int32) (f_huts : Int32) (f_singers : Int32) (a_run : Nat → Int32) (x2 : Int32) (x3 : Int32) (post : Int32 → (Int32) → (Int32) → (Int32) → (Int32) → (Nat → Int32) → Prop) : Prop :=
  (x3 = (-1 : Int32) → (q_m_mutes_79 f_code a_many a_lands f_land f_huts f_singers a_run x2 (-1 : Int32) (-1 : Int32) (0 : Int32) post)) ∧ (¬ x3 = (-1 : Int32) → (q_m_mutesOf_0 a_lands f_land f_huts a_run x2 x3 (fun r_1 a_run_1 => post r_1 f_code f_land f_huts f_singers a_run_1)))
def q_m_mutes_0 (f_code : Int32) (a_many : Nat → Int32) (a_lands : Nat → Int32) (f_land : Int32) (f_huts : Int32) (f_singers : Int32) (a_run : Nat → Int32) (x1 : Int32) (x2 : Int32) (x3 : Int32) (post : Int32 → (Int32) → (Int32) → (Int32) → (Int32) → (Nat → Int32) → Prop) : Prop :=
  q_m_hand_0 a_many a_lands f_land f_huts f_singers x1 (fun r_1 f_land_1 f_huts_1 f_singers_1 => (r_1 = 0 → (post (-2 : Int32) (0 : Int32) f_land_1 f_huts_1 f_singers_1 a_run)) ∧ (¬ r_1 = 0 → (q_m_isHut_0 f_huts_1 x2 (fun r_2 => (r_2 = 0 → (post (-2 : Int32) (0 : Int32) f_land_1 f_huts_1 f_singers_1 a_run)) ∧ (¬ r_2 = 0 → (q_m_isDam_0 a_lands f_land_1 x2 (fun r_3 => (¬ r_3 = 0 → (post (-2 : Int32) (0 : Int32) f_land_1 f_huts_1 f_singers_1 a_run)) ∧ (r_3 = 0 → ((x3 = (-1 : Int32) → (q_m_mutes_58 (0 : Int32) a_many a_lands f_land_1 f_huts_1 f_singers_1 a_run x2 x3 post)) ∧ (¬ x3 = (-1 : Int32) → (q_m_isHut_0 f_huts_1 x3 (fun r_4 => (r_4 = 0 → (post (-2 : Int32) (0 : Int32) f_land_1 f_huts_1 f_singers_1 a_run)) ∧ (¬ r_4 = 0 → (q_m_isDam_0 a_lands f_land_1 x3 (fun r_5 => (¬ r_5 = 0 → (post (-2 : Int32) (0 : Int32) f_land_1 f_huts_1 f_singers_1 a_run)) ∧ (r_5 = 0 → ((¬ x3 = x2 → (q_m_mutes_58 (0 : Int32) a_many a_lands f_land_1 f_huts_1 f_singers_1 a_run x2 x3 post)) ∧ (x3 = x2 → (post (-2 : Int32) (0 : Int32) f_land_1 f_huts_1 f_singers_1 a_run)))))))))))))))))))
set_option maxRecDepth 20000 in
theorem t_m_mutes_130 {p : Program} {l : Launch} {e : Env} {s : State} {m : MethodId} {args : Array Value} {below : List Frame} {meth : Method} {c : Code} {E : zE} {q : Nat} {f_code : Int32} {a_tape : Nat → Int32} {a_size : Nat → Int32} {a_fault : Nat → Int32} {a_faultPlace : Nat → Int32} {a_many : Nat → Int32} {a_lands : Nat → Int32} {a_evenings : Nat → Int32} {a_sights : Nat → Int32} {a_choirs : Nat → Int32} {f_reached : Int32} {f_length : Int32} {f_begins : Int32} {f_sort : Int32} {f_value : Int32} {f_word : Int64} {f_wrongAt : Int32} {f_laterFault : Int32} {f_laterPlace : Int32} {a_told : Nat → Int32} {a_read : Nat → Int32} {f_farHut : Int32} {f_farSinger : Int32} {f_good : Int32} {f_land : Int32} {f_huts : Int32} {f_singers : Int32} {f_evening : Int32} {a_at : Nat → Int32} {a_knows : Nat → Int32} {a_climbed : Nat → Int32} {a_snow : Nat → Int32} {a_level : Nat → Int32} {f_begun : Int32} {f_minute : Int32} {f_avalanches : Int32} {a_run : Nat → Int32} {a_covers : Nat → Int32} {a_routes : Nat → Int32} {a_longest : Nat → Int32} {a_steep : Nat → Int32} {a_laid : Nat → Int32} {a_far : Nat → Int32} {f_sight : Int32} {a_runs : Nat → Int32} {f_choir : Int32} {f_voices : Int32} {a_rest : Nat → Int64} {a_wins : Nat → Int32} {f_seed : Int32} {a_other : Nat → Int32} {a_kept : Nat → Int32} {P79 : Int32 → Int32 → Int32 → (Nat → Int32) → Prop} {post : Int32 → (Int32) → (Int32) → (Int32) → (Int32) → (Nat → Int32) → Prop} {x2 : Int32} {x5 : Int32} {x6 : Int32} {x7 : Int32} {y0 : Int32} {ls : Array Slot} {H : Heap} {locs : List Loc}
    (zc : zC p s m args meth c cX11_mutes 8 RX11 (some .int))
    (hK : zK E s)
    (hM : mW E q f_code a_tape a_size a_fault a_faultPlace a_many a_lands a_evenings a_sights a_choirs f_reached f_length f_begins f_sort f_value f_word f_wrongAt f_laterFault f_laterPlace a_told a_read f_farHut f_farSinger f_good f_land f_huts f_singers f_evening a_at a_knows a_climbed a_snow a_level f_begun f_minute f_avalanches a_run a_covers a_routes a_longest a_steep a_laid a_far f_sight a_runs f_choir f_voices a_rest a_wins f_seed a_other a_kept H)
    (hS : va_S (mA q) s.heap H locs)
    (hP79 : ∀ (x4 : Int32) (x5 : Int32) (x6 : Int32) (a_run : Nat → Int32) (H : Heap) (locs : List Loc) (ls : Array Slot), P79 x4 x5 x6 a_run → lv_has ls 8 [(0, .ref q), (2, .int x2), (4, .int x4), (5, .int x5), (6, .int x6)] → mW E q f_code a_tape a_size a_fault a_faultPlace a_many a_lands a_evenings a_sights a_choirs f_reached f_length f_begins f_sort f_value f_word f_wrongAt f_laterFault f_laterPlace a_told a_read f_farHut f_farSinger f_good f_land f_huts f_singers f_evening a_at a_knows a_climbed a_snow a_level f_begun f_minute f_avalanches a_run a_covers a_routes a_longest a_steep a_laid a_far f_sight a_runs f_choir f_voices a_rest a_wins f_seed a_other a_kept H → va_S (mA q) s.heap H locs → W p l e rm_m_mutes s m args below meth c H locs 0 0 (MQ below (zQi (S := (Int32) × (Int32) × (Int32) × (Int32) × (Nat → Int32)) (fun r u => post r u.1 u.2.1 u.2.2.1 u.2.2.2.1 u.2.2.2.2) (fun u H => mW E q u.1 a_tape a_size a_fault a_faultPlace a_many a_lands a_evenings a_sights a_choirs f_reached f_length f_begins f_sort f_value f_word f_wrongAt f_laterFault f_laterPlace a_told a_read f_farHut f_farSinger f_good u.2.1 u.2.2.1 u.2.2.2.1 f_evening a_at a_knows a_climbed a_snow a_level f_begun f_minute f_avalanches u.2.2.2.2 a_covers a_routes a_longest a_steep a_laid a_far f_sight a_runs f_choir f_voices a_rest a_wins f_seed a_other a_kept H) (mA q)) args s 0 0 (mA q)) (F0 m 79 ls []))
    (hl : lv_has ls 8 [(0, .ref q), (2, .int x2), (5, .int x5), (6, .int x6), (7, .int x7)])
    (hw : q_m_mutes_130 P79 f_code a_many a_lands f_land f_huts f_singers a_run x2 x5 x6 x7 y0 post) :
    W p l e rm_m_mutes s m args below meth c H locs 0 0 (MQ below (zQi (S := (Int32) × (Int32) × (Int32) × (Int32) × (Nat → Int32)) (fun r u => post r u.1 u.2.1 u.2.2.1 u.2.2.2.1 u.2.2.2.2) (fun u H => mW E q u.1 a_tape a_size a_fault a_faultPlace a_many a_lands a_evenings a_sights a_choirs f_reached f_length f_begins f_sort f_value f_word f_wrongAt f_laterFault f_laterPlace a_told a_read f_farHut f_farSinger f_good u.2.1 u.2.2.1 u.2.2.2.1 f_evening a_at a_knows a_climbed a_snow a_level f_begun f_minute f_avalanches u.2.2.2.2 a_covers a_routes a_longest a_steep a_laid a_far f_sight a_runs f_choir f_voices a_rest a_wins f_seed a_other a_kept H) (mA q)) args s 0 0 (mA q)) (F0 m 130 ls [.int y0]) := by
  have hx := zc.1
  have hb := zc.2.1
  refine lv_istore (lv' := [(4, .int y0), (0, .ref q), (2, .int x2), (5, .int x5), (6, .int x6), (7, .int x7)]) hx hb dX11_mutes_130 hl (by decide) rfl (fun ls hl => ?_)
  refine lv_iload hx hb dX11_mutes_132 (lv_at hl 3 rfl) ?_
  refine lv_iload hx hb dX11_mutes_134 (lv_at hl 5 rfl) ?_
  refine zS_i [.int x5, .int x7] [] zc ky_X11_greater kz_X11_greater km_11_171 (c_m_greater l hw) (zPre0 _) rfl rfl hl.1 (Nat.le_of_ble_eq_true rfl) ⟨rfl, rfl⟩ ⟨Nat.le_of_ble_eq_true rfl, Nat.le_of_ble_eq_true rfl⟩ ⟨(Nat.zero_le _), (Nat.zero_le _)⟩ dX11_mutes_136 (fun r_1 hw => ?_)
  refine lv_istore (lv' := [(5, .int r_1), (4, .int y0), (0, .ref q), (2, .int x2), (6, .int x6), (7, .int x7)]) hx hb dX11_mutes_139 hl (by decide) rfl (fun ls hl => ?_)
  obtain ⟨v_1, ev_1⟩ : ∃ y : Int32, y = x6 + (1 : Int32) := ⟨_, rfl⟩
  have hw := hw v_1 ev_1
  refine lv_iinc (v := v_1) (k := 4) (lv' := [(6, .int v_1), (5, .int r_1), (4, .int y0), (0, .ref q), (2, .int x2), (7, .int x7)]) hx hb dX11_mutes_141 hl rfl (by rw [ev_1]; rfl) (by decide) rfl (fun ls hl => ?_)
  refine lv_goto (tgt := 79) hx hb dX11_mutes_144 (by decide) ?_
  exact hP79 _ _ _ _ _ _ _ hw (lv_sub hl [3, 4, 2, 1, 0] rfl) hM hS
set_option maxRecDepth 20000 in
theorem t_m_mutes_114 {p : Program} {l : Launch} {e : Env} {s : State} {m : MethodId} {args : Array Value} {below : List Frame} {meth : Method} {c : Code} {E : zE} {q : Nat} {f_code : Int32} {a_tape : Nat → Int32} {a_size : Nat → Int32} {a_fault : Nat → Int32} {a_faultPlace : Nat → Int32} {a_many : Nat → Int32} {a_lands : Nat → Int32} {a_evenings : Nat → Int32} {a_sights : Nat → Int32} {a_choirs : Nat → Int32} {f_reached : Int32} {f_length : Int32} {f_begins : Int32} {f_sort : Int32} {f_value : Int32} {f_word : Int64} {f_wrongAt : Int32} {f_laterFault : Int32} {f_laterPlace : Int32} {a_told : Nat → Int32} {a_read : Nat → Int32} {f_farHut : Int32} {f_farSinger : Int32} {f_good : Int32} {f_land : Int32} {f_huts : Int32} {f_singers : Int32} {f_evening : Int32} {a_at : Nat → Int32} {a_knows : Nat → Int32} {a_climbed : Nat → Int32} {a_snow : Nat → Int32} {a_level : Nat → Int32} {f_begun : Int32} {f_minute : Int32} {f_avalanches : Int32} {a_run : Nat → Int32} {a_covers : Nat → Int32} {a_routes : Nat → Int32} {a_longest : Nat → Int32} {a_steep : Nat → Int32} {a_laid : Nat → Int32} {a_far : Nat → Int32} {f_sight : Int32} {a_runs : Nat → Int32} {f_choir : Int32} {f_voices : Int32} {a_rest : Nat → Int64} {a_wins : Nat → Int32} {f_seed : Int32} {a_other : Nat → Int32} {a_kept : Nat → Int32} {P79 : Int32 → Int32 → Int32 → (Nat → Int32) → Prop} {post : Int32 → (Int32) → (Int32) → (Int32) → (Int32) → (Nat → Int32) → Prop} {x2 : Int32} {x4 : Int32} {x5 : Int32} {x6 : Int32} {y0 : Int32} {ls : Array Slot} {H : Heap} {locs : List Loc}
    (zc : zC p s m args meth c cX11_mutes 8 RX11 (some .int))
    (hK : zK E s)
    (hM : mW E q f_code a_tape a_size a_fault a_faultPlace a_many a_lands a_evenings a_sights a_choirs f_reached f_length f_begins f_sort f_value f_word f_wrongAt f_laterFault f_laterPlace a_told a_read f_farHut f_farSinger f_good f_land f_huts f_singers f_evening a_at a_knows a_climbed a_snow a_level f_begun f_minute f_avalanches a_run a_covers a_routes a_longest a_steep a_laid a_far f_sight a_runs f_choir f_voices a_rest a_wins f_seed a_other a_kept H)
    (hS : va_S (mA q) s.heap H locs)
    (hP79 : ∀ (x4 : Int32) (x5 : Int32) (x6 : Int32) (a_run : Nat → Int32) (H : Heap) (locs : List Loc) (ls : Array Slot), P79 x4 x5 x6 a_run → lv_has ls 8 [(0, .ref q), (2, .int x2), (4, .int x4), (5, .int x5), (6, .int x6)] → mW E q f_code a_tape a_size a_fault a_faultPlace a_many a_lands a_evenings a_sights a_choirs f_reached f_length f_begins f_sort f_value f_word f_wrongAt f_laterFault f_laterPlace a_told a_read f_farHut f_farSinger f_good f_land f_huts f_singers f_evening a_at a_knows a_climbed a_snow a_level f_begun f_minute f_avalanches a_run a_covers a_routes a_longest a_steep a_laid a_far f_sight a_runs f_choir f_voices a_rest a_wins f_seed a_other a_kept H → va_S (mA q) s.heap H locs → W p l e rm_m_mutes s m args below meth c H locs 0 0 (MQ below (zQi (S := (Int32) × (Int32) × (Int32) × (Int32) × (Nat → Int32)) (fun r u => post r u.1 u.2.1 u.2.2.1 u.2.2.2.1 u.2.2.2.2) (fun u H => mW E q u.1 a_tape a_size a_fault a_faultPlace a_many a_lands a_evenings a_sights a_choirs f_reached f_length f_begins f_sort f_value f_word f_wrongAt f_laterFault f_laterPlace a_told a_read f_farHut f_farSinger f_good u.2.1 u.2.2.1 u.2.2.2.1 f_evening a_at a_knows a_climbed a_snow a_level f_begun f_minute f_avalanches u.2.2.2.2 a_covers a_routes a_longest a_steep a_laid a_far f_sight a_runs f_choir f_voices a_rest a_wins f_seed a_other a_kept H) (mA q)) args s 0 0 (mA q)) (F0 m 79 ls []))
    (hl : lv_has ls 8 [(0, .ref q), (2, .int x2), (4, .int x4), (5, .int x5), (6, .int x6)])
    (hw : q_m_mutes_114 P79 f_code a_many a_lands f_land f_huts f_singers a_run x2 x4 x5 x6 y0 post) :
    W p l e rm_m_mutes s m args below meth c H locs 0 0 (MQ below (zQi (S := (Int32) × (Int32) × (Int32) × (Int32) × (Nat → Int32)) (fun r u => post r u.1 u.2.1 u.2.2.1 u.2.2.2.1 u.2.2.2.2) (fun u H => mW E q u.1 a_tape a_size a_fault a_faultPlace a_many a_lands a_evenings a_sights a_choirs f_reached f_length f_begins f_sort f_value f_word f_wrongAt f_laterFault f_laterPlace a_told a_read f_farHut f_farSinger f_good u.2.1 u.2.2.1 u.2.2.2.1 f_evening a_at a_knows a_climbed a_snow a_level f_begun f_minute f_avalanches u.2.2.2.2 a_covers a_routes a_longest a_steep a_laid a_far f_sight a_runs f_choir f_voices a_rest a_wins f_seed a_other a_kept H) (mA q)) args s 0 0 (mA q)) (F0 m 114 ls [.int y0]) := by
  have hx := zc.1
  have hb := zc.2.1
  refine lv_istore (lv' := [(7, .int y0), (0, .ref q), (2, .int x2), (4, .int x4), (5, .int x5), (6, .int x6)]) hx hb dX11_mutes_114 hl (by decide) rfl (fun ls hl => ?_)
  refine lv_iload hx hb dX11_mutes_116 (lv_at hl 0 rfl) ?_
  refine lv_iload hx hb dX11_mutes_118 (lv_at hl 4 rfl) ?_
  refine lv_icmp_le (tgt := 128) hx hb dX11_mutes_120 (by decide) (fun hc => ?_) (fun hc => ?_)
  · have hw := hw.1 hc
    refine lv_iload hx hb dX11_mutes_128 (lv_at hl 3 rfl) ?_
    exact t_m_mutes_130 zc hK hM hS hP79 (lv_sub hl [1, 2, 4, 5, 0] rfl) hw
  · have hw := hw.2 hc
    refine lv_iload hx hb dX11_mutes_123 (lv_at hl 5 rfl) ?_
    refine lv_goto (tgt := 130) hx hb dX11_mutes_125 (by decide) ?_
    exact t_m_mutes_130 zc hK hM hS hP79 (lv_sub hl [1, 2, 4, 5, 0] rfl) hw
set_option maxRecDepth 20000 in
theorem t_m_mutes_103 {p : Program} {l : Launch} {e : Env} {s : State} {m : MethodId} {args : Array Value} {below : List Frame} {meth : Method} {c : Code} {E : zE} {q : Nat} {f_code : Int32} {a_tape : Nat → Int32} {a_size : Nat → Int32} {a_fault : Nat → Int32} {a_faultPlace : Nat → Int32} {a_many : Nat → Int32} {a_lands : Nat → Int32} {a_evenings : Nat → Int32} {a_sights : Nat → Int32} {a_choirs : Nat → Int32} {f_reached : Int32} {f_length : Int32} {f_begins : Int32} {f_sort : Int32} {f_value : Int32} {f_word : Int64} {f_wrongAt : Int32} {f_laterFault : Int32} {f_laterPlace : Int32} {a_told : Nat → Int32} {a_read : Nat → Int32} {f_farHut : Int32} {f_farSinger : Int32} {f_good : Int32} {f_land : Int32} {f_huts : Int32} {f_singers : Int32} {f_evening : Int32} {a_at : Nat → Int32} {a_knows : Nat → Int32} {a_climbed : Nat → Int32} {a_snow : Nat → Int32} {a_level : Nat → Int32} {f_begun : Int32} {f_minute : Int32} {f_avalanches : Int32} {a_run : Nat → Int32} {a_covers : Nat → Int32} {a_routes : Nat → Int32} {a_longest : Nat → Int32} {a_steep : Nat → Int32} {a_laid : Nat → Int32} {a_far : Nat → Int32} {f_sight : Int32} {a_runs : Nat → Int32} {f_choir : Int32} {f_voices : Int32} {a_rest : Nat → Int64} {a_wins : Nat → Int32} {f_seed : Int32} {a_other : Nat → Int32} {a_kept : Nat → Int32} {P79 : Int32 → Int32 → Int32 → (Nat → Int32) → Prop} {post : Int32 → (Int32) → (Int32) → (Int32) → (Int32) → (Nat → Int32) → Prop} {x2 : Int32} {x4 : Int32} {x5 : Int32} {x6 : Int32} {ls : Array Slot} {H : Heap} {locs : List Loc}
    (zc : zC p s m args meth c cX11_mutes 8 RX11 (some .int))
    (hK : zK E s)
    (hM : mW E q f_code a_tape a_size a_fault a_faultPlace a_many a_lands a_evenings a_sights a_choirs f_reached f_length f_begins f_sort f_value f_word f_wrongAt f_laterFault f_laterPlace a_told a_read f_farHut f_farSinger f_good f_land f_huts f_singers f_evening a_at a_knows a_climbed a_snow a_level f_begun f_minute f_avalanches a_run a_covers a_routes a_longest a_steep a_laid a_far f_sight a_runs f_choir f_voices a_rest a_wins f_seed a_other a_kept H)
    (hS : va_S (mA q) s.heap H locs)
    (hP79 : ∀ (x4 : Int32) (x5 : Int32) (x6 : Int32) (a_run : Nat → Int32) (H : Heap) (locs : List Loc) (ls : Array Slot), P79 x4 x5 x6 a_run → lv_has ls 8 [(0, .ref q), (2, .int x2), (4, .int x4), (5, .int x5), (6, .int x6)] → mW E q f_code a_tape a_size a_fault a_faultPlace a_many a_lands a_evenings a_sights a_choirs f_reached f_length f_begins f_sort f_value f_word f_wrongAt f_laterFault f_laterPlace a_told a_read f_farHut f_farSinger f_good f_land f_huts f_singers f_evening a_at a_knows a_climbed a_snow a_level f_begun f_minute f_avalanches a_run a_covers a_routes a_longest a_steep a_laid a_far f_sight a_runs f_choir f_voices a_rest a_wins f_seed a_other a_kept H → va_S (mA q) s.heap H locs → W p l e rm_m_mutes s m args below meth c H locs 0 0 (MQ below (zQi (S := (Int32) × (Int32) × (Int32) × (Int32) × (Nat → Int32)) (fun r u => post r u.1 u.2.1 u.2.2.1 u.2.2.2.1 u.2.2.2.2) (fun u H => mW E q u.1 a_tape a_size a_fault a_faultPlace a_many a_lands a_evenings a_sights a_choirs f_reached f_length f_begins f_sort f_value f_word f_wrongAt f_laterFault f_laterPlace a_told a_read f_farHut f_farSinger f_good u.2.1 u.2.2.1 u.2.2.2.1 f_evening a_at a_knows a_climbed a_snow a_level f_begun f_minute f_avalanches u.2.2.2.2 a_covers a_routes a_longest a_steep a_laid a_far f_sight a_runs f_choir f_voices a_rest a_wins f_seed a_other a_kept H) (mA q)) args s 0 0 (mA q)) (F0 m 79 ls []))
    (hl : lv_has ls 8 [(0, .ref q), (2, .int x2), (4, .int x4), (5, .int x5), (6, .int x6)])
    (hw : q_m_mutes_103 P79 f_code a_many a_lands f_land f_huts f_singers a_run x2 x4 x5 x6 post) :
    W p l e rm_m_mutes s m args below meth c H locs 0 0 (MQ below (zQi (S := (Int32) × (Int32) × (Int32) × (Int32) × (Nat → Int32)) (fun r u => post r u.1 u.2.1 u.2.2.1 u.2.2.2.1 u.2.2.2.2) (fun u H => mW E q u.1 a_tape a_size a_fault a_faultPlace a_many a_lands a_evenings a_sights a_choirs f_reached f_length f_begins f_sort f_value f_word f_wrongAt f_laterFault f_laterPlace a_told a_read f_farHut f_farSinger f_good u.2.1 u.2.2.1 u.2.2.2.1 f_evening a_at a_knows a_climbed a_snow a_level f_begun f_minute f_avalanches u.2.2.2.2 a_covers a_routes a_longest a_steep a_laid a_far f_sight a_runs f_choir f_voices a_rest a_wins f_seed a_other a_kept H) (mA q)) args s 0 0 (mA q)) (F0 m 103 ls []) := by
  have hx := zc.1
  have hb := zc.2.1
  refine lv_iconst (v := (-1 : Int32)) hx hb dX11_mutes_103 (by decide) ?_
  refine lv_goto (tgt := 114) hx hb dX11_mutes_104 (by decide) ?_
  exact t_m_mutes_114 zc hK hM hS hP79 (lv_sub hl [0, 1, 2, 3, 4] rfl) hw
set_option maxRecDepth 20000 in
theorem t_m_mutes_79 {p : Program} {l : Launch} {e : Env} {s : State} {m : MethodId} {args : Array Value} {below : List Frame} {meth : Method} {c : Code} {E : zE} {q : Nat} {f_code : Int32} {a_tape : Nat → Int32} {a_size : Nat → Int32} {a_fault : Nat → Int32} {a_faultPlace : Nat → Int32} {a_many : Nat → Int32} {a_lands : Nat → Int32} {a_evenings : Nat → Int32} {a_sights : Nat → Int32} {a_choirs : Nat → Int32} {f_reached : Int32} {f_length : Int32} {f_begins : Int32} {f_sort : Int32} {f_value : Int32} {f_word : Int64} {f_wrongAt : Int32} {f_laterFault : Int32} {f_laterPlace : Int32} {a_told : Nat → Int32} {a_read : Nat → Int32} {f_farHut : Int32} {f_farSinger : Int32} {f_good : Int32} {f_land : Int32} {f_huts : Int32} {f_singers : Int32} {f_evening : Int32} {a_at : Nat → Int32} {a_knows : Nat → Int32} {a_climbed : Nat → Int32} {a_snow : Nat → Int32} {a_level : Nat → Int32} {f_begun : Int32} {f_minute : Int32} {f_avalanches : Int32} {a_run : Nat → Int32} {a_covers : Nat → Int32} {a_routes : Nat → Int32} {a_longest : Nat → Int32} {a_steep : Nat → Int32} {a_laid : Nat → Int32} {a_far : Nat → Int32} {f_sight : Int32} {a_runs : Nat → Int32} {f_choir : Int32} {f_voices : Int32} {a_rest : Nat → Int64} {a_wins : Nat → Int32} {f_seed : Int32} {a_other : Nat → Int32} {a_kept : Nat → Int32} {post : Int32 → (Int32) → (Int32) → (Int32) → (Int32) → (Nat → Int32) → Prop} {x2 : Int32} {x4 : Int32} {x5 : Int32} {x6 : Int32} {ls : Array Slot} {H : Heap} {locs : List Loc}
    (zc : zC p s m args meth c cX11_mutes 8 RX11 (some .int))
    (hK : zK E s)
    (hM : mW E q f_code a_tape a_size a_fault a_faultPlace a_many a_lands a_evenings a_sights a_choirs f_reached f_length f_begins f_sort f_value f_word f_wrongAt f_laterFault f_laterPlace a_told a_read f_farHut f_farSinger f_good f_land f_huts f_singers f_evening a_at a_knows a_climbed a_snow a_level f_begun f_minute f_avalanches a_run a_covers a_routes a_longest a_steep a_laid a_far f_sight a_runs f_choir f_voices a_rest a_wins f_seed a_other a_kept H)
    (hS : va_S (mA q) s.heap H locs)
    (hl : lv_has ls 8 [(0, .ref q), (2, .int x2), (4, .int x4), (5, .int x5), (6, .int x6)])
    (hw : q_m_mutes_79 f_code a_many a_lands f_land f_huts f_singers a_run x2 x4 x5 x6 post) :
    W p l e rm_m_mutes s m args below meth c H locs 0 0 (MQ below (zQi (S := (Int32) × (Int32) × (Int32) × (Int32) × (Nat → Int32)) (fun r u => post r u.1 u.2.1 u.2.2.1 u.2.2.2.1 u.2.2.2.2) (fun u H => mW E q u.1 a_tape a_size a_fault a_faultPlace a_many a_lands a_evenings a_sights a_choirs f_reached f_length f_begins f_sort f_value f_word f_wrongAt f_laterFault f_laterPlace a_told a_read f_farHut f_farSinger f_good u.2.1 u.2.2.1 u.2.2.2.1 f_evening a_at a_knows a_climbed a_snow a_level f_begun f_minute f_avalanches u.2.2.2.2 a_covers a_routes a_longest a_steep a_laid a_far f_sight a_runs f_choir f_voices a_rest a_wins f_seed a_other a_kept H) (mA q)) args s 0 0 (mA q)) (F0 m 79 ls []) := by
  have hx := zc.1
  have hb := zc.2.1
  refine hw (fun x4 x5 x6 a_run => ∀ (H : Heap) (locs : List Loc) (ls : Array Slot), lv_has ls 8 [(0, .ref q), (2, .int x2), (4, .int x4), (5, .int x5), (6, .int x6)] → mW E q f_code a_tape a_size a_fault a_faultPlace a_many a_lands a_evenings a_sights a_choirs f_reached f_length f_begins f_sort f_value f_word f_wrongAt f_laterFault f_laterPlace a_told a_read f_farHut f_farSinger f_good f_land f_huts f_singers f_evening a_at a_knows a_climbed a_snow a_level f_begun f_minute f_avalanches a_run a_covers a_routes a_longest a_steep a_laid a_far f_sight a_runs f_choir f_voices a_rest a_wins f_seed a_other a_kept H → va_S (mA q) s.heap H locs → W p l e rm_m_mutes s m args below meth c H locs 0 0 (MQ below (zQi (S := (Int32) × (Int32) × (Int32) × (Int32) × (Nat → Int32)) (fun r u => post r u.1 u.2.1 u.2.2.1 u.2.2.2.1 u.2.2.2.2) (fun u H => mW E q u.1 a_tape a_size a_fault a_faultPlace a_many a_lands a_evenings a_sights a_choirs f_reached f_length f_begins f_sort f_value f_word f_wrongAt f_laterFault f_laterPlace a_told a_read f_farHut f_farSinger f_good u.2.1 u.2.2.1 u.2.2.2.1 f_evening a_at a_knows a_climbed a_snow a_level f_begun f_minute f_avalanches u.2.2.2.2 a_covers a_routes a_longest a_steep a_laid a_far f_sight a_runs f_choir f_voices a_rest a_wins f_seed a_other a_kept H) (mA q)) args s 0 0 (mA q)) (F0 m 79 ls [])) ?_ _ _ _ hl hM hS
  intro x4 x5 x6 a_run hw H locs ls hl hM hS
  refine lv_iload hx hb dX11_mutes_79 (lv_at hl 4 rfl) ?_
  refine lv_aload_n hx hb dX11_mutes_81 rfl (lv_at hl 0 rfl) ?_
  refine mg_11_307_0 zc hK hM dX11_mutes_82 ?_
  refine lv_icmp_ge (tgt := 147) hx hb dX11_mutes_85 (by decide) (fun hc => ?_) (fun hc => ?_)
  · have hw := hw.1 hc
    refine lv_iload hx hb dX11_mutes_147 (lv_at hl 2 rfl) ?_
    exact zret_iw ⟨f_code, f_land, f_huts, f_singers, a_run⟩ zc hS hw hM dX11_mutes_149
  · have hw := hw.2 hc
    refine lv_iload hx hb dX11_mutes_88 (lv_at hl 4 rfl) ?_
    refine lv_iload_n hx hb dX11_mutes_90 rfl (lv_at hl 1 rfl) ?_
    refine lv_icmp_eq (tgt := 103) hx hb dX11_mutes_91 (by decide) (fun hc => ?_) (fun hc => ?_)
    · have hw := hw.1 hc
      exact t_m_mutes_103 zc hK hM hS (fun _ _ _ _ H locs ls h hl hM hS => h H locs ls hl hM hS) (lv_sub hl [0, 1, 2, 3, 4] rfl) hw
    · have hw := hw.2 hc
      refine lv_aload_n hx hb dX11_mutes_94 rfl (lv_at hl 0 rfl) ?_
      refine lv_iload hx hb dX11_mutes_95 (lv_at hl 4 rfl) ?_
      refine zV_i [.int x6] [] zc ky_X11_isDam kz_X11_isDam km_11_355 (c_m_isDam l hw) (mPreV0 hK hM) rfl rfl hl.1 (Nat.le_of_ble_eq_true rfl) ⟨rfl, rfl⟩ ⟨Nat.le_of_ble_eq_true rfl, Nat.le_of_ble_eq_true rfl⟩ ⟨(Nat.zero_le _), (Nat.zero_le _)⟩ dX11_mutes_97 (fun r_1 hw => ?_)
      refine lv_if_eq (tgt := 107) hx hb dX11_mutes_100 (by decide) (fun hc => ?_) (fun hc => ?_)
      · have hw := hw.1 hc
        refine lv_aload_n hx hb dX11_mutes_107 rfl (lv_at hl 0 rfl) ?_
        refine lv_iload_n hx hb dX11_mutes_108 rfl (lv_at hl 1 rfl) ?_
        refine lv_iload hx hb dX11_mutes_109 (lv_at hl 4 rfl) ?_
        refine zVw_i [.int x2, .int x6] [] zc ky_X11_mutesOf kz_X11_mutesOf km_11_451 (c_m_mutesOf l hw) (mPreV0 hK hM) hS rfl rfl hl.1 (Nat.le_of_ble_eq_true rfl) ⟨rfl, rfl⟩ ⟨Nat.le_of_ble_eq_true rfl, Nat.le_of_ble_eq_true rfl⟩ ⟨(Nat.zero_le _), (Nat.zero_le _)⟩ dX11_mutes_111 (fun r_2 a_run_1 H locs hw hM hS => ?_)
        exact t_m_mutes_114 zc hK hM hS (fun _ _ _ _ H locs ls h hl hM hS => h H locs ls hl hM hS) (lv_sub hl [0, 1, 2, 3, 4] rfl) hw
      · have hw := hw.2 hc
        exact t_m_mutes_103 zc hK hM hS (fun _ _ _ _ H locs ls h hl hM hS => h H locs ls hl hM hS) (lv_sub hl [0, 1, 2, 3, 4] rfl) hw
set_option maxRecDepth 20000 in
theorem t_m_mutes_58 {p : Program} {l : Launch} {e : Env} {s : State} {m : MethodId} {args : Array Value} {below : List Frame} {meth : Method} {c : Code} {E : zE} {q : Nat} {f_code : Int32} {a_tape : Nat → Int32} {a_size : Nat → Int32} {a_fault : Nat → Int32} {a_faultPlace : Nat → Int32} {a_many : Nat → Int32} {a_lands : Nat → Int32} {a_evenings : Nat → Int32} {a_sights : Nat → Int32} {a_choirs : Nat → Int32} {f_reached : Int32} {f_length : Int32} {f_begins : Int32} {f_sort : Int32} {f_value : Int32} {f_word : Int64} {f_wrongAt : Int32} {f_laterFault : Int32} {f_laterPlace : Int32} {a_told : Nat → Int32} {a_read : Nat → Int32} {f_farHut : Int32} {f_farSinger : Int32} {f_good : Int32} {f_land : Int32} {f_huts : Int32} {f_singers : Int32} {f_evening : Int32} {a_at : Nat → Int32} {a_knows : Nat → Int32} {a_climbed : Nat → Int32} {a_snow : Nat → Int32} {a_level : Nat → Int32} {f_begun : Int32} {f_minute : Int32} {f_avalanches : Int32} {a_run : Nat → Int32} {a_covers : Nat → Int32} {a_routes : Nat → Int32} {a_longest : Nat → Int32} {a_steep : Nat → Int32} {a_laid : Nat → Int32} {a_far : Nat → Int32} {f_sight : Int32} {a_runs : Nat → Int32} {f_choir : Int32} {f_voices : Int32} {a_rest : Nat → Int64} {a_wins : Nat → Int32} {f_seed : Int32} {a_other : Nat → Int32} {a_kept : Nat → Int32} {post : Int32 → (Int32) → (Int32) → (Int32) → (Int32) → (Nat → Int32) → Prop} {x2 : Int32} {x3 : Int32} {ls : Array Slot} {H : Heap} {locs : List Loc}
    (zc : zC p s m args meth c cX11_mutes 8 RX11 (some .int))
    (hK : zK E s)
    (hM : mW E q f_code a_tape a_size a_fault a_faultPlace a_many a_lands a_evenings a_sights a_choirs f_reached f_length f_begins f_sort f_value f_word f_wrongAt f_laterFault f_laterPlace a_told a_read f_farHut f_farSinger f_good f_land f_huts f_singers f_evening a_at a_knows a_climbed a_snow a_level f_begun f_minute f_avalanches a_run a_covers a_routes a_longest a_steep a_laid a_far f_sight a_runs f_choir f_voices a_rest a_wins f_seed a_other a_kept H)
    (hS : va_S (mA q) s.heap H locs)
    (hl : lv_has ls 8 [(0, .ref q), (2, .int x2), (3, .int x3)])
    (hw : q_m_mutes_58 f_code a_many a_lands f_land f_huts f_singers a_run x2 x3 post) :
    W p l e rm_m_mutes s m args below meth c H locs 0 0 (MQ below (zQi (S := (Int32) × (Int32) × (Int32) × (Int32) × (Nat → Int32)) (fun r u => post r u.1 u.2.1 u.2.2.1 u.2.2.2.1 u.2.2.2.2) (fun u H => mW E q u.1 a_tape a_size a_fault a_faultPlace a_many a_lands a_evenings a_sights a_choirs f_reached f_length f_begins f_sort f_value f_word f_wrongAt f_laterFault f_laterPlace a_told a_read f_farHut f_farSinger f_good u.2.1 u.2.2.1 u.2.2.2.1 f_evening a_at a_knows a_climbed a_snow a_level f_begun f_minute f_avalanches u.2.2.2.2 a_covers a_routes a_longest a_steep a_laid a_far f_sight a_runs f_choir f_voices a_rest a_wins f_seed a_other a_kept H) (mA q)) args s 0 0 (mA q)) (F0 m 58 ls []) := by
  have hx := zc.1
  have hb := zc.2.1
  refine lv_iload_n hx hb dX11_mutes_58 rfl (lv_at hl 2 rfl) ?_
  refine lv_iconst (v := (-1 : Int32)) hx hb dX11_mutes_59 (by decide) ?_
  refine lv_icmp_eq (tgt := 70) hx hb dX11_mutes_60 (by decide) (fun hc => ?_) (fun hc => ?_)
  · have hw := hw.1 hc
    refine lv_iconst (v := (-1 : Int32)) hx hb dX11_mutes_70 (by decide) ?_
    refine lv_istore (lv' := [(4, .int (-1 : Int32)), (0, .ref q), (2, .int x2), (3, .int x3)]) hx hb dX11_mutes_71 hl (by decide) rfl (fun ls hl => ?_)
    refine lv_iconst (v := (-1 : Int32)) hx hb dX11_mutes_73 (by decide) ?_
    refine lv_istore (lv' := [(5, .int (-1 : Int32)), (4, .int (-1 : Int32)), (0, .ref q), (2, .int x2), (3, .int x3)]) hx hb dX11_mutes_74 hl (by decide) rfl (fun ls hl => ?_)
    refine lv_iconst (v := (0 : Int32)) hx hb dX11_mutes_76 (by decide) ?_
    refine lv_istore (lv' := [(6, .int (0 : Int32)), (5, .int (-1 : Int32)), (4, .int (-1 : Int32)), (0, .ref q), (2, .int x2), (3, .int x3)]) hx hb dX11_mutes_77 hl (by decide) rfl (fun ls hl => ?_)
    exact t_m_mutes_79 zc hK hM hS  (lv_sub hl [3, 4, 2, 1, 0] rfl) hw
  · have hw := hw.2 hc
    refine lv_aload_n hx hb dX11_mutes_63 rfl (lv_at hl 0 rfl) ?_
    refine lv_iload_n hx hb dX11_mutes_64 rfl (lv_at hl 1 rfl) ?_
    refine lv_iload_n hx hb dX11_mutes_65 rfl (lv_at hl 2 rfl) ?_
    refine zVw_i [.int x2, .int x3] [] zc ky_X11_mutesOf kz_X11_mutesOf km_11_451 (c_m_mutesOf l hw) (mPreV0 hK hM) hS rfl rfl hl.1 (Nat.le_of_ble_eq_true rfl) ⟨rfl, rfl⟩ ⟨Nat.le_of_ble_eq_true rfl, Nat.le_of_ble_eq_true rfl⟩ ⟨(Nat.zero_le _), (Nat.zero_le _)⟩ dX11_mutes_66 (fun r_1 a_run_1 H locs hw hM hS => ?_)
    exact zret_iw ⟨f_code, f_land, f_huts, f_singers, a_run_1⟩ zc hS hw hM dX11_mutes_69
set_option maxRecDepth 20000 in
theorem t_m_mutes_0 {p : Program} {l : Launch} {e : Env} {s : State} {m : MethodId} {args : Array Value} {below : List Frame} {meth : Method} {c : Code} {E : zE} {q : Nat} {f_code : Int32} {a_tape : Nat → Int32} {a_size : Nat → Int32} {a_fault : Nat → Int32} {a_faultPlace : Nat → Int32} {a_many : Nat → Int32} {a_lands : Nat → Int32} {a_evenings : Nat → Int32} {a_sights : Nat → Int32} {a_choirs : Nat → Int32} {f_reached : Int32} {f_length : Int32} {f_begins : Int32} {f_sort : Int32} {f_value : Int32} {f_word : Int64} {f_wrongAt : Int32} {f_laterFault : Int32} {f_laterPlace : Int32} {a_told : Nat → Int32} {a_read : Nat → Int32} {f_farHut : Int32} {f_farSinger : Int32} {f_good : Int32} {f_land : Int32} {f_huts : Int32} {f_singers : Int32} {f_evening : Int32} {a_at : Nat → Int32} {a_knows : Nat → Int32} {a_climbed : Nat → Int32} {a_snow : Nat → Int32} {a_level : Nat → Int32} {f_begun : Int32} {f_minute : Int32} {f_avalanches : Int32} {a_run : Nat → Int32} {a_covers : Nat → Int32} {a_routes : Nat → Int32} {a_longest : Nat → Int32} {a_steep : Nat → Int32} {a_laid : Nat → Int32} {a_far : Nat → Int32} {f_sight : Int32} {a_runs : Nat → Int32} {f_choir : Int32} {f_voices : Int32} {a_rest : Nat → Int64} {a_wins : Nat → Int32} {f_seed : Int32} {a_other : Nat → Int32} {a_kept : Nat → Int32} {post : Int32 → (Int32) → (Int32) → (Int32) → (Int32) → (Nat → Int32) → Prop} {x1 : Int32} {x2 : Int32} {x3 : Int32} {ls : Array Slot} {H : Heap} {locs : List Loc}
    (zc : zC p s m args meth c cX11_mutes 8 RX11 (some .int))
    (hK : zK E s)
    (hM : mW E q f_code a_tape a_size a_fault a_faultPlace a_many a_lands a_evenings a_sights a_choirs f_reached f_length f_begins f_sort f_value f_word f_wrongAt f_laterFault f_laterPlace a_told a_read f_farHut f_farSinger f_good f_land f_huts f_singers f_evening a_at a_knows a_climbed a_snow a_level f_begun f_minute f_avalanches a_run a_covers a_routes a_longest a_steep a_laid a_far f_sight a_runs f_choir f_voices a_rest a_wins f_seed a_other a_kept H)
    (hS : va_S (mA q) s.heap H locs)
    (hl : lv_has ls 8 [(0, .ref q), (1, .int x1), (2, .int x2), (3, .int x3)])
    (hw : q_m_mutes_0 f_code a_many a_lands f_land f_huts f_singers a_run x1 x2 x3 post) :
    W p l e rm_m_mutes s m args below meth c H locs 0 0 (MQ below (zQi (S := (Int32) × (Int32) × (Int32) × (Int32) × (Nat → Int32)) (fun r u => post r u.1 u.2.1 u.2.2.1 u.2.2.2.1 u.2.2.2.2) (fun u H => mW E q u.1 a_tape a_size a_fault a_faultPlace a_many a_lands a_evenings a_sights a_choirs f_reached f_length f_begins f_sort f_value f_word f_wrongAt f_laterFault f_laterPlace a_told a_read f_farHut f_farSinger f_good u.2.1 u.2.2.1 u.2.2.2.1 f_evening a_at a_knows a_climbed a_snow a_level f_begun f_minute f_avalanches u.2.2.2.2 a_covers a_routes a_longest a_steep a_laid a_far f_sight a_runs f_choir f_voices a_rest a_wins f_seed a_other a_kept H) (mA q)) args s 0 0 (mA q)) (F0 m 0 ls []) := by
  have hx := zc.1
  have hb := zc.2.1
  refine lv_aload_n hx hb dX11_mutes_0 rfl (lv_at hl 0 rfl) ?_
  refine lv_iconst (v := (0 : Int32)) hx hb dX11_mutes_1 (by decide) ?_
  refine mp_11_97_0 zc hK hM hS dX11_mutes_2 (fun H locs hM hS => ?_)
  refine lv_aload_n hx hb dX11_mutes_5 rfl (lv_at hl 0 rfl) ?_
  refine lv_iload_n hx hb dX11_mutes_6 rfl (lv_at hl 1 rfl) ?_
  refine zVw_i [.int x1] [] zc ky_X11_hand kz_X11_hand km_11_313 (c_m_hand l hw) (mPreV0 hK hM) hS rfl rfl hl.1 (Nat.le_of_ble_eq_true rfl) ⟨rfl, rfl⟩ ⟨Nat.le_of_ble_eq_true rfl, Nat.le_of_ble_eq_true rfl⟩ ⟨(Nat.zero_le _), (Nat.zero_le _)⟩ dX11_mutes_7 (fun r_1 u H locs hw hM hS => ?_)
  obtain ⟨f_land_1, f_huts_1, f_singers_1⟩ := u
  refine lv_if_eq (tgt := 55) hx hb dX11_mutes_10 (by decide) (fun hc => ?_) (fun hc => ?_)
  · have hw := hw.1 hc
    refine lv_bipush (v := (-2 : Int32)) hx hb dX11_mutes_55 (by decide) ?_
    exact zret_iw ⟨(0 : Int32), f_land_1, f_huts_1, f_singers_1, a_run⟩ zc hS hw hM dX11_mutes_57
  · have hw := hw.2 hc
    refine lv_aload_n hx hb dX11_mutes_13 rfl (lv_at hl 0 rfl) ?_
    refine lv_iload_n hx hb dX11_mutes_14 rfl (lv_at hl 2 rfl) ?_
    refine zV_i [.int x2] [] zc ky_X11_isHut kz_X11_isHut km_11_316 (c_m_isHut l hw) (mPreV0 hK hM) rfl rfl hl.1 (Nat.le_of_ble_eq_true rfl) ⟨rfl, rfl⟩ ⟨Nat.le_of_ble_eq_true rfl, Nat.le_of_ble_eq_true rfl⟩ ⟨(Nat.zero_le _), (Nat.zero_le _)⟩ dX11_mutes_15 (fun r_2 hw => ?_)
    refine lv_if_eq (tgt := 55) hx hb dX11_mutes_18 (by decide) (fun hc => ?_) (fun hc => ?_)
    · have hw := hw.1 hc
      refine lv_bipush (v := (-2 : Int32)) hx hb dX11_mutes_55 (by decide) ?_
      exact zret_iw ⟨(0 : Int32), f_land_1, f_huts_1, f_singers_1, a_run⟩ zc hS hw hM dX11_mutes_57
    · have hw := hw.2 hc
      refine lv_aload_n hx hb dX11_mutes_21 rfl (lv_at hl 0 rfl) ?_
      refine lv_iload_n hx hb dX11_mutes_22 rfl (lv_at hl 2 rfl) ?_
      refine zV_i [.int x2] [] zc ky_X11_isDam kz_X11_isDam km_11_355 (c_m_isDam l hw) (mPreV0 hK hM) rfl rfl hl.1 (Nat.le_of_ble_eq_true rfl) ⟨rfl, rfl⟩ ⟨Nat.le_of_ble_eq_true rfl, Nat.le_of_ble_eq_true rfl⟩ ⟨(Nat.zero_le _), (Nat.zero_le _)⟩ dX11_mutes_23 (fun r_3 hw => ?_)
      refine lv_if_ne (tgt := 55) hx hb dX11_mutes_26 (by decide) (fun hc => ?_) (fun hc => ?_)
      · have hw := hw.1 hc
        refine lv_bipush (v := (-2 : Int32)) hx hb dX11_mutes_55 (by decide) ?_
        exact zret_iw ⟨(0 : Int32), f_land_1, f_huts_1, f_singers_1, a_run⟩ zc hS hw hM dX11_mutes_57
      · have hw := hw.2 hc
        refine lv_iload_n hx hb dX11_mutes_29 rfl (lv_at hl 3 rfl) ?_
        refine lv_iconst (v := (-1 : Int32)) hx hb dX11_mutes_30 (by decide) ?_
        refine lv_icmp_eq (tgt := 58) hx hb dX11_mutes_31 (by decide) (fun hc => ?_) (fun hc => ?_)
        · have hw := hw.1 hc
          exact t_m_mutes_58 zc hK hM hS  (lv_sub hl [0, 2, 3] rfl) hw
        · have hw := hw.2 hc
          refine lv_aload_n hx hb dX11_mutes_34 rfl (lv_at hl 0 rfl) ?_
          refine lv_iload_n hx hb dX11_mutes_35 rfl (lv_at hl 3 rfl) ?_
          refine zV_i [.int x3] [] zc ky_X11_isHut kz_X11_isHut km_11_316 (c_m_isHut l hw) (mPreV0 hK hM) rfl rfl hl.1 (Nat.le_of_ble_eq_true rfl) ⟨rfl, rfl⟩ ⟨Nat.le_of_ble_eq_true rfl, Nat.le_of_ble_eq_true rfl⟩ ⟨(Nat.zero_le _), (Nat.zero_le _)⟩ dX11_mutes_36 (fun r_4 hw => ?_)
          refine lv_if_eq (tgt := 55) hx hb dX11_mutes_39 (by decide) (fun hc => ?_) (fun hc => ?_)
          · have hw := hw.1 hc
            refine lv_bipush (v := (-2 : Int32)) hx hb dX11_mutes_55 (by decide) ?_
            exact zret_iw ⟨(0 : Int32), f_land_1, f_huts_1, f_singers_1, a_run⟩ zc hS hw hM dX11_mutes_57
          · have hw := hw.2 hc
            refine lv_aload_n hx hb dX11_mutes_42 rfl (lv_at hl 0 rfl) ?_
            refine lv_iload_n hx hb dX11_mutes_43 rfl (lv_at hl 3 rfl) ?_
            refine zV_i [.int x3] [] zc ky_X11_isDam kz_X11_isDam km_11_355 (c_m_isDam l hw) (mPreV0 hK hM) rfl rfl hl.1 (Nat.le_of_ble_eq_true rfl) ⟨rfl, rfl⟩ ⟨Nat.le_of_ble_eq_true rfl, Nat.le_of_ble_eq_true rfl⟩ ⟨(Nat.zero_le _), (Nat.zero_le _)⟩ dX11_mutes_44 (fun r_5 hw => ?_)
            refine lv_if_ne (tgt := 55) hx hb dX11_mutes_47 (by decide) (fun hc => ?_) (fun hc => ?_)
            · have hw := hw.1 hc
              refine lv_bipush (v := (-2 : Int32)) hx hb dX11_mutes_55 (by decide) ?_
              exact zret_iw ⟨(0 : Int32), f_land_1, f_huts_1, f_singers_1, a_run⟩ zc hS hw hM dX11_mutes_57
            · have hw := hw.2 hc
              refine lv_iload_n hx hb dX11_mutes_50 rfl (lv_at hl 3 rfl) ?_
              refine lv_iload_n hx hb dX11_mutes_51 rfl (lv_at hl 2 rfl) ?_
              refine lv_icmp_ne (tgt := 58) hx hb dX11_mutes_52 (by decide) (fun hc => ?_) (fun hc => ?_)
              · have hw := hw.1 hc
                exact t_m_mutes_58 zc hK hM hS  (lv_sub hl [0, 2, 3] rfl) hw
              · have hw := hw.2 hc
                refine lv_bipush (v := (-2 : Int32)) hx hb dX11_mutes_55 (by decide) ?_
                exact zret_iw ⟨(0 : Int32), f_land_1, f_huts_1, f_singers_1, a_run⟩ zc hS hw hM dX11_mutes_57
set_option maxRecDepth 20000 in
theorem c_m_mutes (l : Launch) {E : zE} {q : Nat} {f_code : Int32} {a_tape : Nat → Int32} {a_size : Nat → Int32} {a_fault : Nat → Int32} {a_faultPlace : Nat → Int32} {a_many : Nat → Int32} {a_lands : Nat → Int32} {a_evenings : Nat → Int32} {a_sights : Nat → Int32} {a_choirs : Nat → Int32} {f_reached : Int32} {f_length : Int32} {f_begins : Int32} {f_sort : Int32} {f_value : Int32} {f_word : Int64} {f_wrongAt : Int32} {f_laterFault : Int32} {f_laterPlace : Int32} {a_told : Nat → Int32} {a_read : Nat → Int32} {f_farHut : Int32} {f_farSinger : Int32} {f_good : Int32} {f_land : Int32} {f_huts : Int32} {f_singers : Int32} {f_evening : Int32} {a_at : Nat → Int32} {a_knows : Nat → Int32} {a_climbed : Nat → Int32} {a_snow : Nat → Int32} {a_level : Nat → Int32} {f_begun : Int32} {f_minute : Int32} {f_avalanches : Int32} {a_run : Nat → Int32} {a_covers : Nat → Int32} {a_routes : Nat → Int32} {a_longest : Nat → Int32} {a_steep : Nat → Int32} {a_laid : Nat → Int32} {a_far : Nat → Int32} {f_sight : Int32} {a_runs : Nat → Int32} {f_choir : Int32} {f_voices : Int32} {a_rest : Nat → Int64} {a_wins : Nat → Int32} {f_seed : Int32} {a_other : Nat → Int32} {a_kept : Nat → Int32} {x1 : Int32} {x2 : Int32} {x3 : Int32} {post : Int32 → (Int32) → (Int32) → (Int32) → (Int32) → (Nat → Int32) → Prop} (hw : q_m_mutes_0 f_code a_many a_lands f_land f_huts f_singers a_run x1 x2 x3 post) : Met l yX11_mutes (Cond.code yX11_mutes cX11_mutes 8 (some .int) :: zb) rm_m_mutes (va_Pc [.ref q, .int x1, .int x2, .int x3] (fun U => mW E q f_code a_tape a_size a_fault a_faultPlace a_many a_lands a_evenings a_sights a_choirs f_reached f_length f_begins f_sort f_value f_word f_wrongAt f_laterFault f_laterPlace a_told a_read f_farHut f_farSinger f_good f_land f_huts f_singers f_evening a_at a_knows a_climbed a_snow a_level f_begun f_minute f_avalanches a_run a_covers a_routes a_longest a_steep a_laid a_far f_sight a_runs f_choir f_voices a_rest a_wins f_seed a_other a_kept U.heap ∧ zK E U)) (zQi (S := (Int32) × (Int32) × (Int32) × (Int32) × (Nat → Int32)) (fun r u => post r u.1 u.2.1 u.2.2.1 u.2.2.2.1 u.2.2.2.2) (fun u H => mW E q u.1 a_tape a_size a_fault a_faultPlace a_many a_lands a_evenings a_sights a_choirs f_reached f_length f_begins f_sort f_value f_word f_wrongAt f_laterFault f_laterPlace a_told a_read f_farHut f_farSinger f_good u.2.1 u.2.2.1 u.2.2.2.1 f_evening a_at a_knows a_climbed a_snow a_level f_begun f_minute f_avalanches u.2.2.2.2 a_covers a_routes a_longest a_steep a_laid a_far f_sight a_runs f_choir f_voices a_rest a_wins f_seed a_other a_kept H) (mA q)) 0 0 (mA q) := by
  refine Met.ofW (cc := cX11_mutes) (maxL := 8) (ret := (some .int)) (by decide) rfl ?_
  intro p e s m args below meth c s₁ B hml hv
  obtain ⟨rfl, hM, hK⟩ := hv
  have zc := zc_of B hml
  have hl := lv_entry ([.ref q, .int x1, .int x2, .int x3]) (n := 8) (Nat.le_of_ble_eq_true rfl)
  rw [lg_entry_eq]
  generalize (lg_sl ([.ref q, .int x1, .int x2, .int x3]) ++ List.replicate (8 - (lg_sl ([.ref q, .int x1, .int x2, .int x3])).length) Slot.unset).toArray = ls at hl ⊢
  have hl : lv_has ls 8 [(0, .ref q), (1, .int x1), (2, .int x2), (3, .int x3)] := hl
  exact t_m_mutes_0 zc hK hM va_S.rf (lv_sub hl [0, 1, 2, 3] rfl) hw
-- m_findFar
abbrev rm_m_findFar : Room := { frames := 2, cells := 0, slots := 0, locals := 43 }
def q_m_findFar_60 (P2 : Int32 → (Nat → Int32) → Prop) (P12 : Int32 → (Nat → Int32) → Prop) (a_lands : Nat → Int32) (f_land : Int32) (f_huts : Int32) (a_far : Nat → Int32) (x1 : Int32) (x2 : Int32) (y0 : Int32) (y1 : Int32) (post : (Nat → Int32) → Prop) : Prop :=
  vp_in y0 81 ∧ (∀ a_far_1 : Nat → Int32, a_far_1 = upd a_far (Int32.toNatClampNeg y0) y1 → (∀ v_1 : Int32, v_1 = x2 + (1 : Int32) → (P12 v_1 a_far_1)))
def q_m_findFar_12 (P2 : Int32 → (Nat → Int32) → Prop) (a_lands : Nat → Int32) (f_land : Int32) (f_huts : Int32) (a_far : Nat → Int32) (x1 : Int32) (x2 : Int32) (post : (Nat → Int32) → Prop) : Prop :=
  ∀ P12 : Int32 → (Nat → Int32) → Prop, (∀ (x2 : Int32) (a_far : Nat → Int32), ((f_huts ≤ x2 → (∀ v_1 : Int32, v_1 = x1 + (1 : Int32) → (P2 v_1 a_far))) ∧ (¬ f_huts ≤ x2 → ((¬ x1 = x2 → (q_m_way_0 a_lands f_land x1 x2 (fun r_1 => (r_1 ≤ 0 → (q_m_findFar_60 P2 P12 a_lands f_land f_huts a_far x1 x2 (((9 : Int32) * x1) + x2) (1000000 : Int32) post)) ∧ (¬ r_1 ≤ 0 → (q_m_way_0 a_lands f_land x1 x2 (fun r_2 => q_m_findFar_60 P2 P12 a_lands f_land f_huts a_far x1 x2 (((9 : Int32) * x1) + x2) r_2 post)))))) ∧ (x1 = x2 → (q_m_findFar_60 P2 P12 a_lands f_land f_huts a_far x1 x2 (((9 : Int32) * x1) + x2) (0 : Int32) post))))) → P12 x2 a_far) → P12 x2 a_far
def q_m_findFar_95 (P75 : Int32 → (Nat → Int32) → Prop) (P85 : Int32 → (Nat → Int32) → Prop) (a_lands : Nat → Int32) (f_land : Int32) (f_huts : Int32) (a_far : Nat → Int32) (x1 : Int32) (x2 : Int32) (x3 : Int32) (post : (Nat → Int32) → Prop) : Prop :=
  ∀ P95 : Int32 → (Nat → Int32) → Prop, (∀ (x3 : Int32) (a_far : Nat → Int32), ((f_huts ≤ x3 → (∀ v_1 : Int32, v_1 = x2 + (1 : Int32) → (P85 v_1 a_far))) ∧ (¬ f_huts ≤ x3 → (vp_in (((9 : Int32) * x2) + x3) 81 ∧ (vp_in (((9 : Int32) * x2) + x1) 81 ∧ (vp_in (((9 : Int32) * x1) + x3) 81 ∧ (q_m_lesser_0 (a_far (Int32.toNatClampNeg (((9 : Int32) * x2) + x3))) ((a_far (Int32.toNatClampNeg (((9 : Int32) * x2) + x1))) + (a_far (Int32.toNatClampNeg (((9 : Int32) * x1) + x3)))) (fun r_1 => vp_in (((9 : Int32) * x2) + x3) 81 ∧ (∀ a_far_1 : Nat → Int32, a_far_1 = upd a_far (Int32.toNatClampNeg (((9 : Int32) * x2) + x3)) r_1 → (∀ v_2 : Int32, v_2 = x3 + (1 : Int32) → (P95 v_2 a_far_1)))))))))) → P95 x3 a_far) → P95 x3 a_far
def q_m_findFar_85 (P75 : Int32 → (Nat → Int32) → Prop) (a_lands : Nat → Int32) (f_land : Int32) (f_huts : Int32) (a_far : Nat → Int32) (x1 : Int32) (x2 : Int32) (post : (Nat → Int32) → Prop) : Prop :=
  ∀ P85 : Int32 → (Nat → Int32) → Prop, (∀ (x2 : Int32) (a_far : Nat → Int32), ((f_huts ≤ x2 → (∀ v_1 : Int32, v_1 = x1 + (1 : Int32) → (P75 v_1 a_far))) ∧ (¬ f_huts ≤ x2 → (q_m_findFar_95 P75 P85 a_lands f_land f_huts a_far x1 x2 (0 : Int32) post))) → P85 x2 a_far) → P85 x2 a_far
def q_m_findFar_75 (a_lands : Nat → Int32) (f_land : Int32) (f_huts : Int32) (a_far : Nat → Int32) (x1 : Int32) (post : (Nat → Int32) → Prop) : Prop :=
  ∀ P75 : Int32 → (Nat → Int32) → Prop, (∀ (x1 : Int32) (a_far : Nat → Int32), ((f_huts ≤ x1 → (post a_far)) ∧ (¬ f_huts ≤ x1 → (q_m_findFar_85 P75 a_lands f_land f_huts a_far x1 (0 : Int32) post))) → P75 x1 a_far) → P75 x1 a_far
def q_m_findFar_2 (a_lands : Nat → Int32) (f_land : Int32) (f_huts : Int32) (a_far : Nat → Int32) (x1 : Int32) (post : (Nat → Int32) → Prop) : Prop :=
  ∀ P2 : Int32 → (Nat → Int32) → Prop, (∀ (x1 : Int32) (a_far : Nat → Int32), ((f_huts ≤ x1 → (q_m_findFar_75 a_lands f_land f_huts a_far (0 : Int32) post)) ∧ (¬ f_huts ≤ x1 → (q_m_findFar_12 P2 a_lands f_land f_huts a_far x1 (0 : Int32) post))) → P2 x1 a_far) → P2 x1 a_far
def q_m_findFar_0 (a_lands : Nat → Int32) (f_land : Int32) (f_huts : Int32) (a_far : Nat → Int32) (post : (Nat → Int32) → Prop) : Prop :=
  q_m_findFar_2 a_lands f_land f_huts a_far (0 : Int32) post
set_option maxRecDepth 20000 in
theorem t_m_findFar_60 {p : Program} {l : Launch} {e : Env} {s : State} {m : MethodId} {args : Array Value} {below : List Frame} {meth : Method} {c : Code} {E : zE} {q : Nat} {f_code : Int32} {a_tape : Nat → Int32} {a_size : Nat → Int32} {a_fault : Nat → Int32} {a_faultPlace : Nat → Int32} {a_many : Nat → Int32} {a_lands : Nat → Int32} {a_evenings : Nat → Int32} {a_sights : Nat → Int32} {a_choirs : Nat → Int32} {f_reached : Int32} {f_length : Int32} {f_begins : Int32} {f_sort : Int32} {f_value : Int32} {f_word : Int64} {f_wrongAt : Int32} {f_laterFault : Int32} {f_laterPlace : Int32} {a_told : Nat → Int32} {a_read : Nat → Int32} {f_farHut : Int32} {f_farSinger : Int32} {f_good : Int32} {f_land : Int32} {f_huts : Int32} {f_singers : Int32} {f_evening : Int32} {a_at : Nat → Int32} {a_knows : Nat → Int32} {a_climbed : Nat → Int32} {a_snow : Nat → Int32} {a_level : Nat → Int32} {f_begun : Int32} {f_minute : Int32} {f_avalanches : Int32} {a_run : Nat → Int32} {a_covers : Nat → Int32} {a_routes : Nat → Int32} {a_longest : Nat → Int32} {a_steep : Nat → Int32} {a_laid : Nat → Int32} {a_far : Nat → Int32} {f_sight : Int32} {a_runs : Nat → Int32} {f_choir : Int32} {f_voices : Int32} {a_rest : Nat → Int64} {a_wins : Nat → Int32} {f_seed : Int32} {a_other : Nat → Int32} {a_kept : Nat → Int32} {P2 : Int32 → (Nat → Int32) → Prop} {P12 : Int32 → (Nat → Int32) → Prop} {post : (Nat → Int32) → Prop} {x1 : Int32} {x2 : Int32} {y0 : Int32} {y1 : Int32} {ls : Array Slot} {H : Heap} {locs : List Loc}
    (zc : zC p s m args meth c cX11_findFar 4 RX11 none)
    (hK : zK E s)
    (hM : mW E q f_code a_tape a_size a_fault a_faultPlace a_many a_lands a_evenings a_sights a_choirs f_reached f_length f_begins f_sort f_value f_word f_wrongAt f_laterFault f_laterPlace a_told a_read f_farHut f_farSinger f_good f_land f_huts f_singers f_evening a_at a_knows a_climbed a_snow a_level f_begun f_minute f_avalanches a_run a_covers a_routes a_longest a_steep a_laid a_far f_sight a_runs f_choir f_voices a_rest a_wins f_seed a_other a_kept H)
    (hS : va_S (mA q) s.heap H locs)
    (hP2 : ∀ (x1 : Int32) (a_far : Nat → Int32) (H : Heap) (locs : List Loc) (ls : Array Slot), P2 x1 a_far → lv_has ls 4 [(0, .ref q), (1, .int x1)] → mW E q f_code a_tape a_size a_fault a_faultPlace a_many a_lands a_evenings a_sights a_choirs f_reached f_length f_begins f_sort f_value f_word f_wrongAt f_laterFault f_laterPlace a_told a_read f_farHut f_farSinger f_good f_land f_huts f_singers f_evening a_at a_knows a_climbed a_snow a_level f_begun f_minute f_avalanches a_run a_covers a_routes a_longest a_steep a_laid a_far f_sight a_runs f_choir f_voices a_rest a_wins f_seed a_other a_kept H → va_S (mA q) s.heap H locs → W p l e rm_m_findFar s m args below meth c H locs 0 0 (MQ below (zQv (S := (Nat → Int32)) (fun u => post u) (fun u H => mW E q f_code a_tape a_size a_fault a_faultPlace a_many a_lands a_evenings a_sights a_choirs f_reached f_length f_begins f_sort f_value f_word f_wrongAt f_laterFault f_laterPlace a_told a_read f_farHut f_farSinger f_good f_land f_huts f_singers f_evening a_at a_knows a_climbed a_snow a_level f_begun f_minute f_avalanches a_run a_covers a_routes a_longest a_steep a_laid u f_sight a_runs f_choir f_voices a_rest a_wins f_seed a_other a_kept H) (mA q)) args s 0 0 (mA q)) (F0 m 2 ls []))
    (hP12 : ∀ (x2 : Int32) (a_far : Nat → Int32) (H : Heap) (locs : List Loc) (ls : Array Slot), P12 x2 a_far → lv_has ls 4 [(0, .ref q), (1, .int x1), (2, .int x2)] → mW E q f_code a_tape a_size a_fault a_faultPlace a_many a_lands a_evenings a_sights a_choirs f_reached f_length f_begins f_sort f_value f_word f_wrongAt f_laterFault f_laterPlace a_told a_read f_farHut f_farSinger f_good f_land f_huts f_singers f_evening a_at a_knows a_climbed a_snow a_level f_begun f_minute f_avalanches a_run a_covers a_routes a_longest a_steep a_laid a_far f_sight a_runs f_choir f_voices a_rest a_wins f_seed a_other a_kept H → va_S (mA q) s.heap H locs → W p l e rm_m_findFar s m args below meth c H locs 0 0 (MQ below (zQv (S := (Nat → Int32)) (fun u => post u) (fun u H => mW E q f_code a_tape a_size a_fault a_faultPlace a_many a_lands a_evenings a_sights a_choirs f_reached f_length f_begins f_sort f_value f_word f_wrongAt f_laterFault f_laterPlace a_told a_read f_farHut f_farSinger f_good f_land f_huts f_singers f_evening a_at a_knows a_climbed a_snow a_level f_begun f_minute f_avalanches a_run a_covers a_routes a_longest a_steep a_laid u f_sight a_runs f_choir f_voices a_rest a_wins f_seed a_other a_kept H) (mA q)) args s 0 0 (mA q)) (F0 m 12 ls []))
    (hl : lv_has ls 4 [(0, .ref q), (1, .int x1), (2, .int x2)])
    (hw : q_m_findFar_60 P2 P12 a_lands f_land f_huts a_far x1 x2 y0 y1 post) :
    W p l e rm_m_findFar s m args below meth c H locs 0 0 (MQ below (zQv (S := (Nat → Int32)) (fun u => post u) (fun u H => mW E q f_code a_tape a_size a_fault a_faultPlace a_many a_lands a_evenings a_sights a_choirs f_reached f_length f_begins f_sort f_value f_word f_wrongAt f_laterFault f_laterPlace a_told a_read f_farHut f_farSinger f_good f_land f_huts f_singers f_evening a_at a_knows a_climbed a_snow a_level f_begun f_minute f_avalanches a_run a_covers a_routes a_longest a_steep a_laid u f_sight a_runs f_choir f_voices a_rest a_wins f_seed a_other a_kept H) (mA q)) args s 0 0 (mA q)) (F0 m 60 ls [.int y1, .int y0, .ref (q + 23)]) := by
  have hx := zc.1
  have hb := zc.2.1
  refine mst_23 zc hK hM hS hw.1 dX11_findFar_60 (fun a_far_1 H locs ea_far_1 hM hS => ?_)
  have hw := hw.2 a_far_1 ea_far_1
  obtain ⟨v_1, ev_1⟩ : ∃ y : Int32, y = x2 + (1 : Int32) := ⟨_, rfl⟩
  have hw := hw v_1 ev_1
  refine lv_iinc (v := v_1) (k := 2) (lv' := [(2, .int v_1), (0, .ref q), (1, .int x1)]) hx hb dX11_findFar_61 hl rfl (by rw [ev_1]; rfl) (by decide) rfl (fun ls hl => ?_)
  refine lv_goto (tgt := 12) hx hb dX11_findFar_64 (by decide) ?_
  exact hP12 _ _ _ _ _ hw (lv_sub hl [1, 2, 0] rfl) hM hS
set_option maxRecDepth 20000 in
theorem t_m_findFar_12 {p : Program} {l : Launch} {e : Env} {s : State} {m : MethodId} {args : Array Value} {below : List Frame} {meth : Method} {c : Code} {E : zE} {q : Nat} {f_code : Int32} {a_tape : Nat → Int32} {a_size : Nat → Int32} {a_fault : Nat → Int32} {a_faultPlace : Nat → Int32} {a_many : Nat → Int32} {a_lands : Nat → Int32} {a_evenings : Nat → Int32} {a_sights : Nat → Int32} {a_choirs : Nat → Int32} {f_reached : Int32} {f_length : Int32} {f_begins : Int32} {f_sort : Int32} {f_value : Int32} {f_word : Int64} {f_wrongAt : Int32} {f_laterFault : Int32} {f_laterPlace : Int32} {a_told : Nat → Int32} {a_read : Nat → Int32} {f_farHut : Int32} {f_farSinger : Int32} {f_good : Int32} {f_land : Int32} {f_huts : Int32} {f_singers : Int32} {f_evening : Int32} {a_at : Nat → Int32} {a_knows : Nat → Int32} {a_climbed : Nat → Int32} {a_snow : Nat → Int32} {a_level : Nat → Int32} {f_begun : Int32} {f_minute : Int32} {f_avalanches : Int32} {a_run : Nat → Int32} {a_covers : Nat → Int32} {a_routes : Nat → Int32} {a_longest : Nat → Int32} {a_steep : Nat → Int32} {a_laid : Nat → Int32} {a_far : Nat → Int32} {f_sight : Int32} {a_runs : Nat → Int32} {f_choir : Int32} {f_voices : Int32} {a_rest : Nat → Int64} {a_wins : Nat → Int32} {f_seed : Int32} {a_other : Nat → Int32} {a_kept : Nat → Int32} {P2 : Int32 → (Nat → Int32) → Prop} {post : (Nat → Int32) → Prop} {x1 : Int32} {x2 : Int32} {ls : Array Slot} {H : Heap} {locs : List Loc}
    (zc : zC p s m args meth c cX11_findFar 4 RX11 none)
    (hK : zK E s)
    (hM : mW E q f_code a_tape a_size a_fault a_faultPlace a_many a_lands a_evenings a_sights a_choirs f_reached f_length f_begins f_sort f_value f_word f_wrongAt f_laterFault f_laterPlace a_told a_read f_farHut f_farSinger f_good f_land f_huts f_singers f_evening a_at a_knows a_climbed a_snow a_level f_begun f_minute f_avalanches a_run a_covers a_routes a_longest a_steep a_laid a_far f_sight a_runs f_choir f_voices a_rest a_wins f_seed a_other a_kept H)
    (hS : va_S (mA q) s.heap H locs)
    (hP2 : ∀ (x1 : Int32) (a_far : Nat → Int32) (H : Heap) (locs : List Loc) (ls : Array Slot), P2 x1 a_far → lv_has ls 4 [(0, .ref q), (1, .int x1)] → mW E q f_code a_tape a_size a_fault a_faultPlace a_many a_lands a_evenings a_sights a_choirs f_reached f_length f_begins f_sort f_value f_word f_wrongAt f_laterFault f_laterPlace a_told a_read f_farHut f_farSinger f_good f_land f_huts f_singers f_evening a_at a_knows a_climbed a_snow a_level f_begun f_minute f_avalanches a_run a_covers a_routes a_longest a_steep a_laid a_far f_sight a_runs f_choir f_voices a_rest a_wins f_seed a_other a_kept H → va_S (mA q) s.heap H locs → W p l e rm_m_findFar s m args below meth c H locs 0 0 (MQ below (zQv (S := (Nat → Int32)) (fun u => post u) (fun u H => mW E q f_code a_tape a_size a_fault a_faultPlace a_many a_lands a_evenings a_sights a_choirs f_reached f_length f_begins f_sort f_value f_word f_wrongAt f_laterFault f_laterPlace a_told a_read f_farHut f_farSinger f_good f_land f_huts f_singers f_evening a_at a_knows a_climbed a_snow a_level f_begun f_minute f_avalanches a_run a_covers a_routes a_longest a_steep a_laid u f_sight a_runs f_choir f_voices a_rest a_wins f_seed a_other a_kept H) (mA q)) args s 0 0 (mA q)) (F0 m 2 ls []))
    (hl : lv_has ls 4 [(0, .ref q), (1, .int x1), (2, .int x2)])
    (hw : q_m_findFar_12 P2 a_lands f_land f_huts a_far x1 x2 post) :
    W p l e rm_m_findFar s m args below meth c H locs 0 0 (MQ below (zQv (S := (Nat → Int32)) (fun u => post u) (fun u H => mW E q f_code a_tape a_size a_fault a_faultPlace a_many a_lands a_evenings a_sights a_choirs f_reached f_length f_begins f_sort f_value f_word f_wrongAt f_laterFault f_laterPlace a_told a_read f_farHut f_farSinger f_good f_land f_huts f_singers f_evening a_at a_knows a_climbed a_snow a_level f_begun f_minute f_avalanches a_run a_covers a_routes a_longest a_steep a_laid u f_sight a_runs f_choir f_voices a_rest a_wins f_seed a_other a_kept H) (mA q)) args s 0 0 (mA q)) (F0 m 12 ls []) := by
  have hx := zc.1
  have hb := zc.2.1
  refine hw (fun x2 a_far => ∀ (H : Heap) (locs : List Loc) (ls : Array Slot), lv_has ls 4 [(0, .ref q), (1, .int x1), (2, .int x2)] → mW E q f_code a_tape a_size a_fault a_faultPlace a_many a_lands a_evenings a_sights a_choirs f_reached f_length f_begins f_sort f_value f_word f_wrongAt f_laterFault f_laterPlace a_told a_read f_farHut f_farSinger f_good f_land f_huts f_singers f_evening a_at a_knows a_climbed a_snow a_level f_begun f_minute f_avalanches a_run a_covers a_routes a_longest a_steep a_laid a_far f_sight a_runs f_choir f_voices a_rest a_wins f_seed a_other a_kept H → va_S (mA q) s.heap H locs → W p l e rm_m_findFar s m args below meth c H locs 0 0 (MQ below (zQv (S := (Nat → Int32)) (fun u => post u) (fun u H => mW E q f_code a_tape a_size a_fault a_faultPlace a_many a_lands a_evenings a_sights a_choirs f_reached f_length f_begins f_sort f_value f_word f_wrongAt f_laterFault f_laterPlace a_told a_read f_farHut f_farSinger f_good f_land f_huts f_singers f_evening a_at a_knows a_climbed a_snow a_level f_begun f_minute f_avalanches a_run a_covers a_routes a_longest a_steep a_laid u f_sight a_runs f_choir f_voices a_rest a_wins f_seed a_other a_kept H) (mA q)) args s 0 0 (mA q)) (F0 m 12 ls [])) ?_ _ _ _ hl hM hS
  intro x2 a_far hw H locs ls hl hM hS
  refine lv_iload_n hx hb dX11_findFar_12 rfl (lv_at hl 2 rfl) ?_
  refine lv_aload_n hx hb dX11_findFar_13 rfl (lv_at hl 0 rfl) ?_
  refine mg_11_307_0 zc hK hM dX11_findFar_14 ?_
  refine lv_icmp_ge (tgt := 67) hx hb dX11_findFar_17 (by decide) (fun hc => ?_) (fun hc => ?_)
  · have hw := hw.1 hc
    obtain ⟨v_1, ev_1⟩ : ∃ y : Int32, y = x1 + (1 : Int32) := ⟨_, rfl⟩
    have hw := hw v_1 ev_1
    refine lv_iinc (v := v_1) (k := 1) (lv' := [(1, .int v_1), (0, .ref q), (2, .int x2)]) hx hb dX11_findFar_67 hl rfl (by rw [ev_1]; rfl) (by decide) rfl (fun ls hl => ?_)
    refine lv_goto (tgt := 2) hx hb dX11_findFar_70 (by decide) ?_
    exact hP2 _ _ _ _ _ hw (lv_sub hl [1, 0] rfl) hM hS
  · have hw := hw.2 hc
    refine lv_aload_n hx hb dX11_findFar_20 rfl (lv_at hl 0 rfl) ?_
    refine mg_11_78_0 zc hK hM dX11_findFar_21 ?_
    refine lv_bipush (v := (9 : Int32)) hx hb dX11_findFar_24 (by decide) ?_
    refine lv_iload_n hx hb dX11_findFar_26 rfl (lv_at hl 1 rfl) ?_
    refine lv_imul hx hb dX11_findFar_27 ?_
    refine lv_iload_n hx hb dX11_findFar_28 rfl (lv_at hl 2 rfl) ?_
    refine lv_iadd hx hb dX11_findFar_29 ?_
    refine lv_iload_n hx hb dX11_findFar_30 rfl (lv_at hl 1 rfl) ?_
    refine lv_iload_n hx hb dX11_findFar_31 rfl (lv_at hl 2 rfl) ?_
    refine lv_icmp_ne (tgt := 39) hx hb dX11_findFar_32 (by decide) (fun hc => ?_) (fun hc => ?_)
    · have hw := hw.1 hc
      refine lv_aload_n hx hb dX11_findFar_39 rfl (lv_at hl 0 rfl) ?_
      refine lv_iload_n hx hb dX11_findFar_40 rfl (lv_at hl 1 rfl) ?_
      refine lv_iload_n hx hb dX11_findFar_41 rfl (lv_at hl 2 rfl) ?_
      refine zV_i [.int x1, .int x2] [.int (((9 : Int32) * x1) + x2), .ref (q + 23)] zc ky_X11_way kz_X11_way km_11_319 (c_m_way l hw) (mPreV0 hK hM) rfl rfl hl.1 (Nat.le_of_ble_eq_true rfl) ⟨rfl, rfl⟩ ⟨Nat.le_of_ble_eq_true rfl, Nat.le_of_ble_eq_true rfl⟩ ⟨(Nat.zero_le _), (Nat.zero_le _)⟩ dX11_findFar_42 (fun r_1 hw => ?_)
      refine lv_if_le (tgt := 57) hx hb dX11_findFar_45 (by decide) (fun hc => ?_) (fun hc => ?_)
      · have hw := hw.1 hc
        refine lv_ldcw (v := (1000000 : Int32)) hx hb zc.2.2.2.1 (zc.2.2.2.2.1 _ kc_11_410) dX11_findFar_57 ?_
        exact t_m_findFar_60 zc hK hM hS hP2 (fun _ _ H locs ls h hl hM hS => h H locs ls hl hM hS) (lv_sub hl [0, 1, 2] rfl) hw
      · have hw := hw.2 hc
        refine lv_aload_n hx hb dX11_findFar_48 rfl (lv_at hl 0 rfl) ?_
        refine lv_iload_n hx hb dX11_findFar_49 rfl (lv_at hl 1 rfl) ?_
        refine lv_iload_n hx hb dX11_findFar_50 rfl (lv_at hl 2 rfl) ?_
        refine zV_i [.int x1, .int x2] [.int (((9 : Int32) * x1) + x2), .ref (q + 23)] zc ky_X11_way kz_X11_way km_11_319 (c_m_way l hw) (mPreV0 hK hM) rfl rfl hl.1 (Nat.le_of_ble_eq_true rfl) ⟨rfl, rfl⟩ ⟨Nat.le_of_ble_eq_true rfl, Nat.le_of_ble_eq_true rfl⟩ ⟨(Nat.zero_le _), (Nat.zero_le _)⟩ dX11_findFar_51 (fun r_2 hw => ?_)
        refine lv_goto (tgt := 60) hx hb dX11_findFar_54 (by decide) ?_
        exact t_m_findFar_60 zc hK hM hS hP2 (fun _ _ H locs ls h hl hM hS => h H locs ls hl hM hS) (lv_sub hl [0, 1, 2] rfl) hw
    · have hw := hw.2 hc
      refine lv_iconst (v := (0 : Int32)) hx hb dX11_findFar_35 (by decide) ?_
      refine lv_goto (tgt := 60) hx hb dX11_findFar_36 (by decide) ?_
      exact t_m_findFar_60 zc hK hM hS hP2 (fun _ _ H locs ls h hl hM hS => h H locs ls hl hM hS) (lv_sub hl [0, 1, 2] rfl) hw
set_option maxRecDepth 20000 in
theorem t_m_findFar_95 {p : Program} {l : Launch} {e : Env} {s : State} {m : MethodId} {args : Array Value} {below : List Frame} {meth : Method} {c : Code} {E : zE} {q : Nat} {f_code : Int32} {a_tape : Nat → Int32} {a_size : Nat → Int32} {a_fault : Nat → Int32} {a_faultPlace : Nat → Int32} {a_many : Nat → Int32} {a_lands : Nat → Int32} {a_evenings : Nat → Int32} {a_sights : Nat → Int32} {a_choirs : Nat → Int32} {f_reached : Int32} {f_length : Int32} {f_begins : Int32} {f_sort : Int32} {f_value : Int32} {f_word : Int64} {f_wrongAt : Int32} {f_laterFault : Int32} {f_laterPlace : Int32} {a_told : Nat → Int32} {a_read : Nat → Int32} {f_farHut : Int32} {f_farSinger : Int32} {f_good : Int32} {f_land : Int32} {f_huts : Int32} {f_singers : Int32} {f_evening : Int32} {a_at : Nat → Int32} {a_knows : Nat → Int32} {a_climbed : Nat → Int32} {a_snow : Nat → Int32} {a_level : Nat → Int32} {f_begun : Int32} {f_minute : Int32} {f_avalanches : Int32} {a_run : Nat → Int32} {a_covers : Nat → Int32} {a_routes : Nat → Int32} {a_longest : Nat → Int32} {a_steep : Nat → Int32} {a_laid : Nat → Int32} {a_far : Nat → Int32} {f_sight : Int32} {a_runs : Nat → Int32} {f_choir : Int32} {f_voices : Int32} {a_rest : Nat → Int64} {a_wins : Nat → Int32} {f_seed : Int32} {a_other : Nat → Int32} {a_kept : Nat → Int32} {P75 : Int32 → (Nat → Int32) → Prop} {P85 : Int32 → (Nat → Int32) → Prop} {post : (Nat → Int32) → Prop} {x1 : Int32} {x2 : Int32} {x3 : Int32} {ls : Array Slot} {H : Heap} {locs : List Loc}
    (zc : zC p s m args meth c cX11_findFar 4 RX11 none)
    (hK : zK E s)
    (hM : mW E q f_code a_tape a_size a_fault a_faultPlace a_many a_lands a_evenings a_sights a_choirs f_reached f_length f_begins f_sort f_value f_word f_wrongAt f_laterFault f_laterPlace a_told a_read f_farHut f_farSinger f_good f_land f_huts f_singers f_evening a_at a_knows a_climbed a_snow a_level f_begun f_minute f_avalanches a_run a_covers a_routes a_longest a_steep a_laid a_far f_sight a_runs f_choir f_voices a_rest a_wins f_seed a_other a_kept H)
    (hS : va_S (mA q) s.heap H locs)
    (hP75 : ∀ (x1 : Int32) (a_far : Nat → Int32) (H : Heap) (locs : List Loc) (ls : Array Slot), P75 x1 a_far → lv_has ls 4 [(0, .ref q), (1, .int x1)] → mW E q f_code a_tape a_size a_fault a_faultPlace a_many a_lands a_evenings a_sights a_choirs f_reached f_length f_begins f_sort f_value f_word f_wrongAt f_laterFault f_laterPlace a_told a_read f_farHut f_farSinger f_good f_land f_huts f_singers f_evening a_at a_knows a_climbed a_snow a_level f_begun f_minute f_avalanches a_run a_covers a_routes a_longest a_steep a_laid a_far f_sight a_runs f_choir f_voices a_rest a_wins f_seed a_other a_kept H → va_S (mA q) s.heap H locs → W p l e rm_m_findFar s m args below meth c H locs 0 0 (MQ below (zQv (S := (Nat → Int32)) (fun u => post u) (fun u H => mW E q f_code a_tape a_size a_fault a_faultPlace a_many a_lands a_evenings a_sights a_choirs f_reached f_length f_begins f_sort f_value f_word f_wrongAt f_laterFault f_laterPlace a_told a_read f_farHut f_farSinger f_good f_land f_huts f_singers f_evening a_at a_knows a_climbed a_snow a_level f_begun f_minute f_avalanches a_run a_covers a_routes a_longest a_steep a_laid u f_sight a_runs f_choir f_voices a_rest a_wins f_seed a_other a_kept H) (mA q)) args s 0 0 (mA q)) (F0 m 75 ls []))
    (hP85 : ∀ (x2 : Int32) (a_far : Nat → Int32) (H : Heap) (locs : List Loc) (ls : Array Slot), P85 x2 a_far → lv_has ls 4 [(0, .ref q), (1, .int x1), (2, .int x2)] → mW E q f_code a_tape a_size a_fault a_faultPlace a_many a_lands a_evenings a_sights a_choirs f_reached f_length f_begins f_sort f_value f_word f_wrongAt f_laterFault f_laterPlace a_told a_read f_farHut f_farSinger f_good f_land f_huts f_singers f_evening a_at a_knows a_climbed a_snow a_level f_begun f_minute f_avalanches a_run a_covers a_routes a_longest a_steep a_laid a_far f_sight a_runs f_choir f_voices a_rest a_wins f_seed a_other a_kept H → va_S (mA q) s.heap H locs → W p l e rm_m_findFar s m args below meth c H locs 0 0 (MQ below (zQv (S := (Nat → Int32)) (fun u => post u) (fun u H => mW E q f_code a_tape a_size a_fault a_faultPlace a_many a_lands a_evenings a_sights a_choirs f_reached f_length f_begins f_sort f_value f_word f_wrongAt f_laterFault f_laterPlace a_told a_read f_farHut f_farSinger f_good f_land f_huts f_singers f_evening a_at a_knows a_climbed a_snow a_level f_begun f_minute f_avalanches a_run a_covers a_routes a_longest a_steep a_laid u f_sight a_runs f_choir f_voices a_rest a_wins f_seed a_other a_kept H) (mA q)) args s 0 0 (mA q)) (F0 m 85 ls []))
    (hl : lv_has ls 4 [(0, .ref q), (1, .int x1), (2, .int x2), (3, .int x3)])
    (hw : q_m_findFar_95 P75 P85 a_lands f_land f_huts a_far x1 x2 x3 post) :
    W p l e rm_m_findFar s m args below meth c H locs 0 0 (MQ below (zQv (S := (Nat → Int32)) (fun u => post u) (fun u H => mW E q f_code a_tape a_size a_fault a_faultPlace a_many a_lands a_evenings a_sights a_choirs f_reached f_length f_begins f_sort f_value f_word f_wrongAt f_laterFault f_laterPlace a_told a_read f_farHut f_farSinger f_good f_land f_huts f_singers f_evening a_at a_knows a_climbed a_snow a_level f_begun f_minute f_avalanches a_run a_covers a_routes a_longest a_steep a_laid u f_sight a_runs f_choir f_voices a_rest a_wins f_seed a_other a_kept H) (mA q)) args s 0 0 (mA q)) (F0 m 95 ls []) := by
  have hx := zc.1
  have hb := zc.2.1
  refine hw (fun x3 a_far => ∀ (H : Heap) (locs : List Loc) (ls : Array Slot), lv_has ls 4 [(0, .ref q), (1, .int x1), (2, .int x2), (3, .int x3)] → mW E q f_code a_tape a_size a_fault a_faultPlace a_many a_lands a_evenings a_sights a_choirs f_reached f_length f_begins f_sort f_value f_word f_wrongAt f_laterFault f_laterPlace a_told a_read f_farHut f_farSinger f_good f_land f_huts f_singers f_evening a_at a_knows a_climbed a_snow a_level f_begun f_minute f_avalanches a_run a_covers a_routes a_longest a_steep a_laid a_far f_sight a_runs f_choir f_voices a_rest a_wins f_seed a_other a_kept H → va_S (mA q) s.heap H locs → W p l e rm_m_findFar s m args below meth c H locs 0 0 (MQ below (zQv (S := (Nat → Int32)) (fun u => post u) (fun u H => mW E q f_code a_tape a_size a_fault a_faultPlace a_many a_lands a_evenings a_sights a_choirs f_reached f_length f_begins f_sort f_value f_word f_wrongAt f_laterFault f_laterPlace a_told a_read f_farHut f_farSinger f_good f_land f_huts f_singers f_evening a_at a_knows a_climbed a_snow a_level f_begun f_minute f_avalanches a_run a_covers a_routes a_longest a_steep a_laid u f_sight a_runs f_choir f_voices a_rest a_wins f_seed a_other a_kept H) (mA q)) args s 0 0 (mA q)) (F0 m 95 ls [])) ?_ _ _ _ hl hM hS
  intro x3 a_far hw H locs ls hl hM hS
  refine lv_iload_n hx hb dX11_findFar_95 rfl (lv_at hl 3 rfl) ?_
  refine lv_aload_n hx hb dX11_findFar_96 rfl (lv_at hl 0 rfl) ?_
  refine mg_11_307_0 zc hK hM dX11_findFar_97 ?_
  refine lv_icmp_ge (tgt := 157) hx hb dX11_findFar_100 (by decide) (fun hc => ?_) (fun hc => ?_)
  · have hw := hw.1 hc
    obtain ⟨v_1, ev_1⟩ : ∃ y : Int32, y = x2 + (1 : Int32) := ⟨_, rfl⟩
    have hw := hw v_1 ev_1
    refine lv_iinc (v := v_1) (k := 2) (lv' := [(2, .int v_1), (0, .ref q), (1, .int x1), (3, .int x3)]) hx hb dX11_findFar_157 hl rfl (by rw [ev_1]; rfl) (by decide) rfl (fun ls hl => ?_)
    refine lv_goto (tgt := 85) hx hb dX11_findFar_160 (by decide) ?_
    exact hP85 _ _ _ _ _ hw (lv_sub hl [1, 2, 0] rfl) hM hS
  · have hw := hw.2 hc
    refine lv_aload_n hx hb dX11_findFar_103 rfl (lv_at hl 0 rfl) ?_
    refine mg_11_78_0 zc hK hM dX11_findFar_104 ?_
    refine lv_bipush (v := (9 : Int32)) hx hb dX11_findFar_107 (by decide) ?_
    refine lv_iload_n hx hb dX11_findFar_109 rfl (lv_at hl 2 rfl) ?_
    refine lv_imul hx hb dX11_findFar_110 ?_
    refine lv_iload_n hx hb dX11_findFar_111 rfl (lv_at hl 3 rfl) ?_
    refine lv_iadd hx hb dX11_findFar_112 ?_
    refine lv_aload_n hx hb dX11_findFar_113 rfl (lv_at hl 0 rfl) ?_
    refine mg_11_78_0 zc hK hM dX11_findFar_114 ?_
    refine lv_bipush (v := (9 : Int32)) hx hb dX11_findFar_117 (by decide) ?_
    refine lv_iload_n hx hb dX11_findFar_119 rfl (lv_at hl 2 rfl) ?_
    refine lv_imul hx hb dX11_findFar_120 ?_
    refine lv_iload_n hx hb dX11_findFar_121 rfl (lv_at hl 3 rfl) ?_
    refine lv_iadd hx hb dX11_findFar_122 ?_
    refine mld_23 zc hK hM hw.1 dX11_findFar_123 ?_
    have hw := hw.2
    refine lv_aload_n hx hb dX11_findFar_124 rfl (lv_at hl 0 rfl) ?_
    refine mg_11_78_0 zc hK hM dX11_findFar_125 ?_
    refine lv_bipush (v := (9 : Int32)) hx hb dX11_findFar_128 (by decide) ?_
    refine lv_iload_n hx hb dX11_findFar_130 rfl (lv_at hl 2 rfl) ?_
    refine lv_imul hx hb dX11_findFar_131 ?_
    refine lv_iload_n hx hb dX11_findFar_132 rfl (lv_at hl 1 rfl) ?_
    refine lv_iadd hx hb dX11_findFar_133 ?_
    refine mld_23 zc hK hM hw.1 dX11_findFar_134 ?_
    have hw := hw.2
    refine lv_aload_n hx hb dX11_findFar_135 rfl (lv_at hl 0 rfl) ?_
    refine mg_11_78_0 zc hK hM dX11_findFar_136 ?_
    refine lv_bipush (v := (9 : Int32)) hx hb dX11_findFar_139 (by decide) ?_
    refine lv_iload_n hx hb dX11_findFar_141 rfl (lv_at hl 1 rfl) ?_
    refine lv_imul hx hb dX11_findFar_142 ?_
    refine lv_iload_n hx hb dX11_findFar_143 rfl (lv_at hl 3 rfl) ?_
    refine lv_iadd hx hb dX11_findFar_144 ?_
    refine mld_23 zc hK hM hw.1 dX11_findFar_145 ?_
    have hw := hw.2
    refine lv_iadd hx hb dX11_findFar_146 ?_
    refine zS_i [.int (a_far (Int32.toNatClampNeg (((9 : Int32) * x2) + x3))), .int ((a_far (Int32.toNatClampNeg (((9 : Int32) * x2) + x1))) + (a_far (Int32.toNatClampNeg (((9 : Int32) * x1) + x3))))] [.int (((9 : Int32) * x2) + x3), .ref (q + 23)] zc ky_X11_lesser kz_X11_lesser km_11_411 (c_m_lesser l hw) (zPre0 _) rfl rfl hl.1 (Nat.le_of_ble_eq_true rfl) ⟨rfl, rfl⟩ ⟨Nat.le_of_ble_eq_true rfl, Nat.le_of_ble_eq_true rfl⟩ ⟨(Nat.zero_le _), (Nat.zero_le _)⟩ dX11_findFar_147 (fun r_1 hw => ?_)
    refine mst_23 zc hK hM hS hw.1 dX11_findFar_150 (fun a_far_1 H locs ea_far_1 hM hS => ?_)
    have hw := hw.2 a_far_1 ea_far_1
    obtain ⟨v_2, ev_2⟩ : ∃ y : Int32, y = x3 + (1 : Int32) := ⟨_, rfl⟩
    have hw := hw v_2 ev_2
    refine lv_iinc (v := v_2) (k := 3) (lv' := [(3, .int v_2), (0, .ref q), (1, .int x1), (2, .int x2)]) hx hb dX11_findFar_151 hl rfl (by rw [ev_2]; rfl) (by decide) rfl (fun ls hl => ?_)
    refine lv_goto (tgt := 95) hx hb dX11_findFar_154 (by decide) ?_
    exact hw _ _ _ (lv_sub hl [1, 2, 3, 0] rfl) hM hS
set_option maxRecDepth 20000 in
theorem t_m_findFar_85 {p : Program} {l : Launch} {e : Env} {s : State} {m : MethodId} {args : Array Value} {below : List Frame} {meth : Method} {c : Code} {E : zE} {q : Nat} {f_code : Int32} {a_tape : Nat → Int32} {a_size : Nat → Int32} {a_fault : Nat → Int32} {a_faultPlace : Nat → Int32} {a_many : Nat → Int32} {a_lands : Nat → Int32} {a_evenings : Nat → Int32} {a_sights : Nat → Int32} {a_choirs : Nat → Int32} {f_reached : Int32} {f_length : Int32} {f_begins : Int32} {f_sort : Int32} {f_value : Int32} {f_word : Int64} {f_wrongAt : Int32} {f_laterFault : Int32} {f_laterPlace : Int32} {a_told : Nat → Int32} {a_read : Nat → Int32} {f_farHut : Int32} {f_farSinger : Int32} {f_good : Int32} {f_land : Int32} {f_huts : Int32} {f_singers : Int32} {f_evening : Int32} {a_at : Nat → Int32} {a_knows : Nat → Int32} {a_climbed : Nat → Int32} {a_snow : Nat → Int32} {a_level : Nat → Int32} {f_begun : Int32} {f_minute : Int32} {f_avalanches : Int32} {a_run : Nat → Int32} {a_covers : Nat → Int32} {a_routes : Nat → Int32} {a_longest : Nat → Int32} {a_steep : Nat → Int32} {a_laid : Nat → Int32} {a_far : Nat → Int32} {f_sight : Int32} {a_runs : Nat → Int32} {f_choir : Int32} {f_voices : Int32} {a_rest : Nat → Int64} {a_wins : Nat → Int32} {f_seed : Int32} {a_other : Nat → Int32} {a_kept : Nat → Int32} {P75 : Int32 → (Nat → Int32) → Prop} {post : (Nat → Int32) → Prop} {x1 : Int32} {x2 : Int32} {ls : Array Slot} {H : Heap} {locs : List Loc}
    (zc : zC p s m args meth c cX11_findFar 4 RX11 none)
    (hK : zK E s)
    (hM : mW E q f_code a_tape a_size a_fault a_faultPlace a_many a_lands a_evenings a_sights a_choirs f_reached f_length f_begins f_sort f_value f_word f_wrongAt f_laterFault f_laterPlace a_told a_read f_farHut f_farSinger f_good f_land f_huts f_singers f_evening a_at a_knows a_climbed a_snow a_level f_begun f_minute f_avalanches a_run a_covers a_routes a_longest a_steep a_laid a_far f_sight a_runs f_choir f_voices a_rest a_wins f_seed a_other a_kept H)
    (hS : va_S (mA q) s.heap H locs)
    (hP75 : ∀ (x1 : Int32) (a_far : Nat → Int32) (H : Heap) (locs : List Loc) (ls : Array Slot), P75 x1 a_far → lv_has ls 4 [(0, .ref q), (1, .int x1)] → mW E q f_code a_tape a_size a_fault a_faultPlace a_many a_lands a_evenings a_sights a_choirs f_reached f_length f_begins f_sort f_value f_word f_wrongAt f_laterFault f_laterPlace a_told a_read f_farHut f_farSinger f_good f_land f_huts f_singers f_evening a_at a_knows a_climbed a_snow a_level f_begun f_minute f_avalanches a_run a_covers a_routes a_longest a_steep a_laid a_far f_sight a_runs f_choir f_voices a_rest a_wins f_seed a_other a_kept H → va_S (mA q) s.heap H locs → W p l e rm_m_findFar s m args below meth c H locs 0 0 (MQ below (zQv (S := (Nat → Int32)) (fun u => post u) (fun u H => mW E q f_code a_tape a_size a_fault a_faultPlace a_many a_lands a_evenings a_sights a_choirs f_reached f_length f_begins f_sort f_value f_word f_wrongAt f_laterFault f_laterPlace a_told a_read f_farHut f_farSinger f_good f_land f_huts f_singers f_evening a_at a_knows a_climbed a_snow a_level f_begun f_minute f_avalanches a_run a_covers a_routes a_longest a_steep a_laid u f_sight a_runs f_choir f_voices a_rest a_wins f_seed a_other a_kept H) (mA q)) args s 0 0 (mA q)) (F0 m 75 ls []))
    (hl : lv_has ls 4 [(0, .ref q), (1, .int x1), (2, .int x2)])
    (hw : q_m_findFar_85 P75 a_lands f_land f_huts a_far x1 x2 post) :
    W p l e rm_m_findFar s m args below meth c H locs 0 0 (MQ below (zQv (S := (Nat → Int32)) (fun u => post u) (fun u H => mW E q f_code a_tape a_size a_fault a_faultPlace a_many a_lands a_evenings a_sights a_choirs f_reached f_length f_begins f_sort f_value f_word f_wrongAt f_laterFault f_laterPlace a_told a_read f_farHut f_farSinger f_good f_land f_huts f_singers f_evening a_at a_knows a_climbed a_snow a_level f_begun f_minute f_avalanches a_run a_covers a_routes a_longest a_steep a_laid u f_sight a_runs f_choir f_voices a_rest a_wins f_seed a_other a_kept H) (mA q)) args s 0 0 (mA q)) (F0 m 85 ls []) := by
  have hx := zc.1
  have hb := zc.2.1
  refine hw (fun x2 a_far => ∀ (H : Heap) (locs : List Loc) (ls : Array Slot), lv_has ls 4 [(0, .ref q), (1, .int x1), (2, .int x2)] → mW E q f_code a_tape a_size a_fault a_faultPlace a_many a_lands a_evenings a_sights a_choirs f_reached f_length f_begins f_sort f_value f_word f_wrongAt f_laterFault f_laterPlace a_told a_read f_farHut f_farSinger f_good f_land f_huts f_singers f_evening a_at a_knows a_climbed a_snow a_level f_begun f_minute f_avalanches a_run a_covers a_routes a_longest a_steep a_laid a_far f_sight a_runs f_choir f_voices a_rest a_wins f_seed a_other a_kept H → va_S (mA q) s.heap H locs → W p l e rm_m_findFar s m args below meth c H locs 0 0 (MQ below (zQv (S := (Nat → Int32)) (fun u => post u) (fun u H => mW E q f_code a_tape a_size a_fault a_faultPlace a_many a_lands a_evenings a_sights a_choirs f_reached f_length f_begins f_sort f_value f_word f_wrongAt f_laterFault f_laterPlace a_told a_read f_farHut f_farSinger f_good f_land f_huts f_singers f_evening a_at a_knows a_climbed a_snow a_level f_begun f_minute f_avalanches a_run a_covers a_routes a_longest a_steep a_laid u f_sight a_runs f_choir f_voices a_rest a_wins f_seed a_other a_kept H) (mA q)) args s 0 0 (mA q)) (F0 m 85 ls [])) ?_ _ _ _ hl hM hS
  intro x2 a_far hw H locs ls hl hM hS
  refine lv_iload_n hx hb dX11_findFar_85 rfl (lv_at hl 2 rfl) ?_
  refine lv_aload_n hx hb dX11_findFar_86 rfl (lv_at hl 0 rfl) ?_
  refine mg_11_307_0 zc hK hM dX11_findFar_87 ?_
  refine lv_icmp_ge (tgt := 163) hx hb dX11_findFar_90 (by decide) (fun hc => ?_) (fun hc => ?_)
  · have hw := hw.1 hc
    obtain ⟨v_1, ev_1⟩ : ∃ y : Int32, y = x1 + (1 : Int32) := ⟨_, rfl⟩
    have hw := hw v_1 ev_1
    refine lv_iinc (v := v_1) (k := 1) (lv' := [(1, .int v_1), (0, .ref q), (2, .int x2)]) hx hb dX11_findFar_163 hl rfl (by rw [ev_1]; rfl) (by decide) rfl (fun ls hl => ?_)
    refine lv_goto (tgt := 75) hx hb dX11_findFar_166 (by decide) ?_
    exact hP75 _ _ _ _ _ hw (lv_sub hl [1, 0] rfl) hM hS
  · have hw := hw.2 hc
    refine lv_iconst (v := (0 : Int32)) hx hb dX11_findFar_93 (by decide) ?_
    refine lv_istore_n (lv' := [(3, .int (0 : Int32)), (0, .ref q), (1, .int x1), (2, .int x2)]) hx hb dX11_findFar_94 rfl hl (by decide) rfl (fun ls hl => ?_)
    exact t_m_findFar_95 zc hK hM hS hP75 (fun _ _ H locs ls h hl hM hS => h H locs ls hl hM hS) (lv_sub hl [1, 2, 3, 0] rfl) hw
set_option maxRecDepth 20000 in
theorem t_m_findFar_75 {p : Program} {l : Launch} {e : Env} {s : State} {m : MethodId} {args : Array Value} {below : List Frame} {meth : Method} {c : Code} {E : zE} {q : Nat} {f_code : Int32} {a_tape : Nat → Int32} {a_size : Nat → Int32} {a_fault : Nat → Int32} {a_faultPlace : Nat → Int32} {a_many : Nat → Int32} {a_lands : Nat → Int32} {a_evenings : Nat → Int32} {a_sights : Nat → Int32} {a_choirs : Nat → Int32} {f_reached : Int32} {f_length : Int32} {f_begins : Int32} {f_sort : Int32} {f_value : Int32} {f_word : Int64} {f_wrongAt : Int32} {f_laterFault : Int32} {f_laterPlace : Int32} {a_told : Nat → Int32} {a_read : Nat → Int32} {f_farHut : Int32} {f_farSinger : Int32} {f_good : Int32} {f_land : Int32} {f_huts : Int32} {f_singers : Int32} {f_evening : Int32} {a_at : Nat → Int32} {a_knows : Nat → Int32} {a_climbed : Nat → Int32} {a_snow : Nat → Int32} {a_level : Nat → Int32} {f_begun : Int32} {f_minute : Int32} {f_avalanches : Int32} {a_run : Nat → Int32} {a_covers : Nat → Int32} {a_routes : Nat → Int32} {a_longest : Nat → Int32} {a_steep : Nat → Int32} {a_laid : Nat → Int32} {a_far : Nat → Int32} {f_sight : Int32} {a_runs : Nat → Int32} {f_choir : Int32} {f_voices : Int32} {a_rest : Nat → Int64} {a_wins : Nat → Int32} {f_seed : Int32} {a_other : Nat → Int32} {a_kept : Nat → Int32} {post : (Nat → Int32) → Prop} {x1 : Int32} {ls : Array Slot} {H : Heap} {locs : List Loc}
    (zc : zC p s m args meth c cX11_findFar 4 RX11 none)
    (hK : zK E s)
    (hM : mW E q f_code a_tape a_size a_fault a_faultPlace a_many a_lands a_evenings a_sights a_choirs f_reached f_length f_begins f_sort f_value f_word f_wrongAt f_laterFault f_laterPlace a_told a_read f_farHut f_farSinger f_good f_land f_huts f_singers f_evening a_at a_knows a_climbed a_snow a_level f_begun f_minute f_avalanches a_run a_covers a_routes a_longest a_steep a_laid a_far f_sight a_runs f_choir f_voices a_rest a_wins f_seed a_other a_kept H)
    (hS : va_S (mA q) s.heap H locs)
    (hl : lv_has ls 4 [(0, .ref q), (1, .int x1)])
    (hw : q_m_findFar_75 a_lands f_land f_huts a_far x1 post) :
    W p l e rm_m_findFar s m args below meth c H locs 0 0 (MQ below (zQv (S := (Nat → Int32)) (fun u => post u) (fun u H => mW E q f_code a_tape a_size a_fault a_faultPlace a_many a_lands a_evenings a_sights a_choirs f_reached f_length f_begins f_sort f_value f_word f_wrongAt f_laterFault f_laterPlace a_told a_read f_farHut f_farSinger f_good f_land f_huts f_singers f_evening a_at a_knows a_climbed a_snow a_level f_begun f_minute f_avalanches a_run a_covers a_routes a_longest a_steep a_laid u f_sight a_runs f_choir f_voices a_rest a_wins f_seed a_other a_kept H) (mA q)) args s 0 0 (mA q)) (F0 m 75 ls []) := by
  have hx := zc.1
  have hb := zc.2.1
  refine hw (fun x1 a_far => ∀ (H : Heap) (locs : List Loc) (ls : Array Slot), lv_has ls 4 [(0, .ref q), (1, .int x1)] → mW E q f_code a_tape a_size a_fault a_faultPlace a_many a_lands a_evenings a_sights a_choirs f_reached f_length f_begins f_sort f_value f_word f_wrongAt f_laterFault f_laterPlace a_told a_read f_farHut f_farSinger f_good f_land f_huts f_singers f_evening a_at a_knows a_climbed a_snow a_level f_begun f_minute f_avalanches a_run a_covers a_routes a_longest a_steep a_laid a_far f_sight a_runs f_choir f_voices a_rest a_wins f_seed a_other a_kept H → va_S (mA q) s.heap H locs → W p l e rm_m_findFar s m args below meth c H locs 0 0 (MQ below (zQv (S := (Nat → Int32)) (fun u => post u) (fun u H => mW E q f_code a_tape a_size a_fault a_faultPlace a_many a_lands a_evenings a_sights a_choirs f_reached f_length f_begins f_sort f_value f_word f_wrongAt f_laterFault f_laterPlace a_told a_read f_farHut f_farSinger f_good f_land f_huts f_singers f_evening a_at a_knows a_climbed a_snow a_level f_begun f_minute f_avalanches a_run a_covers a_routes a_longest a_steep a_laid u f_sight a_runs f_choir f_voices a_rest a_wins f_seed a_other a_kept H) (mA q)) args s 0 0 (mA q)) (F0 m 75 ls [])) ?_ _ _ _ hl hM hS
  intro x1 a_far hw H locs ls hl hM hS
  refine lv_iload_n hx hb dX11_findFar_75 rfl (lv_at hl 1 rfl) ?_
  refine lv_aload_n hx hb dX11_findFar_76 rfl (lv_at hl 0 rfl) ?_
  refine mg_11_307_0 zc hK hM dX11_findFar_77 ?_
  refine lv_icmp_ge (tgt := 169) hx hb dX11_findFar_80 (by decide) (fun hc => ?_) (fun hc => ?_)
  · have hw := hw.1 hc
    exact zret_vw a_far zc hS hw hM dX11_findFar_169
  · have hw := hw.2 hc
    refine lv_iconst (v := (0 : Int32)) hx hb dX11_findFar_83 (by decide) ?_
    refine lv_istore_n (lv' := [(2, .int (0 : Int32)), (0, .ref q), (1, .int x1)]) hx hb dX11_findFar_84 rfl hl (by decide) rfl (fun ls hl => ?_)
    exact t_m_findFar_85 zc hK hM hS (fun _ _ H locs ls h hl hM hS => h H locs ls hl hM hS) (lv_sub hl [1, 2, 0] rfl) hw
set_option maxRecDepth 20000 in
theorem t_m_findFar_2 {p : Program} {l : Launch} {e : Env} {s : State} {m : MethodId} {args : Array Value} {below : List Frame} {meth : Method} {c : Code} {E : zE} {q : Nat} {f_code : Int32} {a_tape : Nat → Int32} {a_size : Nat → Int32} {a_fault : Nat → Int32} {a_faultPlace : Nat → Int32} {a_many : Nat → Int32} {a_lands : Nat → Int32} {a_evenings : Nat → Int32} {a_sights : Nat → Int32} {a_choirs : Nat → Int32} {f_reached : Int32} {f_length : Int32} {f_begins : Int32} {f_sort : Int32} {f_value : Int32} {f_word : Int64} {f_wrongAt : Int32} {f_laterFault : Int32} {f_laterPlace : Int32} {a_told : Nat → Int32} {a_read : Nat → Int32} {f_farHut : Int32} {f_farSinger : Int32} {f_good : Int32} {f_land : Int32} {f_huts : Int32} {f_singers : Int32} {f_evening : Int32} {a_at : Nat → Int32} {a_knows : Nat → Int32} {a_climbed : Nat → Int32} {a_snow : Nat → Int32} {a_level : Nat → Int32} {f_begun : Int32} {f_minute : Int32} {f_avalanches : Int32} {a_run : Nat → Int32} {a_covers : Nat → Int32} {a_routes : Nat → Int32} {a_longest : Nat → Int32} {a_steep : Nat → Int32} {a_laid : Nat → Int32} {a_far : Nat → Int32} {f_sight : Int32} {a_runs : Nat → Int32} {f_choir : Int32} {f_voices : Int32} {a_rest : Nat → Int64} {a_wins : Nat → Int32} {f_seed : Int32} {a_other : Nat → Int32} {a_kept : Nat → Int32} {post : (Nat → Int32) → Prop} {x1 : Int32} {ls : Array Slot} {H : Heap} {locs : List Loc}
    (zc : zC p s m args meth c cX11_findFar 4 RX11 none)
    (hK : zK E s)
    (hM : mW E q f_code a_tape a_size a_fault a_faultPlace a_many a_lands a_evenings a_sights a_choirs f_reached f_length f_begins f_sort f_value f_word f_wrongAt f_laterFault f_laterPlace a_told a_read f_farHut f_farSinger f_good f_land f_huts f_singers f_evening a_at a_knows a_climbed a_snow a_level f_begun f_minute f_avalanches a_run a_covers a_routes a_longest a_steep a_laid a_far f_sight a_runs f_choir f_voices a_rest a_wins f_seed a_other a_kept H)
    (hS : va_S (mA q) s.heap H locs)
    (hl : lv_has ls 4 [(0, .ref q), (1, .int x1)])
    (hw : q_m_findFar_2 a_lands f_land f_huts a_far x1 post) :
    W p l e rm_m_findFar s m args below meth c H locs 0 0 (MQ below (zQv (S := (Nat → Int32)) (fun u => post u) (fun u H => mW E q f_code a_tape a_size a_fault a_faultPlace a_many a_lands a_evenings a_sights a_choirs f_reached f_length f_begins f_sort f_value f_word f_wrongAt f_laterFault f_laterPlace a_told a_read f_farHut f_farSinger f_good f_land f_huts f_singers f_evening a_at a_knows a_climbed a_snow a_level f_begun f_minute f_avalanches a_run a_covers a_routes a_longest a_steep a_laid u f_sight a_runs f_choir f_voices a_rest a_wins f_seed a_other a_kept H) (mA q)) args s 0 0 (mA q)) (F0 m 2 ls []) := by
  have hx := zc.1
  have hb := zc.2.1
  refine hw (fun x1 a_far => ∀ (H : Heap) (locs : List Loc) (ls : Array Slot), lv_has ls 4 [(0, .ref q), (1, .int x1)] → mW E q f_code a_tape a_size a_fault a_faultPlace a_many a_lands a_evenings a_sights a_choirs f_reached f_length f_begins f_sort f_value f_word f_wrongAt f_laterFault f_laterPlace a_told a_read f_farHut f_farSinger f_good f_land f_huts f_singers f_evening a_at a_knows a_climbed a_snow a_level f_begun f_minute f_avalanches a_run a_covers a_routes a_longest a_steep a_laid a_far f_sight a_runs f_choir f_voices a_rest a_wins f_seed a_other a_kept H → va_S (mA q) s.heap H locs → W p l e rm_m_findFar s m args below meth c H locs 0 0 (MQ below (zQv (S := (Nat → Int32)) (fun u => post u) (fun u H => mW E q f_code a_tape a_size a_fault a_faultPlace a_many a_lands a_evenings a_sights a_choirs f_reached f_length f_begins f_sort f_value f_word f_wrongAt f_laterFault f_laterPlace a_told a_read f_farHut f_farSinger f_good f_land f_huts f_singers f_evening a_at a_knows a_climbed a_snow a_level f_begun f_minute f_avalanches a_run a_covers a_routes a_longest a_steep a_laid u f_sight a_runs f_choir f_voices a_rest a_wins f_seed a_other a_kept H) (mA q)) args s 0 0 (mA q)) (F0 m 2 ls [])) ?_ _ _ _ hl hM hS
  intro x1 a_far hw H locs ls hl hM hS
  refine lv_iload_n hx hb dX11_findFar_2 rfl (lv_at hl 1 rfl) ?_
  refine lv_aload_n hx hb dX11_findFar_3 rfl (lv_at hl 0 rfl) ?_
  refine mg_11_307_0 zc hK hM dX11_findFar_4 ?_
  refine lv_icmp_ge (tgt := 73) hx hb dX11_findFar_7 (by decide) (fun hc => ?_) (fun hc => ?_)
  · have hw := hw.1 hc
    refine lv_iconst (v := (0 : Int32)) hx hb dX11_findFar_73 (by decide) ?_
    refine lv_istore_n (lv' := [(1, .int (0 : Int32)), (0, .ref q)]) hx hb dX11_findFar_74 rfl hl (by decide) rfl (fun ls hl => ?_)
    exact t_m_findFar_75 zc hK hM hS  (lv_sub hl [1, 0] rfl) hw
  · have hw := hw.2 hc
    refine lv_iconst (v := (0 : Int32)) hx hb dX11_findFar_10 (by decide) ?_
    refine lv_istore_n (lv' := [(2, .int (0 : Int32)), (0, .ref q), (1, .int x1)]) hx hb dX11_findFar_11 rfl hl (by decide) rfl (fun ls hl => ?_)
    exact t_m_findFar_12 zc hK hM hS (fun _ _ H locs ls h hl hM hS => h H locs ls hl hM hS) (lv_sub hl [1, 2, 0] rfl) hw
set_option maxRecDepth 20000 in
theorem t_m_findFar_0 {p : Program} {l : Launch} {e : Env} {s : State} {m : MethodId} {args : Array Value} {below : List Frame} {meth : Method} {c : Code} {E : zE} {q : Nat} {f_code : Int32} {a_tape : Nat → Int32} {a_size : Nat → Int32} {a_fault : Nat → Int32} {a_faultPlace : Nat → Int32} {a_many : Nat → Int32} {a_lands : Nat → Int32} {a_evenings : Nat → Int32} {a_sights : Nat → Int32} {a_choirs : Nat → Int32} {f_reached : Int32} {f_length : Int32} {f_begins : Int32} {f_sort : Int32} {f_value : Int32} {f_word : Int64} {f_wrongAt : Int32} {f_laterFault : Int32} {f_laterPlace : Int32} {a_told : Nat → Int32} {a_read : Nat → Int32} {f_farHut : Int32} {f_farSinger : Int32} {f_good : Int32} {f_land : Int32} {f_huts : Int32} {f_singers : Int32} {f_evening : Int32} {a_at : Nat → Int32} {a_knows : Nat → Int32} {a_climbed : Nat → Int32} {a_snow : Nat → Int32} {a_level : Nat → Int32} {f_begun : Int32} {f_minute : Int32} {f_avalanches : Int32} {a_run : Nat → Int32} {a_covers : Nat → Int32} {a_routes : Nat → Int32} {a_longest : Nat → Int32} {a_steep : Nat → Int32} {a_laid : Nat → Int32} {a_far : Nat → Int32} {f_sight : Int32} {a_runs : Nat → Int32} {f_choir : Int32} {f_voices : Int32} {a_rest : Nat → Int64} {a_wins : Nat → Int32} {f_seed : Int32} {a_other : Nat → Int32} {a_kept : Nat → Int32} {post : (Nat → Int32) → Prop} {ls : Array Slot} {H : Heap} {locs : List Loc}
    (zc : zC p s m args meth c cX11_findFar 4 RX11 none)
    (hK : zK E s)
    (hM : mW E q f_code a_tape a_size a_fault a_faultPlace a_many a_lands a_evenings a_sights a_choirs f_reached f_length f_begins f_sort f_value f_word f_wrongAt f_laterFault f_laterPlace a_told a_read f_farHut f_farSinger f_good f_land f_huts f_singers f_evening a_at a_knows a_climbed a_snow a_level f_begun f_minute f_avalanches a_run a_covers a_routes a_longest a_steep a_laid a_far f_sight a_runs f_choir f_voices a_rest a_wins f_seed a_other a_kept H)
    (hS : va_S (mA q) s.heap H locs)
    (hl : lv_has ls 4 [(0, .ref q)])
    (hw : q_m_findFar_0 a_lands f_land f_huts a_far post) :
    W p l e rm_m_findFar s m args below meth c H locs 0 0 (MQ below (zQv (S := (Nat → Int32)) (fun u => post u) (fun u H => mW E q f_code a_tape a_size a_fault a_faultPlace a_many a_lands a_evenings a_sights a_choirs f_reached f_length f_begins f_sort f_value f_word f_wrongAt f_laterFault f_laterPlace a_told a_read f_farHut f_farSinger f_good f_land f_huts f_singers f_evening a_at a_knows a_climbed a_snow a_level f_begun f_minute f_avalanches a_run a_covers a_routes a_longest a_steep a_laid u f_sight a_runs f_choir f_voices a_rest a_wins f_seed a_other a_kept H) (mA q)) args s 0 0 (mA q)) (F0 m 0 ls []) := by
  have hx := zc.1
  have hb := zc.2.1
  refine lv_iconst (v := (0 : Int32)) hx hb dX11_findFar_0 (by decide) ?_
  refine lv_istore_n (lv' := [(1, .int (0 : Int32)), (0, .ref q)]) hx hb dX11_findFar_1 rfl hl (by decide) rfl (fun ls hl => ?_)
  exact t_m_findFar_2 zc hK hM hS  (lv_sub hl [1, 0] rfl) hw
set_option maxRecDepth 20000 in
theorem c_m_findFar (l : Launch) {E : zE} {q : Nat} {f_code : Int32} {a_tape : Nat → Int32} {a_size : Nat → Int32} {a_fault : Nat → Int32} {a_faultPlace : Nat → Int32} {a_many : Nat → Int32} {a_lands : Nat → Int32} {a_evenings : Nat → Int32} {a_sights : Nat → Int32} {a_choirs : Nat → Int32} {f_reached : Int32} {f_length : Int32} {f_begins : Int32} {f_sort : Int32} {f_value : Int32} {f_word : Int64} {f_wrongAt : Int32} {f_laterFault : Int32} {f_laterPlace : Int32} {a_told : Nat → Int32} {a_read : Nat → Int32} {f_farHut : Int32} {f_farSinger : Int32} {f_good : Int32} {f_land : Int32} {f_huts : Int32} {f_singers : Int32} {f_evening : Int32} {a_at : Nat → Int32} {a_knows : Nat → Int32} {a_climbed : Nat → Int32} {a_snow : Nat → Int32} {a_level : Nat → Int32} {f_begun : Int32} {f_minute : Int32} {f_avalanches : Int32} {a_run : Nat → Int32} {a_covers : Nat → Int32} {a_routes : Nat → Int32} {a_longest : Nat → Int32} {a_steep : Nat → Int32} {a_laid : Nat → Int32} {a_far : Nat → Int32} {f_sight : Int32} {a_runs : Nat → Int32} {f_choir : Int32} {f_voices : Int32} {a_rest : Nat → Int64} {a_wins : Nat → Int32} {f_seed : Int32} {a_other : Nat → Int32} {a_kept : Nat → Int32} {post : (Nat → Int32) → Prop} (hw : q_m_findFar_0 a_lands f_land f_huts a_far post) : Met l yX11_findFar (Cond.code yX11_findFar cX11_findFar 4 none :: zb) rm_m_findFar (va_Pc [.ref q] (fun U => mW E q f_code a_tape a_size a_fault a_faultPlace a_many a_lands a_evenings a_sights a_choirs f_reached f_length f_begins f_sort f_value f_word f_wrongAt f_laterFault f_laterPlace a_told a_read f_farHut f_farSinger f_good f_land f_huts f_singers f_evening a_at a_knows a_climbed a_snow a_level f_begun f_minute f_avalanches a_run a_covers a_routes a_longest a_steep a_laid a_far f_sight a_runs f_choir f_voices a_rest a_wins f_seed a_other a_kept U.heap ∧ zK E U)) (zQv (S := (Nat → Int32)) (fun u => post u) (fun u H => mW E q f_code a_tape a_size a_fault a_faultPlace a_many a_lands a_evenings a_sights a_choirs f_reached f_length f_begins f_sort f_value f_word f_wrongAt f_laterFault f_laterPlace a_told a_read f_farHut f_farSinger f_good f_land f_huts f_singers f_evening a_at a_knows a_climbed a_snow a_level f_begun f_minute f_avalanches a_run a_covers a_routes a_longest a_steep a_laid u f_sight a_runs f_choir f_voices a_rest a_wins f_seed a_other a_kept H) (mA q)) 0 0 (mA q) := by
  refine Met.ofW (cc := cX11_findFar) (maxL := 4) (ret := none) (by decide) rfl ?_
  intro p e s m args below meth c s₁ B hml hv
  obtain ⟨rfl, hM, hK⟩ := hv
  have zc := zc_of B hml
  have hl := lv_entry ([.ref q]) (n := 4) (Nat.le_of_ble_eq_true rfl)
  rw [lg_entry_eq]
  generalize (lg_sl ([.ref q]) ++ List.replicate (4 - (lg_sl ([.ref q])).length) Slot.unset).toArray = ls at hl ⊢
  have hl : lv_has ls 4 [(0, .ref q)] := hl
  exact t_m_findFar_0 zc hK hM va_S.rf (lv_sub hl [0] rfl) hw
-- m_masses
abbrev rm_m_masses : Room := { frames := 3, cells := 0, slots := 0, locals := 69 }
def q_m_masses_94 (P32 : Int32 → (Nat → Int32) → Prop) (P52 : Int32 → (Nat → Int32) → Prop) (f_code : Int32) (a_many : Nat → Int32) (a_lands : Nat → Int32) (f_land : Int32) (f_huts : Int32) (f_singers : Int32) (a_covers : Nat → Int32) (a_far : Nat → Int32) (x2 : Int32) (x3 : Int32) (x4 : Int32) (x5 : Int32) (y0 : Int32) (y1 : Int32) (y2 : Int32) (post : Int32 → (Int32) → (Int32) → (Int32) → (Int32) → (Nat → Int32) → (Nat → Int32) → Prop) : Prop :=
  ∀ v_1 : Int32, v_1 = (y1 ||| y2) → (vp_in y0 9 ∧ (∀ a_covers_1 : Nat → Int32, a_covers_1 = upd a_covers (Int32.toNatClampNeg y0) v_1 → (∀ v_2 : Int32, v_2 = x5 + (1 : Int32) → (P52 v_2 a_covers_1))))
def q_m_masses_52 (P32 : Int32 → (Nat → Int32) → Prop) (f_code : Int32) (a_many : Nat → Int32) (a_lands : Nat → Int32) (f_land : Int32) (f_huts : Int32) (f_singers : Int32) (a_covers : Nat → Int32) (a_far : Nat → Int32) (x2 : Int32) (x3 : Int32) (x4 : Int32) (x5 : Int32) (post : Int32 → (Int32) → (Int32) → (Int32) → (Int32) → (Nat → Int32) → (Nat → Int32) → Prop) : Prop :=
  ∀ P52 : Int32 → (Nat → Int32) → Prop, (∀ (x5 : Int32) (a_covers : Nat → Int32), ((f_huts ≤ x5 → (∀ v_1 : Int32, v_1 = x4 + (1 : Int32) → (P32 v_1 a_covers))) ∧ (¬ f_huts ≤ x5 → (vp_in x4 9 ∧ (vp_in (((9 : Int32) * x4) + x5) 81 ∧ ((x2 < (a_far (Int32.toNatClampNeg (((9 : Int32) * x4) + x5))) → (q_m_masses_94 P32 P52 f_code a_many a_lands f_land f_huts f_singers a_covers a_far x2 x3 x4 x5 x4 (a_covers (Int32.toNatClampNeg x4)) (0 : Int32) post)) ∧ (¬ x2 < (a_far (Int32.toNatClampNeg (((9 : Int32) * x4) + x5))) → (q_m_masses_94 P32 P52 f_code a_many a_lands f_land f_huts f_singers a_covers a_far x2 x3 x4 x5 x4 (a_covers (Int32.toNatClampNeg x4)) ((1 : Int32) <<< (x5 &&& 31)) post))))))) → P52 x5 a_covers) → P52 x5 a_covers
def q_m_masses_32 (f_code : Int32) (a_many : Nat → Int32) (a_lands : Nat → Int32) (f_land : Int32) (f_huts : Int32) (f_singers : Int32) (a_covers : Nat → Int32) (a_far : Nat → Int32) (x2 : Int32) (x3 : Int32) (x4 : Int32) (post : Int32 → (Int32) → (Int32) → (Int32) → (Int32) → (Nat → Int32) → (Nat → Int32) → Prop) : Prop :=
  ∀ P32 : Int32 → (Nat → Int32) → Prop, (∀ (x4 : Int32) (a_covers : Nat → Int32), ((f_huts ≤ x4 → (q_m_of_0 a_lands f_land (2 : Int32) (fun r_1 => q_m_fewest_0 f_huts a_covers (((1 : Int32) <<< (f_huts &&& 31)) - (1 : Int32)) r_1 (fun r_2 => (x3 = 0 → (q_m_ones_0 r_2 (fun r_3 => post r_3 f_code f_land f_huts f_singers a_covers a_far))) ∧ (¬ x3 = 0 → (post r_2 f_code f_land f_huts f_singers a_covers a_far)))))) ∧ (¬ f_huts ≤ x4 → (vp_in x4 9 ∧ (∀ a_covers_1 : Nat → Int32, a_covers_1 = upd a_covers (Int32.toNatClampNeg x4) (0 : Int32) → (q_m_masses_52 P32 f_code a_many a_lands f_land f_huts f_singers a_covers_1 a_far x2 x3 x4 (0 : Int32) post))))) → P32 x4 a_covers) → P32 x4 a_covers
def q_m_masses_0 (f_code : Int32) (a_many : Nat → Int32) (a_lands : Nat → Int32) (f_land : Int32) (f_huts : Int32) (f_singers : Int32) (a_covers : Nat → Int32) (a_far : Nat → Int32) (x1 : Int32) (x2 : Int32) (x3 : Int32) (post : Int32 → (Int32) → (Int32) → (Int32) → (Int32) → (Nat → Int32) → (Nat → Int32) → Prop) : Prop :=
  q_m_hand_0 a_many a_lands f_land f_huts f_singers x1 (fun r_1 f_land_1 f_huts_1 f_singers_1 => (r_1 = 0 → (post (-1 : Int32) (0 : Int32) f_land_1 f_huts_1 f_singers_1 a_covers a_far)) ∧ (¬ r_1 = 0 → (q_m_in_0 x2 (0 : Int32) (99 : Int32) (fun r_2 => (¬ r_2 = 0 → (q_m_findFar_0 a_lands f_land_1 f_huts_1 a_far (fun a_far_1 => q_m_masses_32 (0 : Int32) a_many a_lands f_land_1 f_huts_1 f_singers_1 a_covers a_far_1 x2 x3 (0 : Int32) post))) ∧ (r_2 = 0 → (post (-1 : Int32) (0 : Int32) f_land_1 f_huts_1 f_singers_1 a_covers a_far))))))
set_option maxRecDepth 20000 in
theorem t_m_masses_94 {p : Program} {l : Launch} {e : Env} {s : State} {m : MethodId} {args : Array Value} {below : List Frame} {meth : Method} {c : Code} {E : zE} {q : Nat} {f_code : Int32} {a_tape : Nat → Int32} {a_size : Nat → Int32} {a_fault : Nat → Int32} {a_faultPlace : Nat → Int32} {a_many : Nat → Int32} {a_lands : Nat → Int32} {a_evenings : Nat → Int32} {a_sights : Nat → Int32} {a_choirs : Nat → Int32} {f_reached : Int32} {f_length : Int32} {f_begins : Int32} {f_sort : Int32} {f_value : Int32} {f_word : Int64} {f_wrongAt : Int32} {f_laterFault : Int32} {f_laterPlace : Int32} {a_told : Nat → Int32} {a_read : Nat → Int32} {f_farHut : Int32} {f_farSinger : Int32} {f_good : Int32} {f_land : Int32} {f_huts : Int32} {f_singers : Int32} {f_evening : Int32} {a_at : Nat → Int32} {a_knows : Nat → Int32} {a_climbed : Nat → Int32} {a_snow : Nat → Int32} {a_level : Nat → Int32} {f_begun : Int32} {f_minute : Int32} {f_avalanches : Int32} {a_run : Nat → Int32} {a_covers : Nat → Int32} {a_routes : Nat → Int32} {a_longest : Nat → Int32} {a_steep : Nat → Int32} {a_laid : Nat → Int32} {a_far : Nat → Int32} {f_sight : Int32} {a_runs : Nat → Int32} {f_choir : Int32} {f_voices : Int32} {a_rest : Nat → Int64} {a_wins : Nat → Int32} {f_seed : Int32} {a_other : Nat → Int32} {a_kept : Nat → Int32} {P32 : Int32 → (Nat → Int32) → Prop} {P52 : Int32 → (Nat → Int32) → Prop} {post : Int32 → (Int32) → (Int32) → (Int32) → (Int32) → (Nat → Int32) → (Nat → Int32) → Prop} {x2 : Int32} {x3 : Int32} {x4 : Int32} {x5 : Int32} {y0 : Int32} {y1 : Int32} {y2 : Int32} {ls : Array Slot} {H : Heap} {locs : List Loc}
    (zc : zC p s m args meth c cX11_masses 6 RX11 (some .int))
    (hK : zK E s)
    (hM : mW E q f_code a_tape a_size a_fault a_faultPlace a_many a_lands a_evenings a_sights a_choirs f_reached f_length f_begins f_sort f_value f_word f_wrongAt f_laterFault f_laterPlace a_told a_read f_farHut f_farSinger f_good f_land f_huts f_singers f_evening a_at a_knows a_climbed a_snow a_level f_begun f_minute f_avalanches a_run a_covers a_routes a_longest a_steep a_laid a_far f_sight a_runs f_choir f_voices a_rest a_wins f_seed a_other a_kept H)
    (hS : va_S (mA q) s.heap H locs)
    (hP32 : ∀ (x4 : Int32) (a_covers : Nat → Int32) (H : Heap) (locs : List Loc) (ls : Array Slot), P32 x4 a_covers → lv_has ls 6 [(0, .ref q), (2, .int x2), (3, .int x3), (4, .int x4)] → mW E q f_code a_tape a_size a_fault a_faultPlace a_many a_lands a_evenings a_sights a_choirs f_reached f_length f_begins f_sort f_value f_word f_wrongAt f_laterFault f_laterPlace a_told a_read f_farHut f_farSinger f_good f_land f_huts f_singers f_evening a_at a_knows a_climbed a_snow a_level f_begun f_minute f_avalanches a_run a_covers a_routes a_longest a_steep a_laid a_far f_sight a_runs f_choir f_voices a_rest a_wins f_seed a_other a_kept H → va_S (mA q) s.heap H locs → W p l e rm_m_masses s m args below meth c H locs 0 0 (MQ below (zQi (S := (Int32) × (Int32) × (Int32) × (Int32) × (Nat → Int32) × (Nat → Int32)) (fun r u => post r u.1 u.2.1 u.2.2.1 u.2.2.2.1 u.2.2.2.2.1 u.2.2.2.2.2) (fun u H => mW E q u.1 a_tape a_size a_fault a_faultPlace a_many a_lands a_evenings a_sights a_choirs f_reached f_length f_begins f_sort f_value f_word f_wrongAt f_laterFault f_laterPlace a_told a_read f_farHut f_farSinger f_good u.2.1 u.2.2.1 u.2.2.2.1 f_evening a_at a_knows a_climbed a_snow a_level f_begun f_minute f_avalanches a_run u.2.2.2.2.1 a_routes a_longest a_steep a_laid u.2.2.2.2.2 f_sight a_runs f_choir f_voices a_rest a_wins f_seed a_other a_kept H) (mA q)) args s 0 0 (mA q)) (F0 m 32 ls []))
    (hP52 : ∀ (x5 : Int32) (a_covers : Nat → Int32) (H : Heap) (locs : List Loc) (ls : Array Slot), P52 x5 a_covers → lv_has ls 6 [(0, .ref q), (2, .int x2), (3, .int x3), (4, .int x4), (5, .int x5)] → mW E q f_code a_tape a_size a_fault a_faultPlace a_many a_lands a_evenings a_sights a_choirs f_reached f_length f_begins f_sort f_value f_word f_wrongAt f_laterFault f_laterPlace a_told a_read f_farHut f_farSinger f_good f_land f_huts f_singers f_evening a_at a_knows a_climbed a_snow a_level f_begun f_minute f_avalanches a_run a_covers a_routes a_longest a_steep a_laid a_far f_sight a_runs f_choir f_voices a_rest a_wins f_seed a_other a_kept H → va_S (mA q) s.heap H locs → W p l e rm_m_masses s m args below meth c H locs 0 0 (MQ below (zQi (S := (Int32) × (Int32) × (Int32) × (Int32) × (Nat → Int32) × (Nat → Int32)) (fun r u => post r u.1 u.2.1 u.2.2.1 u.2.2.2.1 u.2.2.2.2.1 u.2.2.2.2.2) (fun u H => mW E q u.1 a_tape a_size a_fault a_faultPlace a_many a_lands a_evenings a_sights a_choirs f_reached f_length f_begins f_sort f_value f_word f_wrongAt f_laterFault f_laterPlace a_told a_read f_farHut f_farSinger f_good u.2.1 u.2.2.1 u.2.2.2.1 f_evening a_at a_knows a_climbed a_snow a_level f_begun f_minute f_avalanches a_run u.2.2.2.2.1 a_routes a_longest a_steep a_laid u.2.2.2.2.2 f_sight a_runs f_choir f_voices a_rest a_wins f_seed a_other a_kept H) (mA q)) args s 0 0 (mA q)) (F0 m 52 ls []))
    (hl : lv_has ls 6 [(0, .ref q), (2, .int x2), (3, .int x3), (4, .int x4), (5, .int x5)])
    (hw : q_m_masses_94 P32 P52 f_code a_many a_lands f_land f_huts f_singers a_covers a_far x2 x3 x4 x5 y0 y1 y2 post) :
    W p l e rm_m_masses s m args below meth c H locs 0 0 (MQ below (zQi (S := (Int32) × (Int32) × (Int32) × (Int32) × (Nat → Int32) × (Nat → Int32)) (fun r u => post r u.1 u.2.1 u.2.2.1 u.2.2.2.1 u.2.2.2.2.1 u.2.2.2.2.2) (fun u H => mW E q u.1 a_tape a_size a_fault a_faultPlace a_many a_lands a_evenings a_sights a_choirs f_reached f_length f_begins f_sort f_value f_word f_wrongAt f_laterFault f_laterPlace a_told a_read f_farHut f_farSinger f_good u.2.1 u.2.2.1 u.2.2.2.1 f_evening a_at a_knows a_climbed a_snow a_level f_begun f_minute f_avalanches a_run u.2.2.2.2.1 a_routes a_longest a_steep a_laid u.2.2.2.2.2 f_sight a_runs f_choir f_voices a_rest a_wins f_seed a_other a_kept H) (mA q)) args s 0 0 (mA q)) (F0 m 94 ls [.int y2, .int y1, .int y0, .ref (q + 18)]) := by
  have hx := zc.1
  have hb := zc.2.1
  refine lv_ior hx hb dX11_masses_94 ?_
  refine lv_topi (fun v_1 ev_1 => ?_)
  have hw := hw v_1 ev_1
  refine mst_18 zc hK hM hS hw.1 dX11_masses_95 (fun a_covers_1 H locs ea_covers_1 hM hS => ?_)
  have hw := hw.2 a_covers_1 ea_covers_1
  obtain ⟨v_2, ev_2⟩ : ∃ y : Int32, y = x5 + (1 : Int32) := ⟨_, rfl⟩
  have hw := hw v_2 ev_2
  refine lv_iinc (v := v_2) (k := 4) (lv' := [(5, .int v_2), (0, .ref q), (2, .int x2), (3, .int x3), (4, .int x4)]) hx hb dX11_masses_96 hl rfl (by rw [ev_2]; rfl) (by decide) rfl (fun ls hl => ?_)
  refine lv_goto (tgt := 52) hx hb dX11_masses_99 (by decide) ?_
  exact hP52 _ _ _ _ _ hw (lv_sub hl [1, 2, 3, 4, 0] rfl) hM hS
set_option maxRecDepth 20000 in
theorem t_m_masses_52 {p : Program} {l : Launch} {e : Env} {s : State} {m : MethodId} {args : Array Value} {below : List Frame} {meth : Method} {c : Code} {E : zE} {q : Nat} {f_code : Int32} {a_tape : Nat → Int32} {a_size : Nat → Int32} {a_fault : Nat → Int32} {a_faultPlace : Nat → Int32} {a_many : Nat → Int32} {a_lands : Nat → Int32} {a_evenings : Nat → Int32} {a_sights : Nat → Int32} {a_choirs : Nat → Int32} {f_reached : Int32} {f_length : Int32} {f_begins : Int32} {f_sort : Int32} {f_value : Int32} {f_word : Int64} {f_wrongAt : Int32} {f_laterFault : Int32} {f_laterPlace : Int32} {a_told : Nat → Int32} {a_read : Nat → Int32} {f_farHut : Int32} {f_farSinger : Int32} {f_good : Int32} {f_land : Int32} {f_huts : Int32} {f_singers : Int32} {f_evening : Int32} {a_at : Nat → Int32} {a_knows : Nat → Int32} {a_climbed : Nat → Int32} {a_snow : Nat → Int32} {a_level : Nat → Int32} {f_begun : Int32} {f_minute : Int32} {f_avalanches : Int32} {a_run : Nat → Int32} {a_covers : Nat → Int32} {a_routes : Nat → Int32} {a_longest : Nat → Int32} {a_steep : Nat → Int32} {a_laid : Nat → Int32} {a_far : Nat → Int32} {f_sight : Int32} {a_runs : Nat → Int32} {f_choir : Int32} {f_voices : Int32} {a_rest : Nat → Int64} {a_wins : Nat → Int32} {f_seed : Int32} {a_other : Nat → Int32} {a_kept : Nat → Int32} {P32 : Int32 → (Nat → Int32) → Prop} {post : Int32 → (Int32) → (Int32) → (Int32) → (Int32) → (Nat → Int32) → (Nat → Int32) → Prop} {x2 : Int32} {x3 : Int32} {x4 : Int32} {x5 : Int32} {ls : Array Slot} {H : Heap} {locs : List Loc}
    (zc : zC p s m args meth c cX11_masses 6 RX11 (some .int))
    (hK : zK E s)
    (hM : mW E q f_code a_tape a_size a_fault a_faultPlace a_many a_lands a_evenings a_sights a_choirs f_reached f_length f_begins f_sort f_value f_word f_wrongAt f_laterFault f_laterPlace a_told a_read f_farHut f_farSinger f_good f_land f_huts f_singers f_evening a_at a_knows a_climbed a_snow a_level f_begun f_minute f_avalanches a_run a_covers a_routes a_longest a_steep a_laid a_far f_sight a_runs f_choir f_voices a_rest a_wins f_seed a_other a_kept H)
    (hS : va_S (mA q) s.heap H locs)
    (hP32 : ∀ (x4 : Int32) (a_covers : Nat → Int32) (H : Heap) (locs : List Loc) (ls : Array Slot), P32 x4 a_covers → lv_has ls 6 [(0, .ref q), (2, .int x2), (3, .int x3), (4, .int x4)] → mW E q f_code a_tape a_size a_fault a_faultPlace a_many a_lands a_evenings a_sights a_choirs f_reached f_length f_begins f_sort f_value f_word f_wrongAt f_laterFault f_laterPlace a_told a_read f_farHut f_farSinger f_good f_land f_huts f_singers f_evening a_at a_knows a_climbed a_snow a_level f_begun f_minute f_avalanches a_run a_covers a_routes a_longest a_steep a_laid a_far f_sight a_runs f_choir f_voices a_rest a_wins f_seed a_other a_kept H → va_S (mA q) s.heap H locs → W p l e rm_m_masses s m args below meth c H locs 0 0 (MQ below (zQi (S := (Int32) × (Int32) × (Int32) × (Int32) × (Nat → Int32) × (Nat → Int32)) (fun r u => post r u.1 u.2.1 u.2.2.1 u.2.2.2.1 u.2.2.2.2.1 u.2.2.2.2.2) (fun u H => mW E q u.1 a_tape a_size a_fault a_faultPlace a_many a_lands a_evenings a_sights a_choirs f_reached f_length f_begins f_sort f_value f_word f_wrongAt f_laterFault f_laterPlace a_told a_read f_farHut f_farSinger f_good u.2.1 u.2.2.1 u.2.2.2.1 f_evening a_at a_knows a_climbed a_snow a_level f_begun f_minute f_avalanches a_run u.2.2.2.2.1 a_routes a_longest a_steep a_laid u.2.2.2.2.2 f_sight a_runs f_choir f_voices a_rest a_wins f_seed a_other a_kept H) (mA q)) args s 0 0 (mA q)) (F0 m 32 ls []))
    (hl : lv_has ls 6 [(0, .ref q), (2, .int x2), (3, .int x3), (4, .int x4), (5, .int x5)])
    (hw : q_m_masses_52 P32 f_code a_many a_lands f_land f_huts f_singers a_covers a_far x2 x3 x4 x5 post) :
    W p l e rm_m_masses s m args below meth c H locs 0 0 (MQ below (zQi (S := (Int32) × (Int32) × (Int32) × (Int32) × (Nat → Int32) × (Nat → Int32)) (fun r u => post r u.1 u.2.1 u.2.2.1 u.2.2.2.1 u.2.2.2.2.1 u.2.2.2.2.2) (fun u H => mW E q u.1 a_tape a_size a_fault a_faultPlace a_many a_lands a_evenings a_sights a_choirs f_reached f_length f_begins f_sort f_value f_word f_wrongAt f_laterFault f_laterPlace a_told a_read f_farHut f_farSinger f_good u.2.1 u.2.2.1 u.2.2.2.1 f_evening a_at a_knows a_climbed a_snow a_level f_begun f_minute f_avalanches a_run u.2.2.2.2.1 a_routes a_longest a_steep a_laid u.2.2.2.2.2 f_sight a_runs f_choir f_voices a_rest a_wins f_seed a_other a_kept H) (mA q)) args s 0 0 (mA q)) (F0 m 52 ls []) := by
  have hx := zc.1
  have hb := zc.2.1
  refine hw (fun x5 a_covers => ∀ (H : Heap) (locs : List Loc) (ls : Array Slot), lv_has ls 6 [(0, .ref q), (2, .int x2), (3, .int x3), (4, .int x4), (5, .int x5)] → mW E q f_code a_tape a_size a_fault a_faultPlace a_many a_lands a_evenings a_sights a_choirs f_reached f_length f_begins f_sort f_value f_word f_wrongAt f_laterFault f_laterPlace a_told a_read f_farHut f_farSinger f_good f_land f_huts f_singers f_evening a_at a_knows a_climbed a_snow a_level f_begun f_minute f_avalanches a_run a_covers a_routes a_longest a_steep a_laid a_far f_sight a_runs f_choir f_voices a_rest a_wins f_seed a_other a_kept H → va_S (mA q) s.heap H locs → W p l e rm_m_masses s m args below meth c H locs 0 0 (MQ below (zQi (S := (Int32) × (Int32) × (Int32) × (Int32) × (Nat → Int32) × (Nat → Int32)) (fun r u => post r u.1 u.2.1 u.2.2.1 u.2.2.2.1 u.2.2.2.2.1 u.2.2.2.2.2) (fun u H => mW E q u.1 a_tape a_size a_fault a_faultPlace a_many a_lands a_evenings a_sights a_choirs f_reached f_length f_begins f_sort f_value f_word f_wrongAt f_laterFault f_laterPlace a_told a_read f_farHut f_farSinger f_good u.2.1 u.2.2.1 u.2.2.2.1 f_evening a_at a_knows a_climbed a_snow a_level f_begun f_minute f_avalanches a_run u.2.2.2.2.1 a_routes a_longest a_steep a_laid u.2.2.2.2.2 f_sight a_runs f_choir f_voices a_rest a_wins f_seed a_other a_kept H) (mA q)) args s 0 0 (mA q)) (F0 m 52 ls [])) ?_ _ _ _ hl hM hS
  intro x5 a_covers hw H locs ls hl hM hS
  refine lv_iload hx hb dX11_masses_52 (lv_at hl 4 rfl) ?_
  refine lv_aload_n hx hb dX11_masses_54 rfl (lv_at hl 0 rfl) ?_
  refine mg_11_307_0 zc hK hM dX11_masses_55 ?_
  refine lv_icmp_ge (tgt := 102) hx hb dX11_masses_58 (by decide) (fun hc => ?_) (fun hc => ?_)
  · have hw := hw.1 hc
    obtain ⟨v_1, ev_1⟩ : ∃ y : Int32, y = x4 + (1 : Int32) := ⟨_, rfl⟩
    have hw := hw v_1 ev_1
    refine lv_iinc (v := v_1) (k := 3) (lv' := [(4, .int v_1), (0, .ref q), (2, .int x2), (3, .int x3), (5, .int x5)]) hx hb dX11_masses_102 hl rfl (by rw [ev_1]; rfl) (by decide) rfl (fun ls hl => ?_)
    refine lv_goto (tgt := 32) hx hb dX11_masses_105 (by decide) ?_
    exact hP32 _ _ _ _ _ hw (lv_sub hl [1, 2, 3, 0] rfl) hM hS
  · have hw := hw.2 hc
    refine lv_aload_n hx hb dX11_masses_61 rfl (lv_at hl 0 rfl) ?_
    refine mg_11_62_0 zc hK hM dX11_masses_62 ?_
    refine lv_iload hx hb dX11_masses_65 (lv_at hl 3 rfl) ?_
    refine lv_dup2_11 hx hb dX11_masses_67 rfl rfl ?_
    refine mld_18 zc hK hM hw.1 dX11_masses_68 ?_
    have hw := hw.2
    refine lv_aload_n hx hb dX11_masses_69 rfl (lv_at hl 0 rfl) ?_
    refine mg_11_78_0 zc hK hM dX11_masses_70 ?_
    refine lv_bipush (v := (9 : Int32)) hx hb dX11_masses_73 (by decide) ?_
    refine lv_iload hx hb dX11_masses_75 (lv_at hl 3 rfl) ?_
    refine lv_imul hx hb dX11_masses_77 ?_
    refine lv_iload hx hb dX11_masses_78 (lv_at hl 4 rfl) ?_
    refine lv_iadd hx hb dX11_masses_80 ?_
    refine mld_23 zc hK hM hw.1 dX11_masses_81 ?_
    have hw := hw.2
    refine lv_iload_n hx hb dX11_masses_82 rfl (lv_at hl 1 rfl) ?_
    refine lv_icmp_gt (tgt := 93) hx hb dX11_masses_83 (by decide) (fun hc => ?_) (fun hc => ?_)
    · have hw := hw.1 hc
      refine lv_iconst (v := (0 : Int32)) hx hb dX11_masses_93 (by decide) ?_
      exact t_m_masses_94 zc hK hM hS hP32 (fun _ _ H locs ls h hl hM hS => h H locs ls hl hM hS) (lv_sub hl [0, 1, 2, 3, 4] rfl) hw
    · have hw := hw.2 hc
      refine lv_iconst (v := (1 : Int32)) hx hb dX11_masses_86 (by decide) ?_
      refine lv_iload hx hb dX11_masses_87 (lv_at hl 4 rfl) ?_
      refine lv_ishl hx hb dX11_masses_89 ?_
      refine lv_goto (tgt := 94) hx hb dX11_masses_90 (by decide) ?_
      exact t_m_masses_94 zc hK hM hS hP32 (fun _ _ H locs ls h hl hM hS => h H locs ls hl hM hS) (lv_sub hl [0, 1, 2, 3, 4] rfl) hw
set_option maxRecDepth 20000 in
theorem t_m_masses_32 {p : Program} {l : Launch} {e : Env} {s : State} {m : MethodId} {args : Array Value} {below : List Frame} {meth : Method} {c : Code} {E : zE} {q : Nat} {f_code : Int32} {a_tape : Nat → Int32} {a_size : Nat → Int32} {a_fault : Nat → Int32} {a_faultPlace : Nat → Int32} {a_many : Nat → Int32} {a_lands : Nat → Int32} {a_evenings : Nat → Int32} {a_sights : Nat → Int32} {a_choirs : Nat → Int32} {f_reached : Int32} {f_length : Int32} {f_begins : Int32} {f_sort : Int32} {f_value : Int32} {f_word : Int64} {f_wrongAt : Int32} {f_laterFault : Int32} {f_laterPlace : Int32} {a_told : Nat → Int32} {a_read : Nat → Int32} {f_farHut : Int32} {f_farSinger : Int32} {f_good : Int32} {f_land : Int32} {f_huts : Int32} {f_singers : Int32} {f_evening : Int32} {a_at : Nat → Int32} {a_knows : Nat → Int32} {a_climbed : Nat → Int32} {a_snow : Nat → Int32} {a_level : Nat → Int32} {f_begun : Int32} {f_minute : Int32} {f_avalanches : Int32} {a_run : Nat → Int32} {a_covers : Nat → Int32} {a_routes : Nat → Int32} {a_longest : Nat → Int32} {a_steep : Nat → Int32} {a_laid : Nat → Int32} {a_far : Nat → Int32} {f_sight : Int32} {a_runs : Nat → Int32} {f_choir : Int32} {f_voices : Int32} {a_rest : Nat → Int64} {a_wins : Nat → Int32} {f_seed : Int32} {a_other : Nat → Int32} {a_kept : Nat → Int32} {post : Int32 → (Int32) → (Int32) → (Int32) → (Int32) → (Nat → Int32) → (Nat → Int32) → Prop} {x2 : Int32} {x3 : Int32} {x4 : Int32} {ls : Array Slot} {H : Heap} {locs : List Loc}
    (zc : zC p s m args meth c cX11_masses 6 RX11 (some .int))
    (hK : zK E s)
    (hM : mW E q f_code a_tape a_size a_fault a_faultPlace a_many a_lands a_evenings a_sights a_choirs f_reached f_length f_begins f_sort f_value f_word f_wrongAt f_laterFault f_laterPlace a_told a_read f_farHut f_farSinger f_good f_land f_huts f_singers f_evening a_at a_knows a_climbed a_snow a_level f_begun f_minute f_avalanches a_run a_covers a_routes a_longest a_steep a_laid a_far f_sight a_runs f_choir f_voices a_rest a_wins f_seed a_other a_kept H)
    (hS : va_S (mA q) s.heap H locs)
    (hl : lv_has ls 6 [(0, .ref q), (2, .int x2), (3, .int x3), (4, .int x4)])
    (hw : q_m_masses_32 f_code a_many a_lands f_land f_huts f_singers a_covers a_far x2 x3 x4 post) :
    W p l e rm_m_masses s m args below meth c H locs 0 0 (MQ below (zQi (S := (Int32) × (Int32) × (Int32) × (Int32) × (Nat → Int32) × (Nat → Int32)) (fun r u => post r u.1 u.2.1 u.2.2.1 u.2.2.2.1 u.2.2.2.2.1 u.2.2.2.2.2) (fun u H => mW E q u.1 a_tape a_size a_fault a_faultPlace a_many a_lands a_evenings a_sights a_choirs f_reached f_length f_begins f_sort f_value f_word f_wrongAt f_laterFault f_laterPlace a_told a_read f_farHut f_farSinger f_good u.2.1 u.2.2.1 u.2.2.2.1 f_evening a_at a_knows a_climbed a_snow a_level f_begun f_minute f_avalanches a_run u.2.2.2.2.1 a_routes a_longest a_steep a_laid u.2.2.2.2.2 f_sight a_runs f_choir f_voices a_rest a_wins f_seed a_other a_kept H) (mA q)) args s 0 0 (mA q)) (F0 m 32 ls []) := by
  have hx := zc.1
  have hb := zc.2.1
  refine hw (fun x4 a_covers => ∀ (H : Heap) (locs : List Loc) (ls : Array Slot), lv_has ls 6 [(0, .ref q), (2, .int x2), (3, .int x3), (4, .int x4)] → mW E q f_code a_tape a_size a_fault a_faultPlace a_many a_lands a_evenings a_sights a_choirs f_reached f_length f_begins f_sort f_value f_word f_wrongAt f_laterFault f_laterPlace a_told a_read f_farHut f_farSinger f_good f_land f_huts f_singers f_evening a_at a_knows a_climbed a_snow a_level f_begun f_minute f_avalanches a_run a_covers a_routes a_longest a_steep a_laid a_far f_sight a_runs f_choir f_voices a_rest a_wins f_seed a_other a_kept H → va_S (mA q) s.heap H locs → W p l e rm_m_masses s m args below meth c H locs 0 0 (MQ below (zQi (S := (Int32) × (Int32) × (Int32) × (Int32) × (Nat → Int32) × (Nat → Int32)) (fun r u => post r u.1 u.2.1 u.2.2.1 u.2.2.2.1 u.2.2.2.2.1 u.2.2.2.2.2) (fun u H => mW E q u.1 a_tape a_size a_fault a_faultPlace a_many a_lands a_evenings a_sights a_choirs f_reached f_length f_begins f_sort f_value f_word f_wrongAt f_laterFault f_laterPlace a_told a_read f_farHut f_farSinger f_good u.2.1 u.2.2.1 u.2.2.2.1 f_evening a_at a_knows a_climbed a_snow a_level f_begun f_minute f_avalanches a_run u.2.2.2.2.1 a_routes a_longest a_steep a_laid u.2.2.2.2.2 f_sight a_runs f_choir f_voices a_rest a_wins f_seed a_other a_kept H) (mA q)) args s 0 0 (mA q)) (F0 m 32 ls [])) ?_ _ _ _ hl hM hS
  intro x4 a_covers hw H locs ls hl hM hS
  refine lv_iload hx hb dX11_masses_32 (lv_at hl 3 rfl) ?_
  refine lv_aload_n hx hb dX11_masses_34 rfl (lv_at hl 0 rfl) ?_
  refine mg_11_307_0 zc hK hM dX11_masses_35 ?_
  refine lv_icmp_ge (tgt := 108) hx hb dX11_masses_38 (by decide) (fun hc => ?_) (fun hc => ?_)
  · have hw := hw.1 hc
    refine lv_aload_n hx hb dX11_masses_108 rfl (lv_at hl 0 rfl) ?_
    refine lv_iconst (v := (1 : Int32)) hx hb dX11_masses_109 (by decide) ?_
    refine lv_aload_n hx hb dX11_masses_110 rfl (lv_at hl 0 rfl) ?_
    refine mg_11_307_0 zc hK hM dX11_masses_111 ?_
    refine lv_ishl hx hb dX11_masses_114 ?_
    refine lv_iconst (v := (1 : Int32)) hx hb dX11_masses_115 (by decide) ?_
    refine lv_isub hx hb dX11_masses_116 ?_
    refine lv_aload_n hx hb dX11_masses_117 rfl (lv_at hl 0 rfl) ?_
    refine lv_iconst (v := (2 : Int32)) hx hb dX11_masses_118 (by decide) ?_
    refine zV_i [.int (2 : Int32)] [.int (((1 : Int32) <<< (f_huts &&& 31)) - (1 : Int32)), .ref q] zc ky_X11_of kz_X11_of km_11_303 (c_m_of l hw) (mPreV0 hK hM) rfl rfl hl.1 (Nat.le_of_ble_eq_true rfl) ⟨rfl, rfl⟩ ⟨Nat.le_of_ble_eq_true rfl, Nat.le_of_ble_eq_true rfl⟩ ⟨(Nat.zero_le _), (Nat.zero_le _)⟩ dX11_masses_119 (fun r_1 hw => ?_)
    refine zV_i [.int (((1 : Int32) <<< (f_huts &&& 31)) - (1 : Int32)), .int r_1] [] zc ky_X11_fewest kz_X11_fewest km_11_438 (c_m_fewest l hw) (mPreV0 hK hM) rfl rfl hl.1 (Nat.le_of_ble_eq_true rfl) ⟨rfl, rfl⟩ ⟨Nat.le_of_ble_eq_true rfl, Nat.le_of_ble_eq_true rfl⟩ ⟨(Nat.zero_le _), (Nat.zero_le _)⟩ dX11_masses_122 (fun r_2 hw => ?_)
    refine lv_istore (lv' := [(4, .int r_2), (0, .ref q), (2, .int x2), (3, .int x3)]) hx hb dX11_masses_125 hl (by decide) rfl (fun ls hl => ?_)
    refine lv_iload_n hx hb dX11_masses_127 rfl (lv_at hl 3 rfl) ?_
    refine lv_if_eq (tgt := 136) hx hb dX11_masses_128 (by decide) (fun hc => ?_) (fun hc => ?_)
    · have hw := hw.1 hc
      refine lv_iload hx hb dX11_masses_136 (lv_at hl 0 rfl) ?_
      refine zS_i [.int r_2] [] zc ky_X11_ones kz_X11_ones km_11_429 (c_m_ones l hw) (zPre0 _) rfl rfl hl.1 (Nat.le_of_ble_eq_true rfl) ⟨rfl, rfl⟩ ⟨Nat.le_of_ble_eq_true rfl, Nat.le_of_ble_eq_true rfl⟩ ⟨(Nat.zero_le _), (Nat.zero_le _)⟩ dX11_masses_138 (fun r_3 hw => ?_)
      exact zret_iw ⟨f_code, f_land, f_huts, f_singers, a_covers, a_far⟩ zc hS hw hM dX11_masses_141
    · have hw := hw.2 hc
      refine lv_iload hx hb dX11_masses_131 (lv_at hl 0 rfl) ?_
      refine lv_goto (tgt := 141) hx hb dX11_masses_133 (by decide) ?_
      exact zret_iw ⟨f_code, f_land, f_huts, f_singers, a_covers, a_far⟩ zc hS hw hM dX11_masses_141
  · have hw := hw.2 hc
    refine lv_aload_n hx hb dX11_masses_41 rfl (lv_at hl 0 rfl) ?_
    refine mg_11_62_0 zc hK hM dX11_masses_42 ?_
    refine lv_iload hx hb dX11_masses_45 (lv_at hl 3 rfl) ?_
    refine lv_iconst (v := (0 : Int32)) hx hb dX11_masses_47 (by decide) ?_
    refine mst_18 zc hK hM hS hw.1 dX11_masses_48 (fun a_covers_1 H locs ea_covers_1 hM hS => ?_)
    have hw := hw.2 a_covers_1 ea_covers_1
    refine lv_iconst (v := (0 : Int32)) hx hb dX11_masses_49 (by decide) ?_
    refine lv_istore (lv' := [(5, .int (0 : Int32)), (0, .ref q), (2, .int x2), (3, .int x3), (4, .int x4)]) hx hb dX11_masses_50 hl (by decide) rfl (fun ls hl => ?_)
    exact t_m_masses_52 zc hK hM hS (fun _ _ H locs ls h hl hM hS => h H locs ls hl hM hS) (lv_sub hl [1, 2, 3, 4, 0] rfl) hw
set_option maxRecDepth 20000 in
theorem t_m_masses_0 {p : Program} {l : Launch} {e : Env} {s : State} {m : MethodId} {args : Array Value} {below : List Frame} {meth : Method} {c : Code} {E : zE} {q : Nat} {f_code : Int32} {a_tape : Nat → Int32} {a_size : Nat → Int32} {a_fault : Nat → Int32} {a_faultPlace : Nat → Int32} {a_many : Nat → Int32} {a_lands : Nat → Int32} {a_evenings : Nat → Int32} {a_sights : Nat → Int32} {a_choirs : Nat → Int32} {f_reached : Int32} {f_length : Int32} {f_begins : Int32} {f_sort : Int32} {f_value : Int32} {f_word : Int64} {f_wrongAt : Int32} {f_laterFault : Int32} {f_laterPlace : Int32} {a_told : Nat → Int32} {a_read : Nat → Int32} {f_farHut : Int32} {f_farSinger : Int32} {f_good : Int32} {f_land : Int32} {f_huts : Int32} {f_singers : Int32} {f_evening : Int32} {a_at : Nat → Int32} {a_knows : Nat → Int32} {a_climbed : Nat → Int32} {a_snow : Nat → Int32} {a_level : Nat → Int32} {f_begun : Int32} {f_minute : Int32} {f_avalanches : Int32} {a_run : Nat → Int32} {a_covers : Nat → Int32} {a_routes : Nat → Int32} {a_longest : Nat → Int32} {a_steep : Nat → Int32} {a_laid : Nat → Int32} {a_far : Nat → Int32} {f_sight : Int32} {a_runs : Nat → Int32} {f_choir : Int32} {f_voices : Int32} {a_rest : Nat → Int64} {a_wins : Nat → Int32} {f_seed : Int32} {a_other : Nat → Int32} {a_kept : Nat → Int32} {post : Int32 → (Int32) → (Int32) → (Int32) → (Int32) → (Nat → Int32) → (Nat → Int32) → Prop} {x1 : Int32} {x2 : Int32} {x3 : Int32} {ls : Array Slot} {H : Heap} {locs : List Loc}
    (zc : zC p s m args meth c cX11_masses 6 RX11 (some .int))
    (hK : zK E s)
    (hM : mW E q f_code a_tape a_size a_fault a_faultPlace a_many a_lands a_evenings a_sights a_choirs f_reached f_length f_begins f_sort f_value f_word f_wrongAt f_laterFault f_laterPlace a_told a_read f_farHut f_farSinger f_good f_land f_huts f_singers f_evening a_at a_knows a_climbed a_snow a_level f_begun f_minute f_avalanches a_run a_covers a_routes a_longest a_steep a_laid a_far f_sight a_runs f_choir f_voices a_rest a_wins f_seed a_other a_kept H)
    (hS : va_S (mA q) s.heap H locs)
    (hl : lv_has ls 6 [(0, .ref q), (1, .int x1), (2, .int x2), (3, .int x3)])
    (hw : q_m_masses_0 f_code a_many a_lands f_land f_huts f_singers a_covers a_far x1 x2 x3 post) :
    W p l e rm_m_masses s m args below meth c H locs 0 0 (MQ below (zQi (S := (Int32) × (Int32) × (Int32) × (Int32) × (Nat → Int32) × (Nat → Int32)) (fun r u => post r u.1 u.2.1 u.2.2.1 u.2.2.2.1 u.2.2.2.2.1 u.2.2.2.2.2) (fun u H => mW E q u.1 a_tape a_size a_fault a_faultPlace a_many a_lands a_evenings a_sights a_choirs f_reached f_length f_begins f_sort f_value f_word f_wrongAt f_laterFault f_laterPlace a_told a_read f_farHut f_farSinger f_good u.2.1 u.2.2.1 u.2.2.2.1 f_evening a_at a_knows a_climbed a_snow a_level f_begun f_minute f_avalanches a_run u.2.2.2.2.1 a_routes a_longest a_steep a_laid u.2.2.2.2.2 f_sight a_runs f_choir f_voices a_rest a_wins f_seed a_other a_kept H) (mA q)) args s 0 0 (mA q)) (F0 m 0 ls []) := by
  have hx := zc.1
  have hb := zc.2.1
  refine lv_aload_n hx hb dX11_masses_0 rfl (lv_at hl 0 rfl) ?_
  refine lv_iconst (v := (0 : Int32)) hx hb dX11_masses_1 (by decide) ?_
  refine mp_11_97_0 zc hK hM hS dX11_masses_2 (fun H locs hM hS => ?_)
  refine lv_aload_n hx hb dX11_masses_5 rfl (lv_at hl 0 rfl) ?_
  refine lv_iload_n hx hb dX11_masses_6 rfl (lv_at hl 1 rfl) ?_
  refine zVw_i [.int x1] [] zc ky_X11_hand kz_X11_hand km_11_313 (c_m_hand l hw) (mPreV0 hK hM) hS rfl rfl hl.1 (Nat.le_of_ble_eq_true rfl) ⟨rfl, rfl⟩ ⟨Nat.le_of_ble_eq_true rfl, Nat.le_of_ble_eq_true rfl⟩ ⟨(Nat.zero_le _), (Nat.zero_le _)⟩ dX11_masses_7 (fun r_1 u H locs hw hM hS => ?_)
  obtain ⟨f_land_1, f_huts_1, f_singers_1⟩ := u
  refine lv_if_eq (tgt := 23) hx hb dX11_masses_10 (by decide) (fun hc => ?_) (fun hc => ?_)
  · have hw := hw.1 hc
    refine lv_iconst (v := (-1 : Int32)) hx hb dX11_masses_23 (by decide) ?_
    exact zret_iw ⟨(0 : Int32), f_land_1, f_huts_1, f_singers_1, a_covers, a_far⟩ zc hS hw hM dX11_masses_24
  · have hw := hw.2 hc
    refine lv_iload_n hx hb dX11_masses_13 rfl (lv_at hl 2 rfl) ?_
    refine lv_iconst (v := (0 : Int32)) hx hb dX11_masses_14 (by decide) ?_
    refine lv_bipush (v := (99 : Int32)) hx hb dX11_masses_15 (by decide) ?_
    refine zS_i [.int x2, .int (0 : Int32), .int (99 : Int32)] [] zc ky_X11_in kz_X11_in km_11_109 (c_m_in l hw) (zPre0 _) rfl rfl hl.1 (Nat.le_of_ble_eq_true rfl) ⟨rfl, rfl⟩ ⟨Nat.le_of_ble_eq_true rfl, Nat.le_of_ble_eq_true rfl⟩ ⟨(Nat.zero_le _), (Nat.zero_le _)⟩ dX11_masses_17 (fun r_2 hw => ?_)
    refine lv_if_ne (tgt := 25) hx hb dX11_masses_20 (by decide) (fun hc => ?_) (fun hc => ?_)
    · have hw := hw.1 hc
      refine lv_aload_n hx hb dX11_masses_25 rfl (lv_at hl 0 rfl) ?_
      refine zVw_v [] [] zc ky_X11_findFar kz_X11_findFar km_11_454 (c_m_findFar l hw) (mPreV0 hK hM) hS rfl rfl hl.1 (Nat.le_of_ble_eq_true rfl) ⟨rfl, rfl⟩ ⟨Nat.le_of_ble_eq_true rfl, Nat.le_of_ble_eq_true rfl⟩ ⟨(Nat.zero_le _), (Nat.zero_le _)⟩ dX11_masses_26 (fun a_far_1 H locs hw hM hS => ?_)
      refine lv_iconst (v := (0 : Int32)) hx hb dX11_masses_29 (by decide) ?_
      refine lv_istore (lv' := [(4, .int (0 : Int32)), (0, .ref q), (1, .int x1), (2, .int x2), (3, .int x3)]) hx hb dX11_masses_30 hl (by decide) rfl (fun ls hl => ?_)
      exact t_m_masses_32 zc hK hM hS  (lv_sub hl [1, 3, 4, 0] rfl) hw
    · have hw := hw.2 hc
      refine lv_iconst (v := (-1 : Int32)) hx hb dX11_masses_23 (by decide) ?_
      exact zret_iw ⟨(0 : Int32), f_land_1, f_huts_1, f_singers_1, a_covers, a_far⟩ zc hS hw hM dX11_masses_24
set_option maxRecDepth 20000 in
theorem c_m_masses (l : Launch) {E : zE} {q : Nat} {f_code : Int32} {a_tape : Nat → Int32} {a_size : Nat → Int32} {a_fault : Nat → Int32} {a_faultPlace : Nat → Int32} {a_many : Nat → Int32} {a_lands : Nat → Int32} {a_evenings : Nat → Int32} {a_sights : Nat → Int32} {a_choirs : Nat → Int32} {f_reached : Int32} {f_length : Int32} {f_begins : Int32} {f_sort : Int32} {f_value : Int32} {f_word : Int64} {f_wrongAt : Int32} {f_laterFault : Int32} {f_laterPlace : Int32} {a_told : Nat → Int32} {a_read : Nat → Int32} {f_farHut : Int32} {f_farSinger : Int32} {f_good : Int32} {f_land : Int32} {f_huts : Int32} {f_singers : Int32} {f_evening : Int32} {a_at : Nat → Int32} {a_knows : Nat → Int32} {a_climbed : Nat → Int32} {a_snow : Nat → Int32} {a_level : Nat → Int32} {f_begun : Int32} {f_minute : Int32} {f_avalanches : Int32} {a_run : Nat → Int32} {a_covers : Nat → Int32} {a_routes : Nat → Int32} {a_longest : Nat → Int32} {a_steep : Nat → Int32} {a_laid : Nat → Int32} {a_far : Nat → Int32} {f_sight : Int32} {a_runs : Nat → Int32} {f_choir : Int32} {f_voices : Int32} {a_rest : Nat → Int64} {a_wins : Nat → Int32} {f_seed : Int32} {a_other : Nat → Int32} {a_kept : Nat → Int32} {x1 : Int32} {x2 : Int32} {x3 : Int32} {post : Int32 → (Int32) → (Int32) → (Int32) → (Int32) → (Nat → Int32) → (Nat → Int32) → Prop} (hw : q_m_masses_0 f_code a_many a_lands f_land f_huts f_singers a_covers a_far x1 x2 x3 post) : Met l yX11_masses (Cond.code yX11_masses cX11_masses 6 (some .int) :: zb) rm_m_masses (va_Pc [.ref q, .int x1, .int x2, .int x3] (fun U => mW E q f_code a_tape a_size a_fault a_faultPlace a_many a_lands a_evenings a_sights a_choirs f_reached f_length f_begins f_sort f_value f_word f_wrongAt f_laterFault f_laterPlace a_told a_read f_farHut f_farSinger f_good f_land f_huts f_singers f_evening a_at a_knows a_climbed a_snow a_level f_begun f_minute f_avalanches a_run a_covers a_routes a_longest a_steep a_laid a_far f_sight a_runs f_choir f_voices a_rest a_wins f_seed a_other a_kept U.heap ∧ zK E U)) (zQi (S := (Int32) × (Int32) × (Int32) × (Int32) × (Nat → Int32) × (Nat → Int32)) (fun r u => post r u.1 u.2.1 u.2.2.1 u.2.2.2.1 u.2.2.2.2.1 u.2.2.2.2.2) (fun u H => mW E q u.1 a_tape a_size a_fault a_faultPlace a_many a_lands a_evenings a_sights a_choirs f_reached f_length f_begins f_sort f_value f_word f_wrongAt f_laterFault f_laterPlace a_told a_read f_farHut f_farSinger f_good u.2.1 u.2.2.1 u.2.2.2.1 f_evening a_at a_knows a_climbed a_snow a_level f_begun f_minute f_avalanches a_run u.2.2.2.2.1 a_routes a_longest a_steep a_laid u.2.2.2.2.2 f_sight a_runs f_choir f_voices a_rest a_wins f_seed a_other a_kept H) (mA q)) 0 0 (mA q) := by
  refine Met.ofW (cc := cX11_masses) (maxL := 6) (ret := (some .int)) (by decide) rfl ?_
  intro p e s m args below meth c s₁ B hml hv
  obtain ⟨rfl, hM, hK⟩ := hv
  have zc := zc_of B hml
  have hl := lv_entry ([.ref q, .int x1, .int x2, .int x3]) (n := 6) (Nat.le_of_ble_eq_true rfl)
  rw [lg_entry_eq]
  generalize (lg_sl ([.ref q, .int x1, .int x2, .int x3]) ++ List.replicate (6 - (lg_sl ([.ref q, .int x1, .int x2, .int x3])).length) Slot.unset).toArray = ls at hl ⊢
  have hl : lv_has ls 6 [(0, .ref q), (1, .int x1), (2, .int x2), (3, .int x3)] := hl
  exact t_m_masses_0 zc hK hM va_S.rf (lv_sub hl [0, 1, 2, 3] rfl) hw
end
