section
-- wn_J7_fill_53178_3
abbrev rm_wn_J7_fill_53178_3 : Room := { frames := 0, cells := 0, slots := 0, locals := 0 }
def q_wn_J7_fill_53178_3_5 (a_levels : Nat → Int32) (x1 : Int32) (x2 : Int32) (x3 : Int32) (post : (Nat → Int32) → Prop) : Prop :=
  ∀ P5 : Int32 → (Nat → Int32) → Prop, (∀ (x2 : Int32) (a_levels : Nat → Int32), ((x3 ≤ x2 → (post a_levels)) ∧ (¬ x3 ≤ x2 → (vp_in x2 5 ∧ (∀ a_levels_1 : Nat → Int32, a_levels_1 = upd a_levels (Int32.toNatClampNeg x2) x1 → (∀ v_1 : Int32, v_1 = x2 + (1 : Int32) → (P5 v_1 a_levels_1)))))) → P5 x2 a_levels) → P5 x2 a_levels
def q_wn_J7_fill_53178_3_0 (a_levels : Nat → Int32) (x1 : Int32) (post : (Nat → Int32) → Prop) : Prop :=
  q_wn_J7_fill_53178_3_5 a_levels x1 (0 : Int32) (5 : Int32) post
set_option maxRecDepth 20000 in
theorem t_wn_J7_fill_53178_3_5 {p : Program} {l : Launch} {e : Env} {s : State} {m : MethodId} {args : Array Value} {below : List Frame} {meth : Method} {c : Code} {E : zE} {qn ql qv : Nat} {f_minute : Int32} {f_avalanches : Int32} {f_begun : Int32} {f_climbed : Int32} {f_seed : Int32} {a_huts : Nat → Int32} {a_known : Nat → Int32} {a_levels : Nat → Int32} {a_snow : Nat → Int32} {a_open : Nat → Int32} {lf_huts : Int32} {lf_singers : Int32} {lf_villages : Int32} {lf_dams : Int32} {lf_echoes : Int32} {lf_deep : Int32} {lf_slide : Int32} {la_heights : Nat → Int32} {la_ladders : Nat → Int32} {la_minutes : Nat → Int32} {la_echoFrom : Nat → Int32} {la_echoTo : Nat → Int32} {la_homes : Nat → Int32} {la_talls : Nat → Int32} {la_known : Nat → Int32} {vf_deeds : Int32} {va_kinds : Nat → Int32} {va_firsts : Nat → Int32} {va_seconds : Nat → Int32} {post : (Nat → Int32) → Prop} {x1 : Int32} {x2 : Int32} {x3 : Int32} {ls : Array Slot} {H : Heap} {locs : List Loc}
    (zc : zC p s m args meth c cJ7_fill_53178 4 RJ7 none)
    (hK : zK E s)
    (hM : wnW E qn ql qv f_minute f_avalanches f_begun f_climbed f_seed a_huts a_known a_levels a_snow a_open lf_huts lf_singers lf_villages lf_dams lf_echoes lf_deep lf_slide la_heights la_ladders la_minutes la_echoFrom la_echoTo la_homes la_talls la_known vf_deeds va_kinds va_firsts va_seconds H)
    (hS : va_S (wnA qn ql qv) s.heap H locs)
    (hl : lv_has ls 4 [(0, .ref (qn + 3)), (1, .int x1), (2, .int x2), (3, .int x3)])
    (hw : q_wn_J7_fill_53178_3_5 a_levels x1 x2 x3 post) :
    W p l e rm_wn_J7_fill_53178_3 s m args below meth c H locs 0 0 (MQ below (zQv (S := (Nat → Int32)) (fun u => post u) (fun u H => wnW E qn ql qv f_minute f_avalanches f_begun f_climbed f_seed a_huts a_known u a_snow a_open lf_huts lf_singers lf_villages lf_dams lf_echoes lf_deep lf_slide la_heights la_ladders la_minutes la_echoFrom la_echoTo la_homes la_talls la_known vf_deeds va_kinds va_firsts va_seconds H) (wnA qn ql qv)) args s 0 0 (wnA qn ql qv)) (F0 m 5 ls []) := by
  have hx := zc.1
  have hb := zc.2.1
  refine hw (fun x2 a_levels => ∀ (H : Heap) (locs : List Loc) (ls : Array Slot), lv_has ls 4 [(0, .ref (qn + 3)), (1, .int x1), (2, .int x2), (3, .int x3)] → wnW E qn ql qv f_minute f_avalanches f_begun f_climbed f_seed a_huts a_known a_levels a_snow a_open lf_huts lf_singers lf_villages lf_dams lf_echoes lf_deep lf_slide la_heights la_ladders la_minutes la_echoFrom la_echoTo la_homes la_talls la_known vf_deeds va_kinds va_firsts va_seconds H → va_S (wnA qn ql qv) s.heap H locs → W p l e rm_wn_J7_fill_53178_3 s m args below meth c H locs 0 0 (MQ below (zQv (S := (Nat → Int32)) (fun u => post u) (fun u H => wnW E qn ql qv f_minute f_avalanches f_begun f_climbed f_seed a_huts a_known u a_snow a_open lf_huts lf_singers lf_villages lf_dams lf_echoes lf_deep lf_slide la_heights la_ladders la_minutes la_echoFrom la_echoTo la_homes la_talls la_known vf_deeds va_kinds va_firsts va_seconds H) (wnA qn ql qv)) args s 0 0 (wnA qn ql qv)) (F0 m 5 ls [])) ?_ _ _ _ hl hM hS
  intro x2 a_levels hw H locs ls hl hM hS
  refine lv_iload_n hx hb dJ7_fill_53178_5 rfl (lv_at hl 2 rfl) ?_
  refine lv_iload_n hx hb dJ7_fill_53178_6 rfl (lv_at hl 3 rfl) ?_
  refine lv_icmp_ge (tgt := 20) hx hb dJ7_fill_53178_7 (by decide) (fun hc => ?_) (fun hc => ?_)
  · have hw := hw.1 hc
    exact zret_vw a_levels zc hS hw hM dJ7_fill_53178_20
  · have hw := hw.2 hc
    refine lv_aload_n hx hb dJ7_fill_53178_10 rfl (lv_at hl 0 rfl) ?_
    refine lv_iload_n hx hb dJ7_fill_53178_11 rfl (lv_at hl 2 rfl) ?_
    refine lv_iload_n hx hb dJ7_fill_53178_12 rfl (lv_at hl 1 rfl) ?_
    refine wnst_3 zc hK hM hS hw.1 dJ7_fill_53178_13 (fun a_levels_1 H locs ea_levels_1 hM hS => ?_)
    have hw := hw.2 a_levels_1 ea_levels_1
    obtain ⟨v_1, ev_1⟩ : ∃ y : Int32, y = x2 + (1 : Int32) := ⟨_, rfl⟩
    have hw := hw v_1 ev_1
    refine lv_iinc (v := v_1) (k := 2) (lv' := [(2, .int v_1), (0, .ref (qn + 3)), (1, .int x1), (3, .int x3)]) hx hb dJ7_fill_53178_14 hl rfl (by rw [ev_1]; rfl) (by decide) rfl (fun ls hl => ?_)
    refine lv_goto (tgt := 5) hx hb dJ7_fill_53178_17 (by decide) ?_
    exact hw _ _ _ (lv_sub hl [1, 2, 0, 3] rfl) hM hS
set_option maxRecDepth 20000 in
theorem t_wn_J7_fill_53178_3_0 {p : Program} {l : Launch} {e : Env} {s : State} {m : MethodId} {args : Array Value} {below : List Frame} {meth : Method} {c : Code} {E : zE} {qn ql qv : Nat} {f_minute : Int32} {f_avalanches : Int32} {f_begun : Int32} {f_climbed : Int32} {f_seed : Int32} {a_huts : Nat → Int32} {a_known : Nat → Int32} {a_levels : Nat → Int32} {a_snow : Nat → Int32} {a_open : Nat → Int32} {lf_huts : Int32} {lf_singers : Int32} {lf_villages : Int32} {lf_dams : Int32} {lf_echoes : Int32} {lf_deep : Int32} {lf_slide : Int32} {la_heights : Nat → Int32} {la_ladders : Nat → Int32} {la_minutes : Nat → Int32} {la_echoFrom : Nat → Int32} {la_echoTo : Nat → Int32} {la_homes : Nat → Int32} {la_talls : Nat → Int32} {la_known : Nat → Int32} {vf_deeds : Int32} {va_kinds : Nat → Int32} {va_firsts : Nat → Int32} {va_seconds : Nat → Int32} {post : (Nat → Int32) → Prop} {x1 : Int32} {ls : Array Slot} {H : Heap} {locs : List Loc}
    (zc : zC p s m args meth c cJ7_fill_53178 4 RJ7 none)
    (hK : zK E s)
    (hM : wnW E qn ql qv f_minute f_avalanches f_begun f_climbed f_seed a_huts a_known a_levels a_snow a_open lf_huts lf_singers lf_villages lf_dams lf_echoes lf_deep lf_slide la_heights la_ladders la_minutes la_echoFrom la_echoTo la_homes la_talls la_known vf_deeds va_kinds va_firsts va_seconds H)
    (hS : va_S (wnA qn ql qv) s.heap H locs)
    (hl : lv_has ls 4 [(0, .ref (qn + 3)), (1, .int x1)])
    (hw : q_wn_J7_fill_53178_3_0 a_levels x1 post) :
    W p l e rm_wn_J7_fill_53178_3 s m args below meth c H locs 0 0 (MQ below (zQv (S := (Nat → Int32)) (fun u => post u) (fun u H => wnW E qn ql qv f_minute f_avalanches f_begun f_climbed f_seed a_huts a_known u a_snow a_open lf_huts lf_singers lf_villages lf_dams lf_echoes lf_deep lf_slide la_heights la_ladders la_minutes la_echoFrom la_echoTo la_homes la_talls la_known vf_deeds va_kinds va_firsts va_seconds H) (wnA qn ql qv)) args s 0 0 (wnA qn ql qv)) (F0 m 0 ls []) := by
  have hx := zc.1
  have hb := zc.2.1
  refine lv_iconst (v := (0 : Int32)) hx hb dJ7_fill_53178_0 (by decide) ?_
  refine lv_istore_n (lv' := [(2, .int (0 : Int32)), (0, .ref (qn + 3)), (1, .int x1)]) hx hb dJ7_fill_53178_1 rfl hl (by decide) rfl (fun ls hl => ?_)
  refine lv_aload_n hx hb dJ7_fill_53178_2 rfl (lv_at hl 1 rfl) ?_
  refine va_alen (v := (5 : Int32)) hx hb hK.1 hM.1 3 1 rfl rfl rfl dJ7_fill_53178_3 ?_
  refine lv_istore_n (lv' := [(3, .int (5 : Int32)), (2, .int (0 : Int32)), (0, .ref (qn + 3)), (1, .int x1)]) hx hb dJ7_fill_53178_4 rfl hl (by decide) rfl (fun ls hl => ?_)
  exact t_wn_J7_fill_53178_3_5 zc hK hM hS  (lv_sub hl [2, 3, 1, 0] rfl) hw
set_option maxRecDepth 20000 in
theorem c_wn_J7_fill_53178_3 (l : Launch) {E : zE} {qn ql qv : Nat} {f_minute : Int32} {f_avalanches : Int32} {f_begun : Int32} {f_climbed : Int32} {f_seed : Int32} {a_huts : Nat → Int32} {a_known : Nat → Int32} {a_levels : Nat → Int32} {a_snow : Nat → Int32} {a_open : Nat → Int32} {lf_huts : Int32} {lf_singers : Int32} {lf_villages : Int32} {lf_dams : Int32} {lf_echoes : Int32} {lf_deep : Int32} {lf_slide : Int32} {la_heights : Nat → Int32} {la_ladders : Nat → Int32} {la_minutes : Nat → Int32} {la_echoFrom : Nat → Int32} {la_echoTo : Nat → Int32} {la_homes : Nat → Int32} {la_talls : Nat → Int32} {la_known : Nat → Int32} {vf_deeds : Int32} {va_kinds : Nat → Int32} {va_firsts : Nat → Int32} {va_seconds : Nat → Int32} {x1 : Int32} {post : (Nat → Int32) → Prop} (hw : q_wn_J7_fill_53178_3_0 a_levels x1 post) : Met l yJ7_fill_53178 (Cond.code yJ7_fill_53178 cJ7_fill_53178 4 none :: zb) rm_wn_J7_fill_53178_3 (va_Pc [.ref (qn + 3), .int x1] (fun U => wnW E qn ql qv f_minute f_avalanches f_begun f_climbed f_seed a_huts a_known a_levels a_snow a_open lf_huts lf_singers lf_villages lf_dams lf_echoes lf_deep lf_slide la_heights la_ladders la_minutes la_echoFrom la_echoTo la_homes la_talls la_known vf_deeds va_kinds va_firsts va_seconds U.heap ∧ zK E U)) (zQv (S := (Nat → Int32)) (fun u => post u) (fun u H => wnW E qn ql qv f_minute f_avalanches f_begun f_climbed f_seed a_huts a_known u a_snow a_open lf_huts lf_singers lf_villages lf_dams lf_echoes lf_deep lf_slide la_heights la_ladders la_minutes la_echoFrom la_echoTo la_homes la_talls la_known vf_deeds va_kinds va_firsts va_seconds H) (wnA qn ql qv)) 0 0 (wnA qn ql qv) := by
  refine Met.ofW (cc := cJ7_fill_53178) (maxL := 4) (ret := none) (by decide) rfl ?_
  intro p e s m args below meth c s₁ B hml hv
  obtain ⟨rfl, hM, hK⟩ := hv
  have zc := zc_of B hml
  have hl := lv_entry ([.ref (qn + 3), .int x1]) (n := 4) (Nat.le_of_ble_eq_true rfl)
  rw [lg_entry_eq]
  generalize (lg_sl ([.ref (qn + 3), .int x1]) ++ List.replicate (4 - (lg_sl ([.ref (qn + 3), .int x1])).length) Slot.unset).toArray = ls at hl ⊢
  have hl : lv_has ls 4 [(0, .ref (qn + 3)), (1, .int x1)] := hl
  exact t_wn_J7_fill_53178_3_0 zc hK hM va_S.rf (lv_sub hl [0, 1] rfl) hw
-- wn_J7_fill_53178_4
abbrev rm_wn_J7_fill_53178_4 : Room := { frames := 0, cells := 0, slots := 0, locals := 0 }
def q_wn_J7_fill_53178_4_5 (a_snow : Nat → Int32) (x1 : Int32) (x2 : Int32) (x3 : Int32) (post : (Nat → Int32) → Prop) : Prop :=
  ∀ P5 : Int32 → (Nat → Int32) → Prop, (∀ (x2 : Int32) (a_snow : Nat → Int32), ((x3 ≤ x2 → (post a_snow)) ∧ (¬ x3 ≤ x2 → (vp_in x2 9 ∧ (∀ a_snow_1 : Nat → Int32, a_snow_1 = upd a_snow (Int32.toNatClampNeg x2) x1 → (∀ v_1 : Int32, v_1 = x2 + (1 : Int32) → (P5 v_1 a_snow_1)))))) → P5 x2 a_snow) → P5 x2 a_snow
def q_wn_J7_fill_53178_4_0 (a_snow : Nat → Int32) (x1 : Int32) (post : (Nat → Int32) → Prop) : Prop :=
  q_wn_J7_fill_53178_4_5 a_snow x1 (0 : Int32) (9 : Int32) post
set_option maxRecDepth 20000 in
theorem t_wn_J7_fill_53178_4_5 {p : Program} {l : Launch} {e : Env} {s : State} {m : MethodId} {args : Array Value} {below : List Frame} {meth : Method} {c : Code} {E : zE} {qn ql qv : Nat} {f_minute : Int32} {f_avalanches : Int32} {f_begun : Int32} {f_climbed : Int32} {f_seed : Int32} {a_huts : Nat → Int32} {a_known : Nat → Int32} {a_levels : Nat → Int32} {a_snow : Nat → Int32} {a_open : Nat → Int32} {lf_huts : Int32} {lf_singers : Int32} {lf_villages : Int32} {lf_dams : Int32} {lf_echoes : Int32} {lf_deep : Int32} {lf_slide : Int32} {la_heights : Nat → Int32} {la_ladders : Nat → Int32} {la_minutes : Nat → Int32} {la_echoFrom : Nat → Int32} {la_echoTo : Nat → Int32} {la_homes : Nat → Int32} {la_talls : Nat → Int32} {la_known : Nat → Int32} {vf_deeds : Int32} {va_kinds : Nat → Int32} {va_firsts : Nat → Int32} {va_seconds : Nat → Int32} {post : (Nat → Int32) → Prop} {x1 : Int32} {x2 : Int32} {x3 : Int32} {ls : Array Slot} {H : Heap} {locs : List Loc}
    (zc : zC p s m args meth c cJ7_fill_53178 4 RJ7 none)
    (hK : zK E s)
    (hM : wnW E qn ql qv f_minute f_avalanches f_begun f_climbed f_seed a_huts a_known a_levels a_snow a_open lf_huts lf_singers lf_villages lf_dams lf_echoes lf_deep lf_slide la_heights la_ladders la_minutes la_echoFrom la_echoTo la_homes la_talls la_known vf_deeds va_kinds va_firsts va_seconds H)
    (hS : va_S (wnA qn ql qv) s.heap H locs)
    (hl : lv_has ls 4 [(0, .ref (qn + 4)), (1, .int x1), (2, .int x2), (3, .int x3)])
    (hw : q_wn_J7_fill_53178_4_5 a_snow x1 x2 x3 post) :
    W p l e rm_wn_J7_fill_53178_4 s m args below meth c H locs 0 0 (MQ below (zQv (S := (Nat → Int32)) (fun u => post u) (fun u H => wnW E qn ql qv f_minute f_avalanches f_begun f_climbed f_seed a_huts a_known a_levels u a_open lf_huts lf_singers lf_villages lf_dams lf_echoes lf_deep lf_slide la_heights la_ladders la_minutes la_echoFrom la_echoTo la_homes la_talls la_known vf_deeds va_kinds va_firsts va_seconds H) (wnA qn ql qv)) args s 0 0 (wnA qn ql qv)) (F0 m 5 ls []) := by
  have hx := zc.1
  have hb := zc.2.1
  refine hw (fun x2 a_snow => ∀ (H : Heap) (locs : List Loc) (ls : Array Slot), lv_has ls 4 [(0, .ref (qn + 4)), (1, .int x1), (2, .int x2), (3, .int x3)] → wnW E qn ql qv f_minute f_avalanches f_begun f_climbed f_seed a_huts a_known a_levels a_snow a_open lf_huts lf_singers lf_villages lf_dams lf_echoes lf_deep lf_slide la_heights la_ladders la_minutes la_echoFrom la_echoTo la_homes la_talls la_known vf_deeds va_kinds va_firsts va_seconds H → va_S (wnA qn ql qv) s.heap H locs → W p l e rm_wn_J7_fill_53178_4 s m args below meth c H locs 0 0 (MQ below (zQv (S := (Nat → Int32)) (fun u => post u) (fun u H => wnW E qn ql qv f_minute f_avalanches f_begun f_climbed f_seed a_huts a_known a_levels u a_open lf_huts lf_singers lf_villages lf_dams lf_echoes lf_deep lf_slide la_heights la_ladders la_minutes la_echoFrom la_echoTo la_homes la_talls la_known vf_deeds va_kinds va_firsts va_seconds H) (wnA qn ql qv)) args s 0 0 (wnA qn ql qv)) (F0 m 5 ls [])) ?_ _ _ _ hl hM hS
  intro x2 a_snow hw H locs ls hl hM hS
  refine lv_iload_n hx hb dJ7_fill_53178_5 rfl (lv_at hl 2 rfl) ?_
  refine lv_iload_n hx hb dJ7_fill_53178_6 rfl (lv_at hl 3 rfl) ?_
  refine lv_icmp_ge (tgt := 20) hx hb dJ7_fill_53178_7 (by decide) (fun hc => ?_) (fun hc => ?_)
  · have hw := hw.1 hc
    exact zret_vw a_snow zc hS hw hM dJ7_fill_53178_20
  · have hw := hw.2 hc
    refine lv_aload_n hx hb dJ7_fill_53178_10 rfl (lv_at hl 0 rfl) ?_
    refine lv_iload_n hx hb dJ7_fill_53178_11 rfl (lv_at hl 2 rfl) ?_
    refine lv_iload_n hx hb dJ7_fill_53178_12 rfl (lv_at hl 1 rfl) ?_
    refine wnst_4 zc hK hM hS hw.1 dJ7_fill_53178_13 (fun a_snow_1 H locs ea_snow_1 hM hS => ?_)
    have hw := hw.2 a_snow_1 ea_snow_1
    obtain ⟨v_1, ev_1⟩ : ∃ y : Int32, y = x2 + (1 : Int32) := ⟨_, rfl⟩
    have hw := hw v_1 ev_1
    refine lv_iinc (v := v_1) (k := 2) (lv' := [(2, .int v_1), (0, .ref (qn + 4)), (1, .int x1), (3, .int x3)]) hx hb dJ7_fill_53178_14 hl rfl (by rw [ev_1]; rfl) (by decide) rfl (fun ls hl => ?_)
    refine lv_goto (tgt := 5) hx hb dJ7_fill_53178_17 (by decide) ?_
    exact hw _ _ _ (lv_sub hl [1, 2, 0, 3] rfl) hM hS
set_option maxRecDepth 20000 in
theorem t_wn_J7_fill_53178_4_0 {p : Program} {l : Launch} {e : Env} {s : State} {m : MethodId} {args : Array Value} {below : List Frame} {meth : Method} {c : Code} {E : zE} {qn ql qv : Nat} {f_minute : Int32} {f_avalanches : Int32} {f_begun : Int32} {f_climbed : Int32} {f_seed : Int32} {a_huts : Nat → Int32} {a_known : Nat → Int32} {a_levels : Nat → Int32} {a_snow : Nat → Int32} {a_open : Nat → Int32} {lf_huts : Int32} {lf_singers : Int32} {lf_villages : Int32} {lf_dams : Int32} {lf_echoes : Int32} {lf_deep : Int32} {lf_slide : Int32} {la_heights : Nat → Int32} {la_ladders : Nat → Int32} {la_minutes : Nat → Int32} {la_echoFrom : Nat → Int32} {la_echoTo : Nat → Int32} {la_homes : Nat → Int32} {la_talls : Nat → Int32} {la_known : Nat → Int32} {vf_deeds : Int32} {va_kinds : Nat → Int32} {va_firsts : Nat → Int32} {va_seconds : Nat → Int32} {post : (Nat → Int32) → Prop} {x1 : Int32} {ls : Array Slot} {H : Heap} {locs : List Loc}
    (zc : zC p s m args meth c cJ7_fill_53178 4 RJ7 none)
    (hK : zK E s)
    (hM : wnW E qn ql qv f_minute f_avalanches f_begun f_climbed f_seed a_huts a_known a_levels a_snow a_open lf_huts lf_singers lf_villages lf_dams lf_echoes lf_deep lf_slide la_heights la_ladders la_minutes la_echoFrom la_echoTo la_homes la_talls la_known vf_deeds va_kinds va_firsts va_seconds H)
    (hS : va_S (wnA qn ql qv) s.heap H locs)
    (hl : lv_has ls 4 [(0, .ref (qn + 4)), (1, .int x1)])
    (hw : q_wn_J7_fill_53178_4_0 a_snow x1 post) :
    W p l e rm_wn_J7_fill_53178_4 s m args below meth c H locs 0 0 (MQ below (zQv (S := (Nat → Int32)) (fun u => post u) (fun u H => wnW E qn ql qv f_minute f_avalanches f_begun f_climbed f_seed a_huts a_known a_levels u a_open lf_huts lf_singers lf_villages lf_dams lf_echoes lf_deep lf_slide la_heights la_ladders la_minutes la_echoFrom la_echoTo la_homes la_talls la_known vf_deeds va_kinds va_firsts va_seconds H) (wnA qn ql qv)) args s 0 0 (wnA qn ql qv)) (F0 m 0 ls []) := by
  have hx := zc.1
  have hb := zc.2.1
  refine lv_iconst (v := (0 : Int32)) hx hb dJ7_fill_53178_0 (by decide) ?_
  refine lv_istore_n (lv' := [(2, .int (0 : Int32)), (0, .ref (qn + 4)), (1, .int x1)]) hx hb dJ7_fill_53178_1 rfl hl (by decide) rfl (fun ls hl => ?_)
  refine lv_aload_n hx hb dJ7_fill_53178_2 rfl (lv_at hl 1 rfl) ?_
  refine va_alen (v := (9 : Int32)) hx hb hK.1 hM.1 4 1 rfl rfl rfl dJ7_fill_53178_3 ?_
  refine lv_istore_n (lv' := [(3, .int (9 : Int32)), (2, .int (0 : Int32)), (0, .ref (qn + 4)), (1, .int x1)]) hx hb dJ7_fill_53178_4 rfl hl (by decide) rfl (fun ls hl => ?_)
  exact t_wn_J7_fill_53178_4_5 zc hK hM hS  (lv_sub hl [2, 3, 1, 0] rfl) hw
set_option maxRecDepth 20000 in
theorem c_wn_J7_fill_53178_4 (l : Launch) {E : zE} {qn ql qv : Nat} {f_minute : Int32} {f_avalanches : Int32} {f_begun : Int32} {f_climbed : Int32} {f_seed : Int32} {a_huts : Nat → Int32} {a_known : Nat → Int32} {a_levels : Nat → Int32} {a_snow : Nat → Int32} {a_open : Nat → Int32} {lf_huts : Int32} {lf_singers : Int32} {lf_villages : Int32} {lf_dams : Int32} {lf_echoes : Int32} {lf_deep : Int32} {lf_slide : Int32} {la_heights : Nat → Int32} {la_ladders : Nat → Int32} {la_minutes : Nat → Int32} {la_echoFrom : Nat → Int32} {la_echoTo : Nat → Int32} {la_homes : Nat → Int32} {la_talls : Nat → Int32} {la_known : Nat → Int32} {vf_deeds : Int32} {va_kinds : Nat → Int32} {va_firsts : Nat → Int32} {va_seconds : Nat → Int32} {x1 : Int32} {post : (Nat → Int32) → Prop} (hw : q_wn_J7_fill_53178_4_0 a_snow x1 post) : Met l yJ7_fill_53178 (Cond.code yJ7_fill_53178 cJ7_fill_53178 4 none :: zb) rm_wn_J7_fill_53178_4 (va_Pc [.ref (qn + 4), .int x1] (fun U => wnW E qn ql qv f_minute f_avalanches f_begun f_climbed f_seed a_huts a_known a_levels a_snow a_open lf_huts lf_singers lf_villages lf_dams lf_echoes lf_deep lf_slide la_heights la_ladders la_minutes la_echoFrom la_echoTo la_homes la_talls la_known vf_deeds va_kinds va_firsts va_seconds U.heap ∧ zK E U)) (zQv (S := (Nat → Int32)) (fun u => post u) (fun u H => wnW E qn ql qv f_minute f_avalanches f_begun f_climbed f_seed a_huts a_known a_levels u a_open lf_huts lf_singers lf_villages lf_dams lf_echoes lf_deep lf_slide la_heights la_ladders la_minutes la_echoFrom la_echoTo la_homes la_talls la_known vf_deeds va_kinds va_firsts va_seconds H) (wnA qn ql qv)) 0 0 (wnA qn ql qv) := by
  refine Met.ofW (cc := cJ7_fill_53178) (maxL := 4) (ret := none) (by decide) rfl ?_
  intro p e s m args below meth c s₁ B hml hv
  obtain ⟨rfl, hM, hK⟩ := hv
  have zc := zc_of B hml
  have hl := lv_entry ([.ref (qn + 4), .int x1]) (n := 4) (Nat.le_of_ble_eq_true rfl)
  rw [lg_entry_eq]
  generalize (lg_sl ([.ref (qn + 4), .int x1]) ++ List.replicate (4 - (lg_sl ([.ref (qn + 4), .int x1])).length) Slot.unset).toArray = ls at hl ⊢
  have hl : lv_has ls 4 [(0, .ref (qn + 4)), (1, .int x1)] := hl
  exact t_wn_J7_fill_53178_4_0 zc hK hM va_S.rf (lv_sub hl [0, 1] rfl) hw
-- wn_X3_start_6
abbrev rm_wn_X3_start_6 : Room := { frames := 1, cells := 0, slots := 0, locals := 40 }
def q_wn_X3_start_6_0 (f_minute : Int32) (f_avalanches : Int32) (f_begun : Int32) (f_climbed : Int32) (a_huts : Nat → Int32) (a_known : Nat → Int32) (a_levels : Nat → Int32) (a_snow : Nat → Int32) (la_homes : Nat → Int32) (la_known : Nat → Int32) (post : (Int32) → (Int32) → (Int32) → (Int32) → (Nat → Int32) → (Nat → Int32) → (Nat → Int32) → (Nat → Int32) → Prop) : Prop :=
  ∀ a_huts_1 : Nat → Int32, a_huts_1 = va_cpy la_homes a_huts (Int32.toNatClampNeg (0 : Int32)) (Int32.toNatClampNeg (0 : Int32)) (Int32.toNatClampNeg (6 : Int32)) → (∀ a_known_1 : Nat → Int32, a_known_1 = va_cpy la_known a_known (Int32.toNatClampNeg (0 : Int32)) (Int32.toNatClampNeg (0 : Int32)) (Int32.toNatClampNeg (6 : Int32)) → (q_wn_J7_fill_53178_3_0 a_levels (-1 : Int32) (fun a_levels_1 => q_wn_J7_fill_53178_4_0 a_snow (0 : Int32) (fun a_snow_1 => post (0 : Int32) (0 : Int32) (0 : Int32) (0 : Int32) a_huts_1 a_known_1 a_levels_1 a_snow_1))))
set_option maxRecDepth 20000 in
theorem t_wn_X3_start_6_0 {p : Program} {l : Launch} {e : Env} {s : State} {m : MethodId} {args : Array Value} {below : List Frame} {meth : Method} {c : Code} {E : zE} {qn ql qv : Nat} {f_minute : Int32} {f_avalanches : Int32} {f_begun : Int32} {f_climbed : Int32} {f_seed : Int32} {a_huts : Nat → Int32} {a_known : Nat → Int32} {a_levels : Nat → Int32} {a_snow : Nat → Int32} {a_open : Nat → Int32} {lf_huts : Int32} {lf_singers : Int32} {lf_villages : Int32} {lf_dams : Int32} {lf_echoes : Int32} {lf_deep : Int32} {lf_slide : Int32} {la_heights : Nat → Int32} {la_ladders : Nat → Int32} {la_minutes : Nat → Int32} {la_echoFrom : Nat → Int32} {la_echoTo : Nat → Int32} {la_homes : Nat → Int32} {la_talls : Nat → Int32} {la_known : Nat → Int32} {vf_deeds : Int32} {va_kinds : Nat → Int32} {va_firsts : Nat → Int32} {va_seconds : Nat → Int32} {post : (Int32) → (Int32) → (Int32) → (Int32) → (Nat → Int32) → (Nat → Int32) → (Nat → Int32) → (Nat → Int32) → Prop} {ls : Array Slot} {H : Heap} {locs : List Loc}
    (zc : zC p s m args meth c cX3_start 2 RX3 none)
    (hK : zK E s)
    (hM : wnW E qn ql qv f_minute f_avalanches f_begun f_climbed f_seed a_huts a_known a_levels a_snow a_open lf_huts lf_singers lf_villages lf_dams lf_echoes lf_deep lf_slide la_heights la_ladders la_minutes la_echoFrom la_echoTo la_homes la_talls la_known vf_deeds va_kinds va_firsts va_seconds H)
    (hS : va_S (wnA qn ql qv) s.heap H locs)
    (hl : lv_has ls 2 [(0, .ref qn), (1, .ref ql)])
    (hw : q_wn_X3_start_6_0 f_minute f_avalanches f_begun f_climbed a_huts a_known a_levels a_snow la_homes la_known post) :
    W p l e rm_wn_X3_start_6 s m args below meth c H locs 0 0 (MQ below (zQv (S := (Int32) × (Int32) × (Int32) × (Int32) × (Nat → Int32) × (Nat → Int32) × (Nat → Int32) × (Nat → Int32)) (fun u => post u.1 u.2.1 u.2.2.1 u.2.2.2.1 u.2.2.2.2.1 u.2.2.2.2.2.1 u.2.2.2.2.2.2.1 u.2.2.2.2.2.2.2) (fun u H => wnW E qn ql qv u.1 u.2.1 u.2.2.1 u.2.2.2.1 f_seed u.2.2.2.2.1 u.2.2.2.2.2.1 u.2.2.2.2.2.2.1 u.2.2.2.2.2.2.2 a_open lf_huts lf_singers lf_villages lf_dams lf_echoes lf_deep lf_slide la_heights la_ladders la_minutes la_echoFrom la_echoTo la_homes la_talls la_known vf_deeds va_kinds va_firsts va_seconds H) (wnA qn ql qv)) args s 0 0 (wnA qn ql qv)) (F0 m 0 ls []) := by
  have hx := zc.1
  have hb := zc.2.1
  refine lv_aload_n hx hb dX3_start_0 rfl (lv_at hl 0 rfl) ?_
  refine lv_iconst (v := (0 : Int32)) hx hb dX3_start_1 (by decide) ?_
  refine wnp_3_72_0 zc hK hM hS dX3_start_2 (fun H locs hM hS => ?_)
  refine lv_aload_n hx hb dX3_start_5 rfl (lv_at hl 0 rfl) ?_
  refine lv_iconst (v := (0 : Int32)) hx hb dX3_start_6 (by decide) ?_
  refine wnp_3_75_0 zc hK hM hS dX3_start_7 (fun H locs hM hS => ?_)
  refine lv_aload_n hx hb dX3_start_10 rfl (lv_at hl 0 rfl) ?_
  refine lv_iconst (v := (0 : Int32)) hx hb dX3_start_11 (by decide) ?_
  refine wnp_3_64_0 zc hK hM hS dX3_start_12 (fun H locs hM hS => ?_)
  refine lv_aload_n hx hb dX3_start_15 rfl (lv_at hl 0 rfl) ?_
  refine lv_iconst (v := (0 : Int32)) hx hb dX3_start_16 (by decide) ?_
  refine wnp_3_78_0 zc hK hM hS dX3_start_17 (fun H locs hM hS => ?_)
  refine lv_aload_n hx hb dX3_start_20 rfl (lv_at hl 1 rfl) ?_
  refine wng_3_81_6 zc hK hM dX3_start_21 ?_
  refine lv_iconst (v := (0 : Int32)) hx hb dX3_start_24 (by decide) ?_
  refine lv_aload_n hx hb dX3_start_25 rfl (lv_at hl 0 rfl) ?_
  refine wng_3_9_0 zc hK hM dX3_start_26 ?_
  refine lv_iconst (v := (0 : Int32)) hx hb dX3_start_29 (by decide) ?_
  refine lv_bipush (v := (6 : Int32)) hx hb dX3_start_30 (by decide) ?_
  refine wncp_12_1 zc hK hM hS hl.1 (zc.2.2.2.2.1 _ km_3_84) (by decide) (by decide) (by decide) (by decide) (by decide) (fun _ _ => rfl) (by decide) (by decide) dX3_start_32 (fun a_huts_1 H locs ea_huts_1 hM hS => ?_)
  have hw := hw a_huts_1 ea_huts_1
  refine lv_aload_n hx hb dX3_start_35 rfl (lv_at hl 1 rfl) ?_
  refine wng_3_90_6 zc hK hM dX3_start_36 ?_
  refine lv_iconst (v := (0 : Int32)) hx hb dX3_start_39 (by decide) ?_
  refine lv_aload_n hx hb dX3_start_40 rfl (lv_at hl 0 rfl) ?_
  refine wng_3_15_0 zc hK hM dX3_start_41 ?_
  refine lv_iconst (v := (0 : Int32)) hx hb dX3_start_44 (by decide) ?_
  refine lv_bipush (v := (6 : Int32)) hx hb dX3_start_45 (by decide) ?_
  refine wncp_14_2 zc hK hM hS hl.1 (zc.2.2.2.2.1 _ km_3_84) (by decide) (by decide) (by decide) (by decide) (by decide) (fun _ _ => rfl) (by decide) (by decide) dX3_start_47 (fun a_known_1 H locs ea_known_1 hM hS => ?_)
  have hw := hw a_known_1 ea_known_1
  refine lv_aload_n hx hb dX3_start_50 rfl (lv_at hl 0 rfl) ?_
  refine wng_3_18_0 zc hK hM dX3_start_51 ?_
  refine lv_iconst (v := (-1 : Int32)) hx hb dX3_start_54 (by decide) ?_
  refine zSw_v [.ref (qn + 3), .int (-1 : Int32)] [] zc ky_J7_fill_53178 kz_J7_fill_53178 km_3_91 (c_wn_J7_fill_53178_3 l hw) (wnPreS hK hM) hS rfl rfl hl.1 (Nat.le_of_ble_eq_true rfl) ⟨rfl, rfl⟩ ⟨Nat.le_of_ble_eq_true rfl, Nat.le_of_ble_eq_true rfl⟩ ⟨(Nat.zero_le _), (Nat.zero_le _)⟩ dX3_start_55 (fun a_levels_1 H locs hw hM hS => ?_)
  refine lv_aload_n hx hb dX3_start_58 rfl (lv_at hl 0 rfl) ?_
  refine wng_3_21_0 zc hK hM dX3_start_59 ?_
  refine lv_iconst (v := (0 : Int32)) hx hb dX3_start_62 (by decide) ?_
  refine zSw_v [.ref (qn + 4), .int (0 : Int32)] [] zc ky_J7_fill_53178 kz_J7_fill_53178 km_3_91 (c_wn_J7_fill_53178_4 l hw) (wnPreS hK hM) hS rfl rfl hl.1 (Nat.le_of_ble_eq_true rfl) ⟨rfl, rfl⟩ ⟨Nat.le_of_ble_eq_true rfl, Nat.le_of_ble_eq_true rfl⟩ ⟨(Nat.zero_le _), (Nat.zero_le _)⟩ dX3_start_63 (fun a_snow_1 H locs hw hM hS => ?_)
  exact zret_vw ⟨(0 : Int32), (0 : Int32), (0 : Int32), (0 : Int32), a_huts_1, a_known_1, a_levels_1, a_snow_1⟩ zc hS hw hM dX3_start_66
set_option maxRecDepth 20000 in
theorem c_wn_X3_start_6 (l : Launch) {E : zE} {qn ql qv : Nat} {f_minute : Int32} {f_avalanches : Int32} {f_begun : Int32} {f_climbed : Int32} {f_seed : Int32} {a_huts : Nat → Int32} {a_known : Nat → Int32} {a_levels : Nat → Int32} {a_snow : Nat → Int32} {a_open : Nat → Int32} {lf_huts : Int32} {lf_singers : Int32} {lf_villages : Int32} {lf_dams : Int32} {lf_echoes : Int32} {lf_deep : Int32} {lf_slide : Int32} {la_heights : Nat → Int32} {la_ladders : Nat → Int32} {la_minutes : Nat → Int32} {la_echoFrom : Nat → Int32} {la_echoTo : Nat → Int32} {la_homes : Nat → Int32} {la_talls : Nat → Int32} {la_known : Nat → Int32} {vf_deeds : Int32} {va_kinds : Nat → Int32} {va_firsts : Nat → Int32} {va_seconds : Nat → Int32} {post : (Int32) → (Int32) → (Int32) → (Int32) → (Nat → Int32) → (Nat → Int32) → (Nat → Int32) → (Nat → Int32) → Prop} (hw : q_wn_X3_start_6_0 f_minute f_avalanches f_begun f_climbed a_huts a_known a_levels a_snow la_homes la_known post) : Met l yX3_start (Cond.code yX3_start cX3_start 2 none :: zb) rm_wn_X3_start_6 (va_Pc [.ref qn, .ref ql] (fun U => wnW E qn ql qv f_minute f_avalanches f_begun f_climbed f_seed a_huts a_known a_levels a_snow a_open lf_huts lf_singers lf_villages lf_dams lf_echoes lf_deep lf_slide la_heights la_ladders la_minutes la_echoFrom la_echoTo la_homes la_talls la_known vf_deeds va_kinds va_firsts va_seconds U.heap ∧ zK E U)) (zQv (S := (Int32) × (Int32) × (Int32) × (Int32) × (Nat → Int32) × (Nat → Int32) × (Nat → Int32) × (Nat → Int32)) (fun u => post u.1 u.2.1 u.2.2.1 u.2.2.2.1 u.2.2.2.2.1 u.2.2.2.2.2.1 u.2.2.2.2.2.2.1 u.2.2.2.2.2.2.2) (fun u H => wnW E qn ql qv u.1 u.2.1 u.2.2.1 u.2.2.2.1 f_seed u.2.2.2.2.1 u.2.2.2.2.2.1 u.2.2.2.2.2.2.1 u.2.2.2.2.2.2.2 a_open lf_huts lf_singers lf_villages lf_dams lf_echoes lf_deep lf_slide la_heights la_ladders la_minutes la_echoFrom la_echoTo la_homes la_talls la_known vf_deeds va_kinds va_firsts va_seconds H) (wnA qn ql qv)) 0 0 (wnA qn ql qv) := by
  refine Met.ofW (cc := cX3_start) (maxL := 2) (ret := none) (by decide) rfl ?_
  intro p e s m args below meth c s₁ B hml hv
  obtain ⟨rfl, hM, hK⟩ := hv
  have zc := zc_of B hml
  have hl := lv_entry ([.ref qn, .ref ql]) (n := 2) (Nat.le_of_ble_eq_true rfl)
  rw [lg_entry_eq]
  generalize (lg_sl ([.ref qn, .ref ql]) ++ List.replicate (2 - (lg_sl ([.ref qn, .ref ql])).length) Slot.unset).toArray = ls at hl ⊢
  have hl : lv_has ls 2 [(0, .ref qn), (1, .ref ql)] := hl
  exact t_wn_X3_start_6_0 zc hK hM va_S.rf (lv_sub hl [0, 1] rfl) hw
-- wn_X3_high_6
abbrev rm_wn_X3_high_6 : Room := { frames := 1, cells := 0, slots := 0, locals := 21 }
def q_wn_X3_high_6_0 (f_climbed : Int32) (a_huts : Nat → Int32) (la_heights : Nat → Int32) (la_ladders : Nat → Int32) (la_talls : Nat → Int32) (x2 : Int32) (post : Int32 → Prop) : Prop :=
  vp_in x2 6 ∧ (∀ v_1 : Int32, v_1 = (a_huts (Int32.toNatClampNeg x2)) → (vp_in v_1 9 ∧ (vp_in x2 6 ∧ (∀ v_2 : Int32, v_2 = ((la_heights (Int32.toNatClampNeg v_1)) - (la_talls (Int32.toNatClampNeg x2))) → (q_z_X10_has_0 f_climbed x2 (fun r_1 => (r_1 = 0 → (post v_2)) ∧ (¬ r_1 = 0 → (vp_in v_1 9 ∧ (post (v_2 + (la_ladders (Int32.toNatClampNeg v_1))))))))))))
set_option maxRecDepth 20000 in
theorem t_wn_X3_high_6_0 {p : Program} {l : Launch} {e : Env} {s : State} {m : MethodId} {args : Array Value} {below : List Frame} {meth : Method} {c : Code} {E : zE} {qn ql qv : Nat} {f_minute : Int32} {f_avalanches : Int32} {f_begun : Int32} {f_climbed : Int32} {f_seed : Int32} {a_huts : Nat → Int32} {a_known : Nat → Int32} {a_levels : Nat → Int32} {a_snow : Nat → Int32} {a_open : Nat → Int32} {lf_huts : Int32} {lf_singers : Int32} {lf_villages : Int32} {lf_dams : Int32} {lf_echoes : Int32} {lf_deep : Int32} {lf_slide : Int32} {la_heights : Nat → Int32} {la_ladders : Nat → Int32} {la_minutes : Nat → Int32} {la_echoFrom : Nat → Int32} {la_echoTo : Nat → Int32} {la_homes : Nat → Int32} {la_talls : Nat → Int32} {la_known : Nat → Int32} {vf_deeds : Int32} {va_kinds : Nat → Int32} {va_firsts : Nat → Int32} {va_seconds : Nat → Int32} {post : Int32 → Prop} {x2 : Int32} {ls : Array Slot}
    (zc : zC p s m args meth c cX3_high 5 RX3 (some .int))
    (hK : zK E s)
    (hM : wnW E qn ql qv f_minute f_avalanches f_begun f_climbed f_seed a_huts a_known a_levels a_snow a_open lf_huts lf_singers lf_villages lf_dams lf_echoes lf_deep lf_slide la_heights la_ladders la_minutes la_echoFrom la_echoTo la_homes la_talls la_known vf_deeds va_kinds va_firsts va_seconds s.heap)
    (hl : lv_has ls 5 [(0, .ref qn), (1, .ref ql), (2, .int x2)])
    (hw : q_wn_X3_high_6_0 f_climbed a_huts la_heights la_ladders la_talls x2 post) :
    W p l e rm_wn_X3_high_6 s m args below meth c s.heap [] 0 0 (MQ below (vp_Si post) args s 0 0 (fun _ => False)) (F0 m 0 ls []) := by
  have hx := zc.1
  have hb := zc.2.1
  refine lv_aload_n hx hb dX3_high_0 rfl (lv_at hl 0 rfl) ?_
  refine wng_3_9_0 zc hK hM dX3_high_1 ?_
  refine lv_iload_n hx hb dX3_high_4 rfl (lv_at hl 2 rfl) ?_
  refine wnld_1 zc hK hM hw.1 dX3_high_5 ?_
  have hw := hw.2
  refine lv_topi (fun v_1 ev_1 => ?_)
  have hw := hw v_1 ev_1
  refine lv_istore_n (lv' := [(3, .int v_1), (0, .ref qn), (1, .ref ql), (2, .int x2)]) hx hb dX3_high_6 rfl hl (by decide) rfl (fun ls hl => ?_)
  refine lv_aload_n hx hb dX3_high_7 rfl (lv_at hl 2 rfl) ?_
  refine wng_3_147_6 zc hK hM dX3_high_8 ?_
  refine lv_iload_n hx hb dX3_high_11 rfl (lv_at hl 0 rfl) ?_
  refine wnld_7 zc hK hM hw.1 dX3_high_12 ?_
  have hw := hw.2
  refine lv_aload_n hx hb dX3_high_13 rfl (lv_at hl 2 rfl) ?_
  refine wng_3_150_6 zc hK hM dX3_high_14 ?_
  refine lv_iload_n hx hb dX3_high_17 rfl (lv_at hl 3 rfl) ?_
  refine wnld_13 zc hK hM hw.1 dX3_high_18 ?_
  have hw := hw.2
  refine lv_isub hx hb dX3_high_19 ?_
  refine lv_topi (fun v_2 ev_2 => ?_)
  have hw := hw v_2 ev_2
  refine lv_istore (lv' := [(4, .int v_2), (3, .int v_1), (0, .ref qn), (1, .ref ql), (2, .int x2)]) hx hb dX3_high_20 hl (by decide) rfl (fun ls hl => ?_)
  refine lv_aload_n hx hb dX3_high_22 rfl (lv_at hl 2 rfl) ?_
  refine wng_3_78_0 zc hK hM dX3_high_23 ?_
  refine lv_iload_n hx hb dX3_high_26 rfl (lv_at hl 4 rfl) ?_
  refine zSN_i [.int f_climbed, .int x2] [] zc ky_X10_has kz_X10_has (hK.2 _ kn_3_67) (c_z_X10_has l hw) (zPre0 _) rfl rfl hl.1 (Nat.le_of_ble_eq_true rfl) ⟨rfl, rfl⟩ ⟨Nat.le_of_ble_eq_true rfl, Nat.le_of_ble_eq_true rfl⟩ ⟨(Nat.zero_le _), (Nat.zero_le _)⟩ dX3_high_27 (fun r_1 hw => ?_)
  refine lv_if_eq (tgt := 45) hx hb dX3_high_30 (by decide) (fun hc => ?_) (fun hc => ?_)
  · have hw := hw.1 hc
    refine lv_iload hx hb dX3_high_45 (lv_at hl 0 rfl) ?_
    exact zret_i zc hw dX3_high_47
  · have hw := hw.2 hc
    refine lv_iload hx hb dX3_high_33 (lv_at hl 0 rfl) ?_
    refine lv_aload_n hx hb dX3_high_35 rfl (lv_at hl 3 rfl) ?_
    refine wng_3_124_6 zc hK hM dX3_high_36 ?_
    refine lv_iload_n hx hb dX3_high_39 rfl (lv_at hl 1 rfl) ?_
    refine wnld_8 zc hK hM hw.1 dX3_high_40 ?_
    have hw := hw.2
    refine lv_iadd hx hb dX3_high_41 ?_
    refine lv_goto (tgt := 47) hx hb dX3_high_42 (by decide) ?_
    exact zret_i zc hw dX3_high_47
set_option maxRecDepth 20000 in
theorem c_wn_X3_high_6 (l : Launch) {E : zE} {qn ql qv : Nat} {f_minute : Int32} {f_avalanches : Int32} {f_begun : Int32} {f_climbed : Int32} {f_seed : Int32} {a_huts : Nat → Int32} {a_known : Nat → Int32} {a_levels : Nat → Int32} {a_snow : Nat → Int32} {a_open : Nat → Int32} {lf_huts : Int32} {lf_singers : Int32} {lf_villages : Int32} {lf_dams : Int32} {lf_echoes : Int32} {lf_deep : Int32} {lf_slide : Int32} {la_heights : Nat → Int32} {la_ladders : Nat → Int32} {la_minutes : Nat → Int32} {la_echoFrom : Nat → Int32} {la_echoTo : Nat → Int32} {la_homes : Nat → Int32} {la_talls : Nat → Int32} {la_known : Nat → Int32} {vf_deeds : Int32} {va_kinds : Nat → Int32} {va_firsts : Nat → Int32} {va_seconds : Nat → Int32} {x2 : Int32} {post : Int32 → Prop} (hw : q_wn_X3_high_6_0 f_climbed a_huts la_heights la_ladders la_talls x2 post) : Met l yX3_high (Cond.code yX3_high cX3_high 5 (some .int) :: zb) rm_wn_X3_high_6 (va_Pc [.ref qn, .ref ql, .int x2] (fun U => wnW E qn ql qv f_minute f_avalanches f_begun f_climbed f_seed a_huts a_known a_levels a_snow a_open lf_huts lf_singers lf_villages lf_dams lf_echoes lf_deep lf_slide la_heights la_ladders la_minutes la_echoFrom la_echoTo la_homes la_talls la_known vf_deeds va_kinds va_firsts va_seconds U.heap ∧ zK E U)) (vp_Si post) 0 0 (fun _ => False) := by
  refine Met.ofW (cc := cX3_high) (maxL := 5) (ret := (some .int)) (by decide) rfl ?_
  intro p e s m args below meth c s₁ B hml hv
  obtain ⟨rfl, hM, hK⟩ := hv
  have zc := zc_of B hml
  have hl := lv_entry ([.ref qn, .ref ql, .int x2]) (n := 5) (Nat.le_of_ble_eq_true rfl)
  rw [lg_entry_eq]
  generalize (lg_sl ([.ref qn, .ref ql, .int x2]) ++ List.replicate (5 - (lg_sl ([.ref qn, .ref ql, .int x2])).length) Slot.unset).toArray = ls at hl ⊢
  have hl : lv_has ls 5 [(0, .ref qn), (1, .ref ql), (2, .int x2)] := hl
  exact t_wn_X3_high_6_0 zc hK hM (lv_sub hl [0, 1, 2] rfl) hw
-- wn_X3_singersIn_6
abbrev rm_wn_X3_singersIn_6 : Room := { frames := 1, cells := 0, slots := 0, locals := 21 }
def q_wn_X3_singersIn_6_35 (P5 : Int32 → Int32 → Prop) (a_huts : Nat → Int32) (lf_singers : Int32) (x2 : Int32) (x3 : Int32) (x4 : Int32) (post : Int32 → Prop) : Prop :=
  ∀ v_1 : Int32, v_1 = x4 + (1 : Int32) → (P5 x3 v_1)
def q_wn_X3_singersIn_6_5 (a_huts : Nat → Int32) (lf_singers : Int32) (x2 : Int32) (x3 : Int32) (x4 : Int32) (post : Int32 → Prop) : Prop :=
  ∀ P5 : Int32 → Int32 → Prop, (∀ (x3 : Int32) (x4 : Int32), ((lf_singers ≤ x4 → (post x3)) ∧ (¬ lf_singers ≤ x4 → (vp_in x4 6 ∧ (q_z_X10_has_0 x2 (a_huts (Int32.toNatClampNeg x4)) (fun r_1 => (r_1 = 0 → (q_wn_X3_singersIn_6_35 P5 a_huts lf_singers x2 x3 x4 post)) ∧ (¬ r_1 = 0 → (∀ v_1 : Int32, v_1 = (x3 ||| ((1 : Int32) <<< (x4 &&& 31))) → (q_wn_X3_singersIn_6_35 P5 a_huts lf_singers x2 v_1 x4 post)))))))) → P5 x3 x4) → P5 x3 x4
def q_wn_X3_singersIn_6_0 (a_huts : Nat → Int32) (lf_singers : Int32) (x2 : Int32) (post : Int32 → Prop) : Prop :=
  q_wn_X3_singersIn_6_5 a_huts lf_singers x2 (0 : Int32) (0 : Int32) post
set_option maxRecDepth 20000 in
theorem t_wn_X3_singersIn_6_35 {p : Program} {l : Launch} {e : Env} {s : State} {m : MethodId} {args : Array Value} {below : List Frame} {meth : Method} {c : Code} {E : zE} {qn ql qv : Nat} {f_minute : Int32} {f_avalanches : Int32} {f_begun : Int32} {f_climbed : Int32} {f_seed : Int32} {a_huts : Nat → Int32} {a_known : Nat → Int32} {a_levels : Nat → Int32} {a_snow : Nat → Int32} {a_open : Nat → Int32} {lf_huts : Int32} {lf_singers : Int32} {lf_villages : Int32} {lf_dams : Int32} {lf_echoes : Int32} {lf_deep : Int32} {lf_slide : Int32} {la_heights : Nat → Int32} {la_ladders : Nat → Int32} {la_minutes : Nat → Int32} {la_echoFrom : Nat → Int32} {la_echoTo : Nat → Int32} {la_homes : Nat → Int32} {la_talls : Nat → Int32} {la_known : Nat → Int32} {vf_deeds : Int32} {va_kinds : Nat → Int32} {va_firsts : Nat → Int32} {va_seconds : Nat → Int32} {P5 : Int32 → Int32 → Prop} {post : Int32 → Prop} {x2 : Int32} {x3 : Int32} {x4 : Int32} {ls : Array Slot}
    (zc : zC p s m args meth c cX3_singersIn 5 RX3 (some .int))
    (hK : zK E s)
    (hM : wnW E qn ql qv f_minute f_avalanches f_begun f_climbed f_seed a_huts a_known a_levels a_snow a_open lf_huts lf_singers lf_villages lf_dams lf_echoes lf_deep lf_slide la_heights la_ladders la_minutes la_echoFrom la_echoTo la_homes la_talls la_known vf_deeds va_kinds va_firsts va_seconds s.heap)
    (hP5 : ∀ (x3 : Int32) (x4 : Int32) (ls : Array Slot), P5 x3 x4 → lv_has ls 5 [(0, .ref qn), (1, .ref ql), (2, .int x2), (3, .int x3), (4, .int x4)] → W p l e rm_wn_X3_singersIn_6 s m args below meth c s.heap [] 0 0 (MQ below (vp_Si post) args s 0 0 (fun _ => False)) (F0 m 5 ls []))
    (hl : lv_has ls 5 [(0, .ref qn), (1, .ref ql), (2, .int x2), (3, .int x3), (4, .int x4)])
    (hw : q_wn_X3_singersIn_6_35 P5 a_huts lf_singers x2 x3 x4 post) :
    W p l e rm_wn_X3_singersIn_6 s m args below meth c s.heap [] 0 0 (MQ below (vp_Si post) args s 0 0 (fun _ => False)) (F0 m 35 ls []) := by
  have hx := zc.1
  have hb := zc.2.1
  obtain ⟨v_1, ev_1⟩ : ∃ y : Int32, y = x4 + (1 : Int32) := ⟨_, rfl⟩
  have hw := hw v_1 ev_1
  refine lv_iinc (v := v_1) (k := 4) (lv' := [(4, .int v_1), (0, .ref qn), (1, .ref ql), (2, .int x2), (3, .int x3)]) hx hb dX3_singersIn_35 hl rfl (by rw [ev_1]; rfl) (by decide) rfl (fun ls hl => ?_)
  refine lv_goto (tgt := 5) hx hb dX3_singersIn_38 (by decide) ?_
  exact hP5 _ _ _ hw (lv_sub hl [1, 2, 3, 4, 0] rfl)
set_option maxRecDepth 20000 in
theorem t_wn_X3_singersIn_6_5 {p : Program} {l : Launch} {e : Env} {s : State} {m : MethodId} {args : Array Value} {below : List Frame} {meth : Method} {c : Code} {E : zE} {qn ql qv : Nat} {f_minute : Int32} {f_avalanches : Int32} {f_begun : Int32} {f_climbed : Int32} {f_seed : Int32} {a_huts : Nat → Int32} {a_known : Nat → Int32} {a_levels : Nat → Int32} {a_snow : Nat → Int32} {a_open : Nat → Int32} {lf_huts : Int32} {lf_singers : Int32} {lf_villages : Int32} {lf_dams : Int32} {lf_echoes : Int32} {lf_deep : Int32} {lf_slide : Int32} {la_heights : Nat → Int32} {la_ladders : Nat → Int32} {la_minutes : Nat → Int32} {la_echoFrom : Nat → Int32} {la_echoTo : Nat → Int32} {la_homes : Nat → Int32} {la_talls : Nat → Int32} {la_known : Nat → Int32} {vf_deeds : Int32} {va_kinds : Nat → Int32} {va_firsts : Nat → Int32} {va_seconds : Nat → Int32} {post : Int32 → Prop} {x2 : Int32} {x3 : Int32} {x4 : Int32} {ls : Array Slot}
    (zc : zC p s m args meth c cX3_singersIn 5 RX3 (some .int))
    (hK : zK E s)
    (hM : wnW E qn ql qv f_minute f_avalanches f_begun f_climbed f_seed a_huts a_known a_levels a_snow a_open lf_huts lf_singers lf_villages lf_dams lf_echoes lf_deep lf_slide la_heights la_ladders la_minutes la_echoFrom la_echoTo la_homes la_talls la_known vf_deeds va_kinds va_firsts va_seconds s.heap)
    (hl : lv_has ls 5 [(0, .ref qn), (1, .ref ql), (2, .int x2), (3, .int x3), (4, .int x4)])
    (hw : q_wn_X3_singersIn_6_5 a_huts lf_singers x2 x3 x4 post) :
    W p l e rm_wn_X3_singersIn_6 s m args below meth c s.heap [] 0 0 (MQ below (vp_Si post) args s 0 0 (fun _ => False)) (F0 m 5 ls []) := by
  have hx := zc.1
  have hb := zc.2.1
  refine hw (fun x3 x4 => ∀ (ls : Array Slot), lv_has ls 5 [(0, .ref qn), (1, .ref ql), (2, .int x2), (3, .int x3), (4, .int x4)] → W p l e rm_wn_X3_singersIn_6 s m args below meth c s.heap [] 0 0 (MQ below (vp_Si post) args s 0 0 (fun _ => False)) (F0 m 5 ls [])) ?_ _ hl
  intro x3 x4 hw ls hl
  refine lv_iload hx hb dX3_singersIn_5 (lv_at hl 4 rfl) ?_
  refine lv_aload_n hx hb dX3_singersIn_7 rfl (lv_at hl 1 rfl) ?_
  refine wng_3_53_6 zc hK hM dX3_singersIn_8 ?_
  refine lv_icmp_ge (tgt := 41) hx hb dX3_singersIn_11 (by decide) (fun hc => ?_) (fun hc => ?_)
  · have hw := hw.1 hc
    refine lv_iload_n hx hb dX3_singersIn_41 rfl (lv_at hl 3 rfl) ?_
    exact zret_i zc hw dX3_singersIn_42
  · have hw := hw.2 hc
    refine lv_iload_n hx hb dX3_singersIn_14 rfl (lv_at hl 2 rfl) ?_
    refine lv_aload_n hx hb dX3_singersIn_15 rfl (lv_at hl 0 rfl) ?_
    refine wng_3_9_0 zc hK hM dX3_singersIn_16 ?_
    refine lv_iload hx hb dX3_singersIn_19 (lv_at hl 4 rfl) ?_
    refine wnld_1 zc hK hM hw.1 dX3_singersIn_21 ?_
    have hw := hw.2
    refine zSN_i [.int x2, .int (a_huts (Int32.toNatClampNeg x4))] [] zc ky_X10_has kz_X10_has (hK.2 _ kn_3_67) (c_z_X10_has l hw) (zPre0 _) rfl rfl hl.1 (Nat.le_of_ble_eq_true rfl) ⟨rfl, rfl⟩ ⟨Nat.le_of_ble_eq_true rfl, Nat.le_of_ble_eq_true rfl⟩ ⟨(Nat.zero_le _), (Nat.zero_le _)⟩ dX3_singersIn_22 (fun r_1 hw => ?_)
    refine lv_if_eq (tgt := 35) hx hb dX3_singersIn_25 (by decide) (fun hc => ?_) (fun hc => ?_)
    · have hw := hw.1 hc
      exact t_wn_X3_singersIn_6_35 zc hK hM (fun _ _ ls h hl => h ls hl) (lv_sub hl [0, 1, 2, 3, 4] rfl) hw
    · have hw := hw.2 hc
      refine lv_iload_n hx hb dX3_singersIn_28 rfl (lv_at hl 3 rfl) ?_
      refine lv_iconst (v := (1 : Int32)) hx hb dX3_singersIn_29 (by decide) ?_
      refine lv_iload hx hb dX3_singersIn_30 (lv_at hl 4 rfl) ?_
      refine lv_ishl hx hb dX3_singersIn_32 ?_
      refine lv_ior hx hb dX3_singersIn_33 ?_
      refine lv_topi (fun v_1 ev_1 => ?_)
      have hw := hw v_1 ev_1
      refine lv_istore_n (lv' := [(3, .int v_1), (0, .ref qn), (1, .ref ql), (2, .int x2), (4, .int x4)]) hx hb dX3_singersIn_34 rfl hl (by decide) rfl (fun ls hl => ?_)
      exact t_wn_X3_singersIn_6_35 zc hK hM (fun _ _ ls h hl => h ls hl) (lv_sub hl [1, 2, 3, 0, 4] rfl) hw
set_option maxRecDepth 20000 in
theorem t_wn_X3_singersIn_6_0 {p : Program} {l : Launch} {e : Env} {s : State} {m : MethodId} {args : Array Value} {below : List Frame} {meth : Method} {c : Code} {E : zE} {qn ql qv : Nat} {f_minute : Int32} {f_avalanches : Int32} {f_begun : Int32} {f_climbed : Int32} {f_seed : Int32} {a_huts : Nat → Int32} {a_known : Nat → Int32} {a_levels : Nat → Int32} {a_snow : Nat → Int32} {a_open : Nat → Int32} {lf_huts : Int32} {lf_singers : Int32} {lf_villages : Int32} {lf_dams : Int32} {lf_echoes : Int32} {lf_deep : Int32} {lf_slide : Int32} {la_heights : Nat → Int32} {la_ladders : Nat → Int32} {la_minutes : Nat → Int32} {la_echoFrom : Nat → Int32} {la_echoTo : Nat → Int32} {la_homes : Nat → Int32} {la_talls : Nat → Int32} {la_known : Nat → Int32} {vf_deeds : Int32} {va_kinds : Nat → Int32} {va_firsts : Nat → Int32} {va_seconds : Nat → Int32} {post : Int32 → Prop} {x2 : Int32} {ls : Array Slot}
    (zc : zC p s m args meth c cX3_singersIn 5 RX3 (some .int))
    (hK : zK E s)
    (hM : wnW E qn ql qv f_minute f_avalanches f_begun f_climbed f_seed a_huts a_known a_levels a_snow a_open lf_huts lf_singers lf_villages lf_dams lf_echoes lf_deep lf_slide la_heights la_ladders la_minutes la_echoFrom la_echoTo la_homes la_talls la_known vf_deeds va_kinds va_firsts va_seconds s.heap)
    (hl : lv_has ls 5 [(0, .ref qn), (1, .ref ql), (2, .int x2)])
    (hw : q_wn_X3_singersIn_6_0 a_huts lf_singers x2 post) :
    W p l e rm_wn_X3_singersIn_6 s m args below meth c s.heap [] 0 0 (MQ below (vp_Si post) args s 0 0 (fun _ => False)) (F0 m 0 ls []) := by
  have hx := zc.1
  have hb := zc.2.1
  refine lv_iconst (v := (0 : Int32)) hx hb dX3_singersIn_0 (by decide) ?_
  refine lv_istore_n (lv' := [(3, .int (0 : Int32)), (0, .ref qn), (1, .ref ql), (2, .int x2)]) hx hb dX3_singersIn_1 rfl hl (by decide) rfl (fun ls hl => ?_)
  refine lv_iconst (v := (0 : Int32)) hx hb dX3_singersIn_2 (by decide) ?_
  refine lv_istore (lv' := [(4, .int (0 : Int32)), (3, .int (0 : Int32)), (0, .ref qn), (1, .ref ql), (2, .int x2)]) hx hb dX3_singersIn_3 hl (by decide) rfl (fun ls hl => ?_)
  exact t_wn_X3_singersIn_6_5 zc hK hM  (lv_sub hl [2, 3, 4, 1, 0] rfl) hw
set_option maxRecDepth 20000 in
theorem c_wn_X3_singersIn_6 (l : Launch) {E : zE} {qn ql qv : Nat} {f_minute : Int32} {f_avalanches : Int32} {f_begun : Int32} {f_climbed : Int32} {f_seed : Int32} {a_huts : Nat → Int32} {a_known : Nat → Int32} {a_levels : Nat → Int32} {a_snow : Nat → Int32} {a_open : Nat → Int32} {lf_huts : Int32} {lf_singers : Int32} {lf_villages : Int32} {lf_dams : Int32} {lf_echoes : Int32} {lf_deep : Int32} {lf_slide : Int32} {la_heights : Nat → Int32} {la_ladders : Nat → Int32} {la_minutes : Nat → Int32} {la_echoFrom : Nat → Int32} {la_echoTo : Nat → Int32} {la_homes : Nat → Int32} {la_talls : Nat → Int32} {la_known : Nat → Int32} {vf_deeds : Int32} {va_kinds : Nat → Int32} {va_firsts : Nat → Int32} {va_seconds : Nat → Int32} {x2 : Int32} {post : Int32 → Prop} (hw : q_wn_X3_singersIn_6_0 a_huts lf_singers x2 post) : Met l yX3_singersIn (Cond.code yX3_singersIn cX3_singersIn 5 (some .int) :: zb) rm_wn_X3_singersIn_6 (va_Pc [.ref qn, .ref ql, .int x2] (fun U => wnW E qn ql qv f_minute f_avalanches f_begun f_climbed f_seed a_huts a_known a_levels a_snow a_open lf_huts lf_singers lf_villages lf_dams lf_echoes lf_deep lf_slide la_heights la_ladders la_minutes la_echoFrom la_echoTo la_homes la_talls la_known vf_deeds va_kinds va_firsts va_seconds U.heap ∧ zK E U)) (vp_Si post) 0 0 (fun _ => False) := by
  refine Met.ofW (cc := cX3_singersIn) (maxL := 5) (ret := (some .int)) (by decide) rfl ?_
  intro p e s m args below meth c s₁ B hml hv
  obtain ⟨rfl, hM, hK⟩ := hv
  have zc := zc_of B hml
  have hl := lv_entry ([.ref qn, .ref ql, .int x2]) (n := 5) (Nat.le_of_ble_eq_true rfl)
  rw [lg_entry_eq]
  generalize (lg_sl ([.ref qn, .ref ql, .int x2]) ++ List.replicate (5 - (lg_sl ([.ref qn, .ref ql, .int x2])).length) Slot.unset).toArray = ls at hl ⊢
  have hl : lv_has ls 5 [(0, .ref qn), (1, .ref ql), (2, .int x2)] := hl
  exact t_wn_X3_singersIn_6_0 zc hK hM (lv_sub hl [0, 1, 2] rfl) hw
-- wn_X3_raise_6
abbrev rm_wn_X3_raise_6 : Room := { frames := 2, cells := 0, slots := 0, locals := 45 }
def q_wn_X3_raise_6_183 (P150 : Int32 → (Nat → Int32) → Prop) (f_avalanches : Int32) (f_begun : Int32) (f_climbed : Int32) (a_huts : Nat → Int32) (a_known : Nat → Int32) (a_levels : Nat → Int32) (a_snow : Nat → Int32) (lf_singers : Int32) (lf_dams : Int32) (lf_echoes : Int32) (la_heights : Nat → Int32) (la_ladders : Nat → Int32) (la_echoFrom : Nat → Int32) (la_echoTo : Nat → Int32) (la_talls : Nat → Int32) (x4 : Int32) (x7 : Int32) (x8 : Int32) (post : Int32 → (Int32) → (Int32) → (Nat → Int32) → (Nat → Int32) → (Nat → Int32) → Prop) : Prop :=
  ∀ v_1 : Int32, v_1 = x8 + (1 : Int32) → (P150 v_1 a_known)
def q_wn_X3_raise_6_150 (f_avalanches : Int32) (f_begun : Int32) (f_climbed : Int32) (a_huts : Nat → Int32) (a_known : Nat → Int32) (a_levels : Nat → Int32) (a_snow : Nat → Int32) (lf_singers : Int32) (lf_dams : Int32) (lf_echoes : Int32) (la_heights : Nat → Int32) (la_ladders : Nat → Int32) (la_echoFrom : Nat → Int32) (la_echoTo : Nat → Int32) (la_talls : Nat → Int32) (x4 : Int32) (x7 : Int32) (x8 : Int32) (post : Int32 → (Int32) → (Int32) → (Nat → Int32) → (Nat → Int32) → (Nat → Int32) → Prop) : Prop :=
  ∀ P150 : Int32 → (Nat → Int32) → Prop, (∀ (x8 : Int32) (a_known : Nat → Int32), ((lf_singers ≤ x8 → (post (1 : Int32) f_avalanches f_begun a_known a_levels a_snow)) ∧ (¬ lf_singers ≤ x8 → (q_z_X10_has_0 x7 x8 (fun r_1 => (r_1 = 0 → (q_wn_X3_raise_6_183 P150 f_avalanches f_begun f_climbed a_huts a_known a_levels a_snow lf_singers lf_dams lf_echoes la_heights la_ladders la_echoFrom la_echoTo la_talls x4 x7 x8 post)) ∧ (¬ r_1 = 0 → (vp_in x8 6 ∧ (∀ v_1 : Int32, v_1 = ((a_known (Int32.toNatClampNeg x8)) ||| ((1 : Int32) <<< (x4 &&& 31))) → (vp_in x8 6 ∧ (∀ a_known_1 : Nat → Int32, a_known_1 = upd a_known (Int32.toNatClampNeg x8) v_1 → (q_wn_X3_raise_6_183 P150 f_avalanches f_begun f_climbed a_huts a_known_1 a_levels a_snow lf_singers lf_dams lf_echoes la_heights la_ladders la_echoFrom la_echoTo la_talls x4 x7 x8 post)))))))))) → P150 x8 a_known) → P150 x8 a_known
def q_wn_X3_raise_6_112 (f_avalanches : Int32) (f_begun : Int32) (f_climbed : Int32) (a_huts : Nat → Int32) (a_known : Nat → Int32) (a_levels : Nat → Int32) (a_snow : Nat → Int32) (lf_singers : Int32) (lf_dams : Int32) (lf_echoes : Int32) (la_heights : Nat → Int32) (la_ladders : Nat → Int32) (la_echoFrom : Nat → Int32) (la_echoTo : Nat → Int32) (la_talls : Nat → Int32) (x4 : Int32) (x5 : Int32) (x6 : Int32) (post : Int32 → (Int32) → (Int32) → (Nat → Int32) → (Nat → Int32) → (Nat → Int32) → Prop) : Prop :=
  ∀ v_1 : Int32, v_1 = (f_begun ||| ((1 : Int32) <<< (x4 &&& 31))) → (vp_in x4 5 ∧ (∀ a_levels_1 : Nat → Int32, a_levels_1 = upd a_levels (Int32.toNatClampNeg x4) x6 → (q_wl_X2_earshot_0 lf_dams lf_echoes la_echoFrom la_echoTo x5 (fun r_1 => q_wn_X3_singersIn_6_0 a_huts lf_singers r_1 (fun r_2 => q_wn_X3_raise_6_150 f_avalanches v_1 f_climbed a_huts a_known a_levels_1 a_snow lf_singers lf_dams lf_echoes la_heights la_ladders la_echoFrom la_echoTo la_talls x4 r_2 (0 : Int32) post)))))
def q_wn_X3_raise_6_62 (f_avalanches : Int32) (f_begun : Int32) (f_climbed : Int32) (a_huts : Nat → Int32) (a_known : Nat → Int32) (a_levels : Nat → Int32) (a_snow : Nat → Int32) (lf_singers : Int32) (lf_dams : Int32) (lf_echoes : Int32) (la_heights : Nat → Int32) (la_ladders : Nat → Int32) (la_echoFrom : Nat → Int32) (la_echoTo : Nat → Int32) (la_talls : Nat → Int32) (x2 : Int32) (x3 : Int32) (x4 : Int32) (x5 : Int32) (y0 : Int32) (y1 : Int32) (post : Int32 → (Int32) → (Int32) → (Nat → Int32) → (Nat → Int32) → (Nat → Int32) → Prop) : Prop :=
  (¬ y0 = y1 → (q_wn_X3_high_6_0 f_climbed a_huts la_heights la_ladders la_talls x3 (fun r_1 => vp_in x4 5 ∧ (q_z_X3_isWrong_0 x2 r_1 (a_levels (Int32.toNatClampNeg x4)) (fun r_2 => (r_2 = 0 → (q_wn_X3_raise_6_112 f_avalanches f_begun f_climbed a_huts a_known a_levels a_snow lf_singers lf_dams lf_echoes la_heights la_ladders la_echoFrom la_echoTo la_talls x4 x5 r_1 post)) ∧ (¬ r_2 = 0 → (∀ v_1 : Int32, v_1 = (f_avalanches + (1 : Int32)) → (vp_in x5 9 ∧ (∀ v_2 : Int32, v_2 = ((a_snow (Int32.toNatClampNeg x5)) + (1 : Int32)) → (vp_in x5 9 ∧ (∀ a_snow_1 : Nat → Int32, a_snow_1 = upd a_snow (Int32.toNatClampNeg x5) v_2 → (q_wn_X3_raise_6_112 v_1 f_begun f_climbed a_huts a_known a_levels a_snow_1 lf_singers lf_dams lf_echoes la_heights la_ladders la_echoFrom la_echoTo la_talls x4 x5 r_1 post)))))))))))) ∧ (y0 = y1 → (post (0 : Int32) f_avalanches f_begun a_known a_levels a_snow))
def q_wn_X3_raise_6_0 (f_avalanches : Int32) (f_begun : Int32) (f_climbed : Int32) (a_huts : Nat → Int32) (a_known : Nat → Int32) (a_levels : Nat → Int32) (a_snow : Nat → Int32) (lf_singers : Int32) (lf_dams : Int32) (lf_echoes : Int32) (la_heights : Nat → Int32) (la_ladders : Nat → Int32) (la_echoFrom : Nat → Int32) (la_echoTo : Nat → Int32) (la_talls : Nat → Int32) (x2 : Int32) (x3 : Int32) (x4 : Int32) (post : Int32 → (Int32) → (Int32) → (Nat → Int32) → (Nat → Int32) → (Nat → Int32) → Prop) : Prop :=
  vp_in x3 6 ∧ (∀ v_1 : Int32, v_1 = (a_huts (Int32.toNatClampNeg x3)) → ((x4 < 0 → (post (0 : Int32) f_avalanches f_begun a_known a_levels a_snow)) ∧ (¬ x4 < 0 → (((5 : Int32) ≤ x4 → (post (0 : Int32) f_avalanches f_begun a_known a_levels a_snow)) ∧ (¬ (5 : Int32) ≤ x4 → (vp_in x3 6 ∧ (q_z_X10_has_0 (a_known (Int32.toNatClampNeg x3)) x4 (fun r_1 => (r_1 = 0 → (post (0 : Int32) f_avalanches f_begun a_known a_levels a_snow)) ∧ (¬ r_1 = 0 → (q_wl_X2_isDam_0 lf_dams v_1 (fun r_2 => (r_2 = 0 → (q_z_X10_has_0 f_begun x4 (fun r_3 => (¬ x2 = 0 → (q_wn_X3_raise_6_62 f_avalanches f_begun f_climbed a_huts a_known a_levels a_snow lf_singers lf_dams lf_echoes la_heights la_ladders la_echoFrom la_echoTo la_talls x2 x3 x4 v_1 r_3 (0 : Int32) post)) ∧ (x2 = 0 → (q_wn_X3_raise_6_62 f_avalanches f_begun f_climbed a_huts a_known a_levels a_snow lf_singers lf_dams lf_echoes la_heights la_ladders la_echoFrom la_echoTo la_talls x2 x3 x4 v_1 r_3 (1 : Int32) post))))) ∧ (¬ r_2 = 0 → (post (0 : Int32) f_avalanches f_begun a_known a_levels a_snow)))))))))))))
set_option maxRecDepth 20000 in
theorem t_wn_X3_raise_6_183 {p : Program} {l : Launch} {e : Env} {s : State} {m : MethodId} {args : Array Value} {below : List Frame} {meth : Method} {c : Code} {E : zE} {qn ql qv : Nat} {f_minute : Int32} {f_avalanches : Int32} {f_begun : Int32} {f_climbed : Int32} {f_seed : Int32} {a_huts : Nat → Int32} {a_known : Nat → Int32} {a_levels : Nat → Int32} {a_snow : Nat → Int32} {a_open : Nat → Int32} {lf_huts : Int32} {lf_singers : Int32} {lf_villages : Int32} {lf_dams : Int32} {lf_echoes : Int32} {lf_deep : Int32} {lf_slide : Int32} {la_heights : Nat → Int32} {la_ladders : Nat → Int32} {la_minutes : Nat → Int32} {la_echoFrom : Nat → Int32} {la_echoTo : Nat → Int32} {la_homes : Nat → Int32} {la_talls : Nat → Int32} {la_known : Nat → Int32} {vf_deeds : Int32} {va_kinds : Nat → Int32} {va_firsts : Nat → Int32} {va_seconds : Nat → Int32} {P150 : Int32 → (Nat → Int32) → Prop} {post : Int32 → (Int32) → (Int32) → (Nat → Int32) → (Nat → Int32) → (Nat → Int32) → Prop} {x4 : Int32} {x7 : Int32} {x8 : Int32} {ls : Array Slot} {H : Heap} {locs : List Loc}
    (zc : zC p s m args meth c cX3_raise 9 RX3 (some .boolean))
    (hK : zK E s)
    (hM : wnW E qn ql qv f_minute f_avalanches f_begun f_climbed f_seed a_huts a_known a_levels a_snow a_open lf_huts lf_singers lf_villages lf_dams lf_echoes lf_deep lf_slide la_heights la_ladders la_minutes la_echoFrom la_echoTo la_homes la_talls la_known vf_deeds va_kinds va_firsts va_seconds H)
    (hS : va_S (wnA qn ql qv) s.heap H locs)
    (hP150 : ∀ (x8 : Int32) (a_known : Nat → Int32) (H : Heap) (locs : List Loc) (ls : Array Slot), P150 x8 a_known → lv_has ls 9 [(0, .ref qn), (1, .ref ql), (4, .int x4), (7, .int x7), (8, .int x8)] → wnW E qn ql qv f_minute f_avalanches f_begun f_climbed f_seed a_huts a_known a_levels a_snow a_open lf_huts lf_singers lf_villages lf_dams lf_echoes lf_deep lf_slide la_heights la_ladders la_minutes la_echoFrom la_echoTo la_homes la_talls la_known vf_deeds va_kinds va_firsts va_seconds H → va_S (wnA qn ql qv) s.heap H locs → W p l e rm_wn_X3_raise_6 s m args below meth c H locs 0 0 (MQ below (zQi (S := (Int32) × (Int32) × (Nat → Int32) × (Nat → Int32) × (Nat → Int32)) (fun r u => post r u.1 u.2.1 u.2.2.1 u.2.2.2.1 u.2.2.2.2) (fun u H => wnW E qn ql qv f_minute u.1 u.2.1 f_climbed f_seed a_huts u.2.2.1 u.2.2.2.1 u.2.2.2.2 a_open lf_huts lf_singers lf_villages lf_dams lf_echoes lf_deep lf_slide la_heights la_ladders la_minutes la_echoFrom la_echoTo la_homes la_talls la_known vf_deeds va_kinds va_firsts va_seconds H) (wnA qn ql qv)) args s 0 0 (wnA qn ql qv)) (F0 m 150 ls []))
    (hl : lv_has ls 9 [(0, .ref qn), (1, .ref ql), (4, .int x4), (7, .int x7), (8, .int x8)])
    (hw : q_wn_X3_raise_6_183 P150 f_avalanches f_begun f_climbed a_huts a_known a_levels a_snow lf_singers lf_dams lf_echoes la_heights la_ladders la_echoFrom la_echoTo la_talls x4 x7 x8 post) :
    W p l e rm_wn_X3_raise_6 s m args below meth c H locs 0 0 (MQ below (zQi (S := (Int32) × (Int32) × (Nat → Int32) × (Nat → Int32) × (Nat → Int32)) (fun r u => post r u.1 u.2.1 u.2.2.1 u.2.2.2.1 u.2.2.2.2) (fun u H => wnW E qn ql qv f_minute u.1 u.2.1 f_climbed f_seed a_huts u.2.2.1 u.2.2.2.1 u.2.2.2.2 a_open lf_huts lf_singers lf_villages lf_dams lf_echoes lf_deep lf_slide la_heights la_ladders la_minutes la_echoFrom la_echoTo la_homes la_talls la_known vf_deeds va_kinds va_firsts va_seconds H) (wnA qn ql qv)) args s 0 0 (wnA qn ql qv)) (F0 m 183 ls []) := by
  have hx := zc.1
  have hb := zc.2.1
  obtain ⟨v_1, ev_1⟩ : ∃ y : Int32, y = x8 + (1 : Int32) := ⟨_, rfl⟩
  have hw := hw v_1 ev_1
  refine lv_iinc (v := v_1) (k := 4) (lv' := [(8, .int v_1), (0, .ref qn), (1, .ref ql), (4, .int x4), (7, .int x7)]) hx hb dX3_raise_183 hl rfl (by rw [ev_1]; rfl) (by decide) rfl (fun ls hl => ?_)
  refine lv_goto (tgt := 150) hx hb dX3_raise_186 (by decide) ?_
  exact hP150 _ _ _ _ _ hw (lv_sub hl [1, 2, 3, 4, 0] rfl) hM hS
set_option maxRecDepth 20000 in
theorem t_wn_X3_raise_6_150 {p : Program} {l : Launch} {e : Env} {s : State} {m : MethodId} {args : Array Value} {below : List Frame} {meth : Method} {c : Code} {E : zE} {qn ql qv : Nat} {f_minute : Int32} {f_avalanches : Int32} {f_begun : Int32} {f_climbed : Int32} {f_seed : Int32} {a_huts : Nat → Int32} {a_known : Nat → Int32} {a_levels : Nat → Int32} {a_snow : Nat → Int32} {a_open : Nat → Int32} {lf_huts : Int32} {lf_singers : Int32} {lf_villages : Int32} {lf_dams : Int32} {lf_echoes : Int32} {lf_deep : Int32} {lf_slide : Int32} {la_heights : Nat → Int32} {la_ladders : Nat → Int32} {la_minutes : Nat → Int32} {la_echoFrom : Nat → Int32} {la_echoTo : Nat → Int32} {la_homes : Nat → Int32} {la_talls : Nat → Int32} {la_known : Nat → Int32} {vf_deeds : Int32} {va_kinds : Nat → Int32} {va_firsts : Nat → Int32} {va_seconds : Nat → Int32} {post : Int32 → (Int32) → (Int32) → (Nat → Int32) → (Nat → Int32) → (Nat → Int32) → Prop} {x4 : Int32} {x7 : Int32} {x8 : Int32} {ls : Array Slot} {H : Heap} {locs : List Loc}
    (zc : zC p s m args meth c cX3_raise 9 RX3 (some .boolean))
    (hK : zK E s)
    (hM : wnW E qn ql qv f_minute f_avalanches f_begun f_climbed f_seed a_huts a_known a_levels a_snow a_open lf_huts lf_singers lf_villages lf_dams lf_echoes lf_deep lf_slide la_heights la_ladders la_minutes la_echoFrom la_echoTo la_homes la_talls la_known vf_deeds va_kinds va_firsts va_seconds H)
    (hS : va_S (wnA qn ql qv) s.heap H locs)
    (hl : lv_has ls 9 [(0, .ref qn), (1, .ref ql), (4, .int x4), (7, .int x7), (8, .int x8)])
    (hw : q_wn_X3_raise_6_150 f_avalanches f_begun f_climbed a_huts a_known a_levels a_snow lf_singers lf_dams lf_echoes la_heights la_ladders la_echoFrom la_echoTo la_talls x4 x7 x8 post) :
    W p l e rm_wn_X3_raise_6 s m args below meth c H locs 0 0 (MQ below (zQi (S := (Int32) × (Int32) × (Nat → Int32) × (Nat → Int32) × (Nat → Int32)) (fun r u => post r u.1 u.2.1 u.2.2.1 u.2.2.2.1 u.2.2.2.2) (fun u H => wnW E qn ql qv f_minute u.1 u.2.1 f_climbed f_seed a_huts u.2.2.1 u.2.2.2.1 u.2.2.2.2 a_open lf_huts lf_singers lf_villages lf_dams lf_echoes lf_deep lf_slide la_heights la_ladders la_minutes la_echoFrom la_echoTo la_homes la_talls la_known vf_deeds va_kinds va_firsts va_seconds H) (wnA qn ql qv)) args s 0 0 (wnA qn ql qv)) (F0 m 150 ls []) := by
  have hx := zc.1
  have hb := zc.2.1
  refine hw (fun x8 a_known => ∀ (H : Heap) (locs : List Loc) (ls : Array Slot), lv_has ls 9 [(0, .ref qn), (1, .ref ql), (4, .int x4), (7, .int x7), (8, .int x8)] → wnW E qn ql qv f_minute f_avalanches f_begun f_climbed f_seed a_huts a_known a_levels a_snow a_open lf_huts lf_singers lf_villages lf_dams lf_echoes lf_deep lf_slide la_heights la_ladders la_minutes la_echoFrom la_echoTo la_homes la_talls la_known vf_deeds va_kinds va_firsts va_seconds H → va_S (wnA qn ql qv) s.heap H locs → W p l e rm_wn_X3_raise_6 s m args below meth c H locs 0 0 (MQ below (zQi (S := (Int32) × (Int32) × (Nat → Int32) × (Nat → Int32) × (Nat → Int32)) (fun r u => post r u.1 u.2.1 u.2.2.1 u.2.2.2.1 u.2.2.2.2) (fun u H => wnW E qn ql qv f_minute u.1 u.2.1 f_climbed f_seed a_huts u.2.2.1 u.2.2.2.1 u.2.2.2.2 a_open lf_huts lf_singers lf_villages lf_dams lf_echoes lf_deep lf_slide la_heights la_ladders la_minutes la_echoFrom la_echoTo la_homes la_talls la_known vf_deeds va_kinds va_firsts va_seconds H) (wnA qn ql qv)) args s 0 0 (wnA qn ql qv)) (F0 m 150 ls [])) ?_ _ _ _ hl hM hS
  intro x8 a_known hw H locs ls hl hM hS
  refine lv_iload hx hb dX3_raise_150 (lv_at hl 4 rfl) ?_
  refine lv_aload_n hx hb dX3_raise_152 rfl (lv_at hl 1 rfl) ?_
  refine wng_3_53_6 zc hK hM dX3_raise_153 ?_
  refine lv_icmp_ge (tgt := 189) hx hb dX3_raise_156 (by decide) (fun hc => ?_) (fun hc => ?_)
  · have hw := hw.1 hc
    refine lv_iconst (v := (1 : Int32)) hx hb dX3_raise_189 (by decide) ?_
    exact zret_zw ⟨f_avalanches, f_begun, a_known, a_levels, a_snow⟩ zc hS rfl hw hM dX3_raise_190
  · have hw := hw.2 hc
    refine lv_iload hx hb dX3_raise_159 (lv_at hl 3 rfl) ?_
    refine lv_iload hx hb dX3_raise_161 (lv_at hl 4 rfl) ?_
    refine zSN_i [.int x7, .int x8] [] zc ky_X10_has kz_X10_has (hK.2 _ kn_3_67) (c_z_X10_has l hw) (zPre0 _) rfl rfl hl.1 (Nat.le_of_ble_eq_true rfl) ⟨rfl, rfl⟩ ⟨Nat.le_of_ble_eq_true rfl, Nat.le_of_ble_eq_true rfl⟩ ⟨(Nat.zero_le _), (Nat.zero_le _)⟩ dX3_raise_163 (fun r_1 hw => ?_)
    refine lv_if_eq (tgt := 183) hx hb dX3_raise_166 (by decide) (fun hc => ?_) (fun hc => ?_)
    · have hw := hw.1 hc
      exact t_wn_X3_raise_6_183 zc hK hM hS (fun _ _ H locs ls h hl hM hS => h H locs ls hl hM hS) (lv_sub hl [0, 1, 2, 3, 4] rfl) hw
    · have hw := hw.2 hc
      refine lv_aload_n hx hb dX3_raise_169 rfl (lv_at hl 0 rfl) ?_
      refine wng_3_15_0 zc hK hM dX3_raise_170 ?_
      refine lv_iload hx hb dX3_raise_173 (lv_at hl 4 rfl) ?_
      refine lv_dup2_11 hx hb dX3_raise_175 rfl rfl ?_
      refine wnld_2 zc hK hM hw.1 dX3_raise_176 ?_
      have hw := hw.2
      refine lv_iconst (v := (1 : Int32)) hx hb dX3_raise_177 (by decide) ?_
      refine lv_iload hx hb dX3_raise_178 (lv_at hl 2 rfl) ?_
      refine lv_ishl hx hb dX3_raise_180 ?_
      refine lv_ior hx hb dX3_raise_181 ?_
      refine lv_topi (fun v_1 ev_1 => ?_)
      have hw := hw v_1 ev_1
      refine wnst_2 zc hK hM hS hw.1 dX3_raise_182 (fun a_known_1 H locs ea_known_1 hM hS => ?_)
      have hw := hw.2 a_known_1 ea_known_1
      exact t_wn_X3_raise_6_183 zc hK hM hS (fun _ _ H locs ls h hl hM hS => h H locs ls hl hM hS) (lv_sub hl [0, 1, 2, 3, 4] rfl) hw
set_option maxRecDepth 20000 in
theorem t_wn_X3_raise_6_112 {p : Program} {l : Launch} {e : Env} {s : State} {m : MethodId} {args : Array Value} {below : List Frame} {meth : Method} {c : Code} {E : zE} {qn ql qv : Nat} {f_minute : Int32} {f_avalanches : Int32} {f_begun : Int32} {f_climbed : Int32} {f_seed : Int32} {a_huts : Nat → Int32} {a_known : Nat → Int32} {a_levels : Nat → Int32} {a_snow : Nat → Int32} {a_open : Nat → Int32} {lf_huts : Int32} {lf_singers : Int32} {lf_villages : Int32} {lf_dams : Int32} {lf_echoes : Int32} {lf_deep : Int32} {lf_slide : Int32} {la_heights : Nat → Int32} {la_ladders : Nat → Int32} {la_minutes : Nat → Int32} {la_echoFrom : Nat → Int32} {la_echoTo : Nat → Int32} {la_homes : Nat → Int32} {la_talls : Nat → Int32} {la_known : Nat → Int32} {vf_deeds : Int32} {va_kinds : Nat → Int32} {va_firsts : Nat → Int32} {va_seconds : Nat → Int32} {post : Int32 → (Int32) → (Int32) → (Nat → Int32) → (Nat → Int32) → (Nat → Int32) → Prop} {x4 : Int32} {x5 : Int32} {x6 : Int32} {ls : Array Slot} {H : Heap} {locs : List Loc}
    (zc : zC p s m args meth c cX3_raise 9 RX3 (some .boolean))
    (hK : zK E s)
    (hM : wnW E qn ql qv f_minute f_avalanches f_begun f_climbed f_seed a_huts a_known a_levels a_snow a_open lf_huts lf_singers lf_villages lf_dams lf_echoes lf_deep lf_slide la_heights la_ladders la_minutes la_echoFrom la_echoTo la_homes la_talls la_known vf_deeds va_kinds va_firsts va_seconds H)
    (hS : va_S (wnA qn ql qv) s.heap H locs)
    (hl : lv_has ls 9 [(0, .ref qn), (1, .ref ql), (4, .int x4), (5, .int x5), (6, .int x6)])
    (hw : q_wn_X3_raise_6_112 f_avalanches f_begun f_climbed a_huts a_known a_levels a_snow lf_singers lf_dams lf_echoes la_heights la_ladders la_echoFrom la_echoTo la_talls x4 x5 x6 post) :
    W p l e rm_wn_X3_raise_6 s m args below meth c H locs 0 0 (MQ below (zQi (S := (Int32) × (Int32) × (Nat → Int32) × (Nat → Int32) × (Nat → Int32)) (fun r u => post r u.1 u.2.1 u.2.2.1 u.2.2.2.1 u.2.2.2.2) (fun u H => wnW E qn ql qv f_minute u.1 u.2.1 f_climbed f_seed a_huts u.2.2.1 u.2.2.2.1 u.2.2.2.2 a_open lf_huts lf_singers lf_villages lf_dams lf_echoes lf_deep lf_slide la_heights la_ladders la_minutes la_echoFrom la_echoTo la_homes la_talls la_known vf_deeds va_kinds va_firsts va_seconds H) (wnA qn ql qv)) args s 0 0 (wnA qn ql qv)) (F0 m 112 ls []) := by
  have hx := zc.1
  have hb := zc.2.1
  refine lv_aload_n hx hb dX3_raise_112 rfl (lv_at hl 0 rfl) ?_
  refine lv_dup hx hb dX3_raise_113 rfl ?_
  refine wng_3_64_0 zc hK hM dX3_raise_114 ?_
  refine lv_iconst (v := (1 : Int32)) hx hb dX3_raise_117 (by decide) ?_
  refine lv_iload hx hb dX3_raise_118 (lv_at hl 2 rfl) ?_
  refine lv_ishl hx hb dX3_raise_120 ?_
  refine lv_ior hx hb dX3_raise_121 ?_
  refine lv_topi (fun v_1 ev_1 => ?_)
  have hw := hw v_1 ev_1
  refine wnp_3_64_0 zc hK hM hS dX3_raise_122 (fun H locs hM hS => ?_)
  refine lv_aload_n hx hb dX3_raise_125 rfl (lv_at hl 0 rfl) ?_
  refine wng_3_18_0 zc hK hM dX3_raise_126 ?_
  refine lv_iload hx hb dX3_raise_129 (lv_at hl 2 rfl) ?_
  refine lv_iload hx hb dX3_raise_131 (lv_at hl 4 rfl) ?_
  refine wnst_3 zc hK hM hS hw.1 dX3_raise_133 (fun a_levels_1 H locs ea_levels_1 hM hS => ?_)
  have hw := hw.2 a_levels_1 ea_levels_1
  refine lv_aload_n hx hb dX3_raise_134 rfl (lv_at hl 0 rfl) ?_
  refine lv_aload_n hx hb dX3_raise_135 rfl (lv_at hl 1 rfl) ?_
  refine lv_aload_n hx hb dX3_raise_136 rfl (lv_at hl 1 rfl) ?_
  refine lv_iload hx hb dX3_raise_137 (lv_at hl 3 rfl) ?_
  refine zV_i [.int x5] [.ref ql, .ref qn] zc ky_X2_earshot kz_X2_earshot km_3_138 (c_wl_X2_earshot l hw) (wlPreV0 hK (pj_wn_wl_6 hM)) rfl rfl hl.1 (Nat.le_of_ble_eq_true rfl) ⟨rfl, rfl⟩ ⟨Nat.le_of_ble_eq_true rfl, Nat.le_of_ble_eq_true rfl⟩ ⟨(Nat.zero_le _), (Nat.zero_le _)⟩ dX3_raise_139 (fun r_1 hw => ?_)
  refine zV_i [.ref ql, .int r_1] [] zc ky_X3_singersIn kz_X3_singersIn km_3_141 (c_wn_X3_singersIn_6 l hw) (wnPreV0 hK hM) rfl rfl hl.1 (Nat.le_of_ble_eq_true rfl) ⟨rfl, rfl⟩ ⟨Nat.le_of_ble_eq_true rfl, Nat.le_of_ble_eq_true rfl⟩ ⟨(Nat.zero_le _), (Nat.zero_le _)⟩ dX3_raise_142 (fun r_2 hw => ?_)
  refine lv_istore (lv' := [(7, .int r_2), (0, .ref qn), (1, .ref ql), (4, .int x4), (5, .int x5), (6, .int x6)]) hx hb dX3_raise_145 hl (by decide) rfl (fun ls hl => ?_)
  refine lv_iconst (v := (0 : Int32)) hx hb dX3_raise_147 (by decide) ?_
  refine lv_istore (lv' := [(8, .int (0 : Int32)), (7, .int r_2), (0, .ref qn), (1, .ref ql), (4, .int x4), (5, .int x5), (6, .int x6)]) hx hb dX3_raise_148 hl (by decide) rfl (fun ls hl => ?_)
  exact t_wn_X3_raise_6_150 zc hK hM hS  (lv_sub hl [2, 3, 4, 1, 0] rfl) hw
set_option maxRecDepth 20000 in
theorem t_wn_X3_raise_6_62 {p : Program} {l : Launch} {e : Env} {s : State} {m : MethodId} {args : Array Value} {below : List Frame} {meth : Method} {c : Code} {E : zE} {qn ql qv : Nat} {f_minute : Int32} {f_avalanches : Int32} {f_begun : Int32} {f_climbed : Int32} {f_seed : Int32} {a_huts : Nat → Int32} {a_known : Nat → Int32} {a_levels : Nat → Int32} {a_snow : Nat → Int32} {a_open : Nat → Int32} {lf_huts : Int32} {lf_singers : Int32} {lf_villages : Int32} {lf_dams : Int32} {lf_echoes : Int32} {lf_deep : Int32} {lf_slide : Int32} {la_heights : Nat → Int32} {la_ladders : Nat → Int32} {la_minutes : Nat → Int32} {la_echoFrom : Nat → Int32} {la_echoTo : Nat → Int32} {la_homes : Nat → Int32} {la_talls : Nat → Int32} {la_known : Nat → Int32} {vf_deeds : Int32} {va_kinds : Nat → Int32} {va_firsts : Nat → Int32} {va_seconds : Nat → Int32} {post : Int32 → (Int32) → (Int32) → (Nat → Int32) → (Nat → Int32) → (Nat → Int32) → Prop} {x2 : Int32} {x3 : Int32} {x4 : Int32} {x5 : Int32} {y0 : Int32} {y1 : Int32} {ls : Array Slot} {H : Heap} {locs : List Loc}
    (zc : zC p s m args meth c cX3_raise 9 RX3 (some .boolean))
    (hK : zK E s)
    (hM : wnW E qn ql qv f_minute f_avalanches f_begun f_climbed f_seed a_huts a_known a_levels a_snow a_open lf_huts lf_singers lf_villages lf_dams lf_echoes lf_deep lf_slide la_heights la_ladders la_minutes la_echoFrom la_echoTo la_homes la_talls la_known vf_deeds va_kinds va_firsts va_seconds H)
    (hS : va_S (wnA qn ql qv) s.heap H locs)
    (hl : lv_has ls 9 [(0, .ref qn), (1, .ref ql), (2, .int x2), (3, .int x3), (4, .int x4), (5, .int x5)])
    (hw : q_wn_X3_raise_6_62 f_avalanches f_begun f_climbed a_huts a_known a_levels a_snow lf_singers lf_dams lf_echoes la_heights la_ladders la_echoFrom la_echoTo la_talls x2 x3 x4 x5 y0 y1 post) :
    W p l e rm_wn_X3_raise_6 s m args below meth c H locs 0 0 (MQ below (zQi (S := (Int32) × (Int32) × (Nat → Int32) × (Nat → Int32) × (Nat → Int32)) (fun r u => post r u.1 u.2.1 u.2.2.1 u.2.2.2.1 u.2.2.2.2) (fun u H => wnW E qn ql qv f_minute u.1 u.2.1 f_climbed f_seed a_huts u.2.2.1 u.2.2.2.1 u.2.2.2.2 a_open lf_huts lf_singers lf_villages lf_dams lf_echoes lf_deep lf_slide la_heights la_ladders la_minutes la_echoFrom la_echoTo la_homes la_talls la_known vf_deeds va_kinds va_firsts va_seconds H) (wnA qn ql qv)) args s 0 0 (wnA qn ql qv)) (F0 m 62 ls [.int y1, .int y0]) := by
  have hx := zc.1
  have hb := zc.2.1
  refine lv_icmp_ne (tgt := 67) hx hb dX3_raise_62 (by decide) (fun hc => ?_) (fun hc => ?_)
  · have hw := hw.1 hc
    refine lv_aload_n hx hb dX3_raise_67 rfl (lv_at hl 0 rfl) ?_
    refine lv_aload_n hx hb dX3_raise_68 rfl (lv_at hl 1 rfl) ?_
    refine lv_iload_n hx hb dX3_raise_69 rfl (lv_at hl 3 rfl) ?_
    refine zV_i [.ref ql, .int x3] [] zc ky_X3_high kz_X3_high km_3_130 (c_wn_X3_high_6 l hw) (wnPreV0 hK hM) rfl rfl hl.1 (Nat.le_of_ble_eq_true rfl) ⟨rfl, rfl⟩ ⟨Nat.le_of_ble_eq_true rfl, Nat.le_of_ble_eq_true rfl⟩ ⟨(Nat.zero_le _), (Nat.zero_le _)⟩ dX3_raise_70 (fun r_1 hw => ?_)
    refine lv_istore (lv' := [(6, .int r_1), (0, .ref qn), (1, .ref ql), (2, .int x2), (3, .int x3), (4, .int x4), (5, .int x5)]) hx hb dX3_raise_73 hl (by decide) rfl (fun ls hl => ?_)
    refine lv_iload_n hx hb dX3_raise_75 rfl (lv_at hl 3 rfl) ?_
    refine lv_iload hx hb dX3_raise_76 (lv_at hl 0 rfl) ?_
    refine lv_aload_n hx hb dX3_raise_78 rfl (lv_at hl 1 rfl) ?_
    refine wng_3_18_0 zc hK hM dX3_raise_79 ?_
    refine lv_iload hx hb dX3_raise_82 (lv_at hl 5 rfl) ?_
    refine wnld_3 zc hK hM hw.1 dX3_raise_84 ?_
    have hw := hw.2
    refine zS_i [.int x2, .int r_1, .int (a_levels (Int32.toNatClampNeg x4))] [] zc ky_X3_isWrong kz_X3_isWrong km_3_134 (c_z_X3_isWrong l hw) (zPre0 _) rfl rfl hl.1 (Nat.le_of_ble_eq_true rfl) ⟨rfl, rfl⟩ ⟨Nat.le_of_ble_eq_true rfl, Nat.le_of_ble_eq_true rfl⟩ ⟨(Nat.zero_le _), (Nat.zero_le _)⟩ dX3_raise_85 (fun r_2 hw => ?_)
    refine lv_if_eq (tgt := 112) hx hb dX3_raise_88 (by decide) (fun hc => ?_) (fun hc => ?_)
    · have hw := hw.1 hc
      exact t_wn_X3_raise_6_112 zc hK hM hS  (lv_sub hl [1, 2, 5, 6, 0] rfl) hw
    · have hw := hw.2 hc
      refine lv_aload_n hx hb dX3_raise_91 rfl (lv_at hl 1 rfl) ?_
      refine lv_dup hx hb dX3_raise_92 rfl ?_
      refine wng_3_75_0 zc hK hM dX3_raise_93 ?_
      refine lv_iconst (v := (1 : Int32)) hx hb dX3_raise_96 (by decide) ?_
      refine lv_iadd hx hb dX3_raise_97 ?_
      refine lv_topi (fun v_1 ev_1 => ?_)
      have hw := hw v_1 ev_1
      refine wnp_3_75_0 zc hK hM hS dX3_raise_98 (fun H locs hM hS => ?_)
      refine lv_aload_n hx hb dX3_raise_101 rfl (lv_at hl 1 rfl) ?_
      refine wng_3_21_0 zc hK hM dX3_raise_102 ?_
      refine lv_iload hx hb dX3_raise_105 (lv_at hl 6 rfl) ?_
      refine lv_dup2_11 hx hb dX3_raise_107 rfl rfl ?_
      refine wnld_4 zc hK hM hw.1 dX3_raise_108 ?_
      have hw := hw.2
      refine lv_iconst (v := (1 : Int32)) hx hb dX3_raise_109 (by decide) ?_
      refine lv_iadd hx hb dX3_raise_110 ?_
      refine lv_topi (fun v_2 ev_2 => ?_)
      have hw := hw v_2 ev_2
      refine wnst_4 zc hK hM hS hw.1 dX3_raise_111 (fun a_snow_1 H locs ea_snow_1 hM hS => ?_)
      have hw := hw.2 a_snow_1 ea_snow_1
      exact t_wn_X3_raise_6_112 zc hK hM hS  (lv_sub hl [1, 2, 5, 6, 0] rfl) hw
  · have hw := hw.2 hc
    refine lv_iconst (v := (0 : Int32)) hx hb dX3_raise_65 (by decide) ?_
    exact zret_zw ⟨f_avalanches, f_begun, a_known, a_levels, a_snow⟩ zc hS rfl hw hM dX3_raise_66
set_option maxRecDepth 20000 in
theorem t_wn_X3_raise_6_0 {p : Program} {l : Launch} {e : Env} {s : State} {m : MethodId} {args : Array Value} {below : List Frame} {meth : Method} {c : Code} {E : zE} {qn ql qv : Nat} {f_minute : Int32} {f_avalanches : Int32} {f_begun : Int32} {f_climbed : Int32} {f_seed : Int32} {a_huts : Nat → Int32} {a_known : Nat → Int32} {a_levels : Nat → Int32} {a_snow : Nat → Int32} {a_open : Nat → Int32} {lf_huts : Int32} {lf_singers : Int32} {lf_villages : Int32} {lf_dams : Int32} {lf_echoes : Int32} {lf_deep : Int32} {lf_slide : Int32} {la_heights : Nat → Int32} {la_ladders : Nat → Int32} {la_minutes : Nat → Int32} {la_echoFrom : Nat → Int32} {la_echoTo : Nat → Int32} {la_homes : Nat → Int32} {la_talls : Nat → Int32} {la_known : Nat → Int32} {vf_deeds : Int32} {va_kinds : Nat → Int32} {va_firsts : Nat → Int32} {va_seconds : Nat → Int32} {post : Int32 → (Int32) → (Int32) → (Nat → Int32) → (Nat → Int32) → (Nat → Int32) → Prop} {x2 : Int32} {x3 : Int32} {x4 : Int32} {ls : Array Slot} {H : Heap} {locs : List Loc}
    (zc : zC p s m args meth c cX3_raise 9 RX3 (some .boolean))
    (hK : zK E s)
    (hM : wnW E qn ql qv f_minute f_avalanches f_begun f_climbed f_seed a_huts a_known a_levels a_snow a_open lf_huts lf_singers lf_villages lf_dams lf_echoes lf_deep lf_slide la_heights la_ladders la_minutes la_echoFrom la_echoTo la_homes la_talls la_known vf_deeds va_kinds va_firsts va_seconds H)
    (hS : va_S (wnA qn ql qv) s.heap H locs)
    (hl : lv_has ls 9 [(0, .ref qn), (1, .ref ql), (2, .int x2), (3, .int x3), (4, .int x4)])
    (hw : q_wn_X3_raise_6_0 f_avalanches f_begun f_climbed a_huts a_known a_levels a_snow lf_singers lf_dams lf_echoes la_heights la_ladders la_echoFrom la_echoTo la_talls x2 x3 x4 post) :
    W p l e rm_wn_X3_raise_6 s m args below meth c H locs 0 0 (MQ below (zQi (S := (Int32) × (Int32) × (Nat → Int32) × (Nat → Int32) × (Nat → Int32)) (fun r u => post r u.1 u.2.1 u.2.2.1 u.2.2.2.1 u.2.2.2.2) (fun u H => wnW E qn ql qv f_minute u.1 u.2.1 f_climbed f_seed a_huts u.2.2.1 u.2.2.2.1 u.2.2.2.2 a_open lf_huts lf_singers lf_villages lf_dams lf_echoes lf_deep lf_slide la_heights la_ladders la_minutes la_echoFrom la_echoTo la_homes la_talls la_known vf_deeds va_kinds va_firsts va_seconds H) (wnA qn ql qv)) args s 0 0 (wnA qn ql qv)) (F0 m 0 ls []) := by
  have hx := zc.1
  have hb := zc.2.1
  refine lv_aload_n hx hb dX3_raise_0 rfl (lv_at hl 0 rfl) ?_
  refine wng_3_9_0 zc hK hM dX3_raise_1 ?_
  refine lv_iload_n hx hb dX3_raise_4 rfl (lv_at hl 3 rfl) ?_
  refine wnld_1 zc hK hM hw.1 dX3_raise_5 ?_
  have hw := hw.2
  refine lv_topi (fun v_1 ev_1 => ?_)
  have hw := hw v_1 ev_1
  refine lv_istore (lv' := [(5, .int v_1), (0, .ref qn), (1, .ref ql), (2, .int x2), (3, .int x3), (4, .int x4)]) hx hb dX3_raise_6 hl (by decide) rfl (fun ls hl => ?_)
  refine lv_iload hx hb dX3_raise_8 (lv_at hl 5 rfl) ?_
  refine lv_if_lt (tgt := 42) hx hb dX3_raise_10 (by decide) (fun hc => ?_) (fun hc => ?_)
  · have hw := hw.1 hc
    refine lv_iconst (v := (0 : Int32)) hx hb dX3_raise_42 (by decide) ?_
    exact zret_zw ⟨f_avalanches, f_begun, a_known, a_levels, a_snow⟩ zc hS rfl hw hM dX3_raise_43
  · have hw := hw.2 hc
    refine lv_iload hx hb dX3_raise_13 (lv_at hl 5 rfl) ?_
    refine lv_iconst (v := (5 : Int32)) hx hb dX3_raise_15 (by decide) ?_
    refine lv_icmp_ge (tgt := 42) hx hb dX3_raise_16 (by decide) (fun hc => ?_) (fun hc => ?_)
    · have hw := hw.1 hc
      refine lv_iconst (v := (0 : Int32)) hx hb dX3_raise_42 (by decide) ?_
      exact zret_zw ⟨f_avalanches, f_begun, a_known, a_levels, a_snow⟩ zc hS rfl hw hM dX3_raise_43
    · have hw := hw.2 hc
      refine lv_aload_n hx hb dX3_raise_19 rfl (lv_at hl 1 rfl) ?_
      refine wng_3_15_0 zc hK hM dX3_raise_20 ?_
      refine lv_iload_n hx hb dX3_raise_23 rfl (lv_at hl 4 rfl) ?_
      refine wnld_2 zc hK hM hw.1 dX3_raise_24 ?_
      have hw := hw.2
      refine lv_iload hx hb dX3_raise_25 (lv_at hl 5 rfl) ?_
      refine zSN_i [.int (a_known (Int32.toNatClampNeg x3)), .int x4] [] zc ky_X10_has kz_X10_has (hK.2 _ kn_3_67) (c_z_X10_has l hw) (zPre0 _) rfl rfl hl.1 (Nat.le_of_ble_eq_true rfl) ⟨rfl, rfl⟩ ⟨Nat.le_of_ble_eq_true rfl, Nat.le_of_ble_eq_true rfl⟩ ⟨(Nat.zero_le _), (Nat.zero_le _)⟩ dX3_raise_27 (fun r_1 hw => ?_)
      refine lv_if_eq (tgt := 42) hx hb dX3_raise_30 (by decide) (fun hc => ?_) (fun hc => ?_)
      · have hw := hw.1 hc
        refine lv_iconst (v := (0 : Int32)) hx hb dX3_raise_42 (by decide) ?_
        exact zret_zw ⟨f_avalanches, f_begun, a_known, a_levels, a_snow⟩ zc hS rfl hw hM dX3_raise_43
      · have hw := hw.2 hc
        refine lv_aload_n hx hb dX3_raise_33 rfl (lv_at hl 2 rfl) ?_
        refine lv_iload hx hb dX3_raise_34 (lv_at hl 0 rfl) ?_
        refine zV_i [.int v_1] [] zc ky_X2_isDam kz_X2_isDam km_3_127 (c_wl_X2_isDam l hw) (wlPreV0 hK (pj_wn_wl_6 hM)) rfl rfl hl.1 (Nat.le_of_ble_eq_true rfl) ⟨rfl, rfl⟩ ⟨Nat.le_of_ble_eq_true rfl, Nat.le_of_ble_eq_true rfl⟩ ⟨(Nat.zero_le _), (Nat.zero_le _)⟩ dX3_raise_36 (fun r_2 hw => ?_)
        refine lv_if_eq (tgt := 44) hx hb dX3_raise_39 (by decide) (fun hc => ?_) (fun hc => ?_)
        · have hw := hw.1 hc
          refine lv_aload_n hx hb dX3_raise_44 rfl (lv_at hl 1 rfl) ?_
          refine wng_3_64_0 zc hK hM dX3_raise_45 ?_
          refine lv_iload hx hb dX3_raise_48 (lv_at hl 5 rfl) ?_
          refine zSN_i [.int f_begun, .int x4] [] zc ky_X10_has kz_X10_has (hK.2 _ kn_3_67) (c_z_X10_has l hw) (zPre0 _) rfl rfl hl.1 (Nat.le_of_ble_eq_true rfl) ⟨rfl, rfl⟩ ⟨Nat.le_of_ble_eq_true rfl, Nat.le_of_ble_eq_true rfl⟩ ⟨(Nat.zero_le _), (Nat.zero_le _)⟩ dX3_raise_50 (fun r_3 hw => ?_)
          refine lv_iload_n hx hb dX3_raise_53 rfl (lv_at hl 3 rfl) ?_
          refine lv_if_ne (tgt := 61) hx hb dX3_raise_54 (by decide) (fun hc => ?_) (fun hc => ?_)
          · have hw := hw.1 hc
            refine lv_iconst (v := (0 : Int32)) hx hb dX3_raise_61 (by decide) ?_
            exact t_wn_X3_raise_6_62 zc hK hM hS  (lv_sub hl [1, 2, 3, 4, 5, 0] rfl) hw
          · have hw := hw.2 hc
            refine lv_iconst (v := (1 : Int32)) hx hb dX3_raise_57 (by decide) ?_
            refine lv_goto (tgt := 62) hx hb dX3_raise_58 (by decide) ?_
            exact t_wn_X3_raise_6_62 zc hK hM hS  (lv_sub hl [1, 2, 3, 4, 5, 0] rfl) hw
        · have hw := hw.2 hc
          refine lv_iconst (v := (0 : Int32)) hx hb dX3_raise_42 (by decide) ?_
          exact zret_zw ⟨f_avalanches, f_begun, a_known, a_levels, a_snow⟩ zc hS rfl hw hM dX3_raise_43
set_option maxRecDepth 20000 in
theorem c_wn_X3_raise_6 (l : Launch) {E : zE} {qn ql qv : Nat} {f_minute : Int32} {f_avalanches : Int32} {f_begun : Int32} {f_climbed : Int32} {f_seed : Int32} {a_huts : Nat → Int32} {a_known : Nat → Int32} {a_levels : Nat → Int32} {a_snow : Nat → Int32} {a_open : Nat → Int32} {lf_huts : Int32} {lf_singers : Int32} {lf_villages : Int32} {lf_dams : Int32} {lf_echoes : Int32} {lf_deep : Int32} {lf_slide : Int32} {la_heights : Nat → Int32} {la_ladders : Nat → Int32} {la_minutes : Nat → Int32} {la_echoFrom : Nat → Int32} {la_echoTo : Nat → Int32} {la_homes : Nat → Int32} {la_talls : Nat → Int32} {la_known : Nat → Int32} {vf_deeds : Int32} {va_kinds : Nat → Int32} {va_firsts : Nat → Int32} {va_seconds : Nat → Int32} {x2 : Int32} {x3 : Int32} {x4 : Int32} {post : Int32 → (Int32) → (Int32) → (Nat → Int32) → (Nat → Int32) → (Nat → Int32) → Prop} (hw : q_wn_X3_raise_6_0 f_avalanches f_begun f_climbed a_huts a_known a_levels a_snow lf_singers lf_dams lf_echoes la_heights la_ladders la_echoFrom la_echoTo la_talls x2 x3 x4 post) : Met l yX3_raise (Cond.code yX3_raise cX3_raise 9 (some .boolean) :: zb) rm_wn_X3_raise_6 (va_Pc [.ref qn, .ref ql, .int x2, .int x3, .int x4] (fun U => wnW E qn ql qv f_minute f_avalanches f_begun f_climbed f_seed a_huts a_known a_levels a_snow a_open lf_huts lf_singers lf_villages lf_dams lf_echoes lf_deep lf_slide la_heights la_ladders la_minutes la_echoFrom la_echoTo la_homes la_talls la_known vf_deeds va_kinds va_firsts va_seconds U.heap ∧ zK E U)) (zQi (S := (Int32) × (Int32) × (Nat → Int32) × (Nat → Int32) × (Nat → Int32)) (fun r u => post r u.1 u.2.1 u.2.2.1 u.2.2.2.1 u.2.2.2.2) (fun u H => wnW E qn ql qv f_minute u.1 u.2.1 f_climbed f_seed a_huts u.2.2.1 u.2.2.2.1 u.2.2.2.2 a_open lf_huts lf_singers lf_villages lf_dams lf_echoes lf_deep lf_slide la_heights la_ladders la_minutes la_echoFrom la_echoTo la_homes la_talls la_known vf_deeds va_kinds va_firsts va_seconds H) (wnA qn ql qv)) 0 0 (wnA qn ql qv) := by
  refine Met.ofW (cc := cX3_raise) (maxL := 9) (ret := (some .boolean)) (by decide) rfl ?_
  intro p e s m args below meth c s₁ B hml hv
  obtain ⟨rfl, hM, hK⟩ := hv
  have zc := zc_of B hml
  have hl := lv_entry ([.ref qn, .ref ql, .int x2, .int x3, .int x4]) (n := 9) (Nat.le_of_ble_eq_true rfl)
  rw [lg_entry_eq]
  generalize (lg_sl ([.ref qn, .ref ql, .int x2, .int x3, .int x4]) ++ List.replicate (9 - (lg_sl ([.ref qn, .ref ql, .int x2, .int x3, .int x4])).length) Slot.unset).toArray = ls at hl ⊢
  have hl : lv_has ls 9 [(0, .ref qn), (1, .ref ql), (2, .int x2), (3, .int x3), (4, .int x4)] := hl
  exact t_wn_X3_raise_6_0 zc hK hM va_S.rf (lv_sub hl [0, 1, 2, 3, 4] rfl) hw
-- wn_X3_descend
abbrev rm_wn_X3_descend : Room := { frames := 1, cells := 0, slots := 0, locals := 21 }
def q_wn_X3_descend_0 (f_climbed : Int32) (x1 : Int32) (post : Int32 → (Int32) → Prop) : Prop :=
  q_z_X10_has_0 f_climbed x1 (fun r_1 => (¬ r_1 = 0 → (∀ v_1 : Int32, v_1 = (f_climbed &&& (((1 : Int32) <<< (x1 &&& 31)) ^^^ (-1 : Int32))) → (post (1 : Int32) v_1))) ∧ (r_1 = 0 → (post (0 : Int32) f_climbed)))
set_option maxRecDepth 20000 in
theorem t_wn_X3_descend_0 {p : Program} {l : Launch} {e : Env} {s : State} {m : MethodId} {args : Array Value} {below : List Frame} {meth : Method} {c : Code} {E : zE} {qn ql qv : Nat} {f_minute : Int32} {f_avalanches : Int32} {f_begun : Int32} {f_climbed : Int32} {f_seed : Int32} {a_huts : Nat → Int32} {a_known : Nat → Int32} {a_levels : Nat → Int32} {a_snow : Nat → Int32} {a_open : Nat → Int32} {lf_huts : Int32} {lf_singers : Int32} {lf_villages : Int32} {lf_dams : Int32} {lf_echoes : Int32} {lf_deep : Int32} {lf_slide : Int32} {la_heights : Nat → Int32} {la_ladders : Nat → Int32} {la_minutes : Nat → Int32} {la_echoFrom : Nat → Int32} {la_echoTo : Nat → Int32} {la_homes : Nat → Int32} {la_talls : Nat → Int32} {la_known : Nat → Int32} {vf_deeds : Int32} {va_kinds : Nat → Int32} {va_firsts : Nat → Int32} {va_seconds : Nat → Int32} {post : Int32 → (Int32) → Prop} {x1 : Int32} {ls : Array Slot} {H : Heap} {locs : List Loc}
    (zc : zC p s m args meth c cX3_descend 2 RX3 (some .boolean))
    (hK : zK E s)
    (hM : wnW E qn ql qv f_minute f_avalanches f_begun f_climbed f_seed a_huts a_known a_levels a_snow a_open lf_huts lf_singers lf_villages lf_dams lf_echoes lf_deep lf_slide la_heights la_ladders la_minutes la_echoFrom la_echoTo la_homes la_talls la_known vf_deeds va_kinds va_firsts va_seconds H)
    (hS : va_S (wnA qn ql qv) s.heap H locs)
    (hl : lv_has ls 2 [(0, .ref qn), (1, .int x1)])
    (hw : q_wn_X3_descend_0 f_climbed x1 post) :
    W p l e rm_wn_X3_descend s m args below meth c H locs 0 0 (MQ below (zQi (S := (Int32)) (fun r u => post r u) (fun u H => wnW E qn ql qv f_minute f_avalanches f_begun u f_seed a_huts a_known a_levels a_snow a_open lf_huts lf_singers lf_villages lf_dams lf_echoes lf_deep lf_slide la_heights la_ladders la_minutes la_echoFrom la_echoTo la_homes la_talls la_known vf_deeds va_kinds va_firsts va_seconds H) (wnA qn ql qv)) args s 0 0 (wnA qn ql qv)) (F0 m 0 ls []) := by
  have hx := zc.1
  have hb := zc.2.1
  refine lv_aload_n hx hb dX3_descend_0 rfl (lv_at hl 0 rfl) ?_
  refine wng_3_78_0 zc hK hM dX3_descend_1 ?_
  refine lv_iload_n hx hb dX3_descend_4 rfl (lv_at hl 1 rfl) ?_
  refine zSN_i [.int f_climbed, .int x1] [] zc ky_X10_has kz_X10_has (hK.2 _ kn_3_67) (c_z_X10_has l hw) (zPre0 _) rfl rfl hl.1 (Nat.le_of_ble_eq_true rfl) ⟨rfl, rfl⟩ ⟨Nat.le_of_ble_eq_true rfl, Nat.le_of_ble_eq_true rfl⟩ ⟨(Nat.zero_le _), (Nat.zero_le _)⟩ dX3_descend_5 (fun r_1 hw => ?_)
  refine lv_if_ne (tgt := 13) hx hb dX3_descend_8 (by decide) (fun hc => ?_) (fun hc => ?_)
  · have hw := hw.1 hc
    refine lv_aload_n hx hb dX3_descend_13 rfl (lv_at hl 0 rfl) ?_
    refine lv_dup hx hb dX3_descend_14 rfl ?_
    refine wng_3_78_0 zc hK hM dX3_descend_15 ?_
    refine lv_iconst (v := (1 : Int32)) hx hb dX3_descend_18 (by decide) ?_
    refine lv_iload_n hx hb dX3_descend_19 rfl (lv_at hl 1 rfl) ?_
    refine lv_ishl hx hb dX3_descend_20 ?_
    refine lv_iconst (v := (-1 : Int32)) hx hb dX3_descend_21 (by decide) ?_
    refine lv_ixor hx hb dX3_descend_22 ?_
    refine lv_iand hx hb dX3_descend_23 ?_
    refine lv_topi (fun v_1 ev_1 => ?_)
    have hw := hw v_1 ev_1
    refine wnp_3_78_0 zc hK hM hS dX3_descend_24 (fun H locs hM hS => ?_)
    refine lv_iconst (v := (1 : Int32)) hx hb dX3_descend_27 (by decide) ?_
    exact zret_zw v_1 zc hS rfl hw hM dX3_descend_28
  · have hw := hw.2 hc
    refine lv_iconst (v := (0 : Int32)) hx hb dX3_descend_11 (by decide) ?_
    exact zret_zw f_climbed zc hS rfl hw hM dX3_descend_12
set_option maxRecDepth 20000 in
theorem c_wn_X3_descend (l : Launch) {E : zE} {qn ql qv : Nat} {f_minute : Int32} {f_avalanches : Int32} {f_begun : Int32} {f_climbed : Int32} {f_seed : Int32} {a_huts : Nat → Int32} {a_known : Nat → Int32} {a_levels : Nat → Int32} {a_snow : Nat → Int32} {a_open : Nat → Int32} {lf_huts : Int32} {lf_singers : Int32} {lf_villages : Int32} {lf_dams : Int32} {lf_echoes : Int32} {lf_deep : Int32} {lf_slide : Int32} {la_heights : Nat → Int32} {la_ladders : Nat → Int32} {la_minutes : Nat → Int32} {la_echoFrom : Nat → Int32} {la_echoTo : Nat → Int32} {la_homes : Nat → Int32} {la_talls : Nat → Int32} {la_known : Nat → Int32} {vf_deeds : Int32} {va_kinds : Nat → Int32} {va_firsts : Nat → Int32} {va_seconds : Nat → Int32} {x1 : Int32} {post : Int32 → (Int32) → Prop} (hw : q_wn_X3_descend_0 f_climbed x1 post) : Met l yX3_descend (Cond.code yX3_descend cX3_descend 2 (some .boolean) :: zb) rm_wn_X3_descend (va_Pc [.ref qn, .int x1] (fun U => wnW E qn ql qv f_minute f_avalanches f_begun f_climbed f_seed a_huts a_known a_levels a_snow a_open lf_huts lf_singers lf_villages lf_dams lf_echoes lf_deep lf_slide la_heights la_ladders la_minutes la_echoFrom la_echoTo la_homes la_talls la_known vf_deeds va_kinds va_firsts va_seconds U.heap ∧ zK E U)) (zQi (S := (Int32)) (fun r u => post r u) (fun u H => wnW E qn ql qv f_minute f_avalanches f_begun u f_seed a_huts a_known a_levels a_snow a_open lf_huts lf_singers lf_villages lf_dams lf_echoes lf_deep lf_slide la_heights la_ladders la_minutes la_echoFrom la_echoTo la_homes la_talls la_known vf_deeds va_kinds va_firsts va_seconds H) (wnA qn ql qv)) 0 0 (wnA qn ql qv) := by
  refine Met.ofW (cc := cX3_descend) (maxL := 2) (ret := (some .boolean)) (by decide) rfl ?_
  intro p e s m args below meth c s₁ B hml hv
  obtain ⟨rfl, hM, hK⟩ := hv
  have zc := zc_of B hml
  have hl := lv_entry ([.ref qn, .int x1]) (n := 2) (Nat.le_of_ble_eq_true rfl)
  rw [lg_entry_eq]
  generalize (lg_sl ([.ref qn, .int x1]) ++ List.replicate (2 - (lg_sl ([.ref qn, .int x1])).length) Slot.unset).toArray = ls at hl ⊢
  have hl : lv_has ls 2 [(0, .ref qn), (1, .int x1)] := hl
  exact t_wn_X3_descend_0 zc hK hM va_S.rf (lv_sub hl [0, 1] rfl) hw
-- wn_X3_climb_6
abbrev rm_wn_X3_climb_6 : Room := { frames := 1, cells := 0, slots := 0, locals := 21 }
def q_wn_X3_climb_6_0 (f_climbed : Int32) (a_huts : Nat → Int32) (la_ladders : Nat → Int32) (x2 : Int32) (post : Int32 → (Int32) → Prop) : Prop :=
  q_z_X10_has_0 f_climbed x2 (fun r_1 => (¬ r_1 = 0 → (post (0 : Int32) f_climbed)) ∧ (r_1 = 0 → (vp_in x2 6 ∧ (vp_in (a_huts (Int32.toNatClampNeg x2)) 9 ∧ ((¬ (la_ladders (Int32.toNatClampNeg (a_huts (Int32.toNatClampNeg x2)))) = 0 → (∀ v_1 : Int32, v_1 = (f_climbed ||| ((1 : Int32) <<< (x2 &&& 31))) → (post (1 : Int32) v_1))) ∧ ((la_ladders (Int32.toNatClampNeg (a_huts (Int32.toNatClampNeg x2)))) = 0 → (post (0 : Int32) f_climbed)))))))
set_option maxRecDepth 20000 in
theorem t_wn_X3_climb_6_0 {p : Program} {l : Launch} {e : Env} {s : State} {m : MethodId} {args : Array Value} {below : List Frame} {meth : Method} {c : Code} {E : zE} {qn ql qv : Nat} {f_minute : Int32} {f_avalanches : Int32} {f_begun : Int32} {f_climbed : Int32} {f_seed : Int32} {a_huts : Nat → Int32} {a_known : Nat → Int32} {a_levels : Nat → Int32} {a_snow : Nat → Int32} {a_open : Nat → Int32} {lf_huts : Int32} {lf_singers : Int32} {lf_villages : Int32} {lf_dams : Int32} {lf_echoes : Int32} {lf_deep : Int32} {lf_slide : Int32} {la_heights : Nat → Int32} {la_ladders : Nat → Int32} {la_minutes : Nat → Int32} {la_echoFrom : Nat → Int32} {la_echoTo : Nat → Int32} {la_homes : Nat → Int32} {la_talls : Nat → Int32} {la_known : Nat → Int32} {vf_deeds : Int32} {va_kinds : Nat → Int32} {va_firsts : Nat → Int32} {va_seconds : Nat → Int32} {post : Int32 → (Int32) → Prop} {x2 : Int32} {ls : Array Slot} {H : Heap} {locs : List Loc}
    (zc : zC p s m args meth c cX3_climb 3 RX3 (some .boolean))
    (hK : zK E s)
    (hM : wnW E qn ql qv f_minute f_avalanches f_begun f_climbed f_seed a_huts a_known a_levels a_snow a_open lf_huts lf_singers lf_villages lf_dams lf_echoes lf_deep lf_slide la_heights la_ladders la_minutes la_echoFrom la_echoTo la_homes la_talls la_known vf_deeds va_kinds va_firsts va_seconds H)
    (hS : va_S (wnA qn ql qv) s.heap H locs)
    (hl : lv_has ls 3 [(0, .ref qn), (1, .ref ql), (2, .int x2)])
    (hw : q_wn_X3_climb_6_0 f_climbed a_huts la_ladders x2 post) :
    W p l e rm_wn_X3_climb_6 s m args below meth c H locs 0 0 (MQ below (zQi (S := (Int32)) (fun r u => post r u) (fun u H => wnW E qn ql qv f_minute f_avalanches f_begun u f_seed a_huts a_known a_levels a_snow a_open lf_huts lf_singers lf_villages lf_dams lf_echoes lf_deep lf_slide la_heights la_ladders la_minutes la_echoFrom la_echoTo la_homes la_talls la_known vf_deeds va_kinds va_firsts va_seconds H) (wnA qn ql qv)) args s 0 0 (wnA qn ql qv)) (F0 m 0 ls []) := by
  have hx := zc.1
  have hb := zc.2.1
  refine lv_aload_n hx hb dX3_climb_0 rfl (lv_at hl 0 rfl) ?_
  refine wng_3_78_0 zc hK hM dX3_climb_1 ?_
  refine lv_iload_n hx hb dX3_climb_4 rfl (lv_at hl 2 rfl) ?_
  refine zSN_i [.int f_climbed, .int x2] [] zc ky_X10_has kz_X10_has (hK.2 _ kn_3_67) (c_z_X10_has l hw) (zPre0 _) rfl rfl hl.1 (Nat.le_of_ble_eq_true rfl) ⟨rfl, rfl⟩ ⟨Nat.le_of_ble_eq_true rfl, Nat.le_of_ble_eq_true rfl⟩ ⟨(Nat.zero_le _), (Nat.zero_le _)⟩ dX3_climb_5 (fun r_1 hw => ?_)
  refine lv_if_ne (tgt := 25) hx hb dX3_climb_8 (by decide) (fun hc => ?_) (fun hc => ?_)
  · have hw := hw.1 hc
    refine lv_iconst (v := (0 : Int32)) hx hb dX3_climb_25 (by decide) ?_
    exact zret_zw f_climbed zc hS rfl hw hM dX3_climb_26
  · have hw := hw.2 hc
    refine lv_aload_n hx hb dX3_climb_11 rfl (lv_at hl 1 rfl) ?_
    refine wng_3_124_6 zc hK hM dX3_climb_12 ?_
    refine lv_aload_n hx hb dX3_climb_15 rfl (lv_at hl 0 rfl) ?_
    refine wng_3_9_0 zc hK hM dX3_climb_16 ?_
    refine lv_iload_n hx hb dX3_climb_19 rfl (lv_at hl 2 rfl) ?_
    refine wnld_1 zc hK hM hw.1 dX3_climb_20 ?_
    have hw := hw.2
    refine wnld_8 zc hK hM hw.1 dX3_climb_21 ?_
    have hw := hw.2
    refine lv_if_ne (tgt := 27) hx hb dX3_climb_22 (by decide) (fun hc => ?_) (fun hc => ?_)
    · have hw := hw.1 hc
      refine lv_aload_n hx hb dX3_climb_27 rfl (lv_at hl 0 rfl) ?_
      refine lv_dup hx hb dX3_climb_28 rfl ?_
      refine wng_3_78_0 zc hK hM dX3_climb_29 ?_
      refine lv_iconst (v := (1 : Int32)) hx hb dX3_climb_32 (by decide) ?_
      refine lv_iload_n hx hb dX3_climb_33 rfl (lv_at hl 2 rfl) ?_
      refine lv_ishl hx hb dX3_climb_34 ?_
      refine lv_ior hx hb dX3_climb_35 ?_
      refine lv_topi (fun v_1 ev_1 => ?_)
      have hw := hw v_1 ev_1
      refine wnp_3_78_0 zc hK hM hS dX3_climb_36 (fun H locs hM hS => ?_)
      refine lv_iconst (v := (1 : Int32)) hx hb dX3_climb_39 (by decide) ?_
      exact zret_zw v_1 zc hS rfl hw hM dX3_climb_40
    · have hw := hw.2 hc
      refine lv_iconst (v := (0 : Int32)) hx hb dX3_climb_25 (by decide) ?_
      exact zret_zw f_climbed zc hS rfl hw hM dX3_climb_26
set_option maxRecDepth 20000 in
theorem c_wn_X3_climb_6 (l : Launch) {E : zE} {qn ql qv : Nat} {f_minute : Int32} {f_avalanches : Int32} {f_begun : Int32} {f_climbed : Int32} {f_seed : Int32} {a_huts : Nat → Int32} {a_known : Nat → Int32} {a_levels : Nat → Int32} {a_snow : Nat → Int32} {a_open : Nat → Int32} {lf_huts : Int32} {lf_singers : Int32} {lf_villages : Int32} {lf_dams : Int32} {lf_echoes : Int32} {lf_deep : Int32} {lf_slide : Int32} {la_heights : Nat → Int32} {la_ladders : Nat → Int32} {la_minutes : Nat → Int32} {la_echoFrom : Nat → Int32} {la_echoTo : Nat → Int32} {la_homes : Nat → Int32} {la_talls : Nat → Int32} {la_known : Nat → Int32} {vf_deeds : Int32} {va_kinds : Nat → Int32} {va_firsts : Nat → Int32} {va_seconds : Nat → Int32} {x2 : Int32} {post : Int32 → (Int32) → Prop} (hw : q_wn_X3_climb_6_0 f_climbed a_huts la_ladders x2 post) : Met l yX3_climb (Cond.code yX3_climb cX3_climb 3 (some .boolean) :: zb) rm_wn_X3_climb_6 (va_Pc [.ref qn, .ref ql, .int x2] (fun U => wnW E qn ql qv f_minute f_avalanches f_begun f_climbed f_seed a_huts a_known a_levels a_snow a_open lf_huts lf_singers lf_villages lf_dams lf_echoes lf_deep lf_slide la_heights la_ladders la_minutes la_echoFrom la_echoTo la_homes la_talls la_known vf_deeds va_kinds va_firsts va_seconds U.heap ∧ zK E U)) (zQi (S := (Int32)) (fun r u => post r u) (fun u H => wnW E qn ql qv f_minute f_avalanches f_begun u f_seed a_huts a_known a_levels a_snow a_open lf_huts lf_singers lf_villages lf_dams lf_echoes lf_deep lf_slide la_heights la_ladders la_minutes la_echoFrom la_echoTo la_homes la_talls la_known vf_deeds va_kinds va_firsts va_seconds H) (wnA qn ql qv)) 0 0 (wnA qn ql qv) := by
  refine Met.ofW (cc := cX3_climb) (maxL := 3) (ret := (some .boolean)) (by decide) rfl ?_
  intro p e s m args below meth c s₁ B hml hv
  obtain ⟨rfl, hM, hK⟩ := hv
  have zc := zc_of B hml
  have hl := lv_entry ([.ref qn, .ref ql, .int x2]) (n := 3) (Nat.le_of_ble_eq_true rfl)
  rw [lg_entry_eq]
  generalize (lg_sl ([.ref qn, .ref ql, .int x2]) ++ List.replicate (3 - (lg_sl ([.ref qn, .ref ql, .int x2])).length) Slot.unset).toArray = ls at hl ⊢
  have hl : lv_has ls 3 [(0, .ref qn), (1, .ref ql), (2, .int x2)] := hl
  exact t_wn_X3_climb_6_0 zc hK hM va_S.rf (lv_sub hl [0, 1, 2] rfl) hw
-- wn_X3_isCut_6
abbrev rm_wn_X3_isCut_6 : Room := { frames := 0, cells := 0, slots := 0, locals := 0 }
def q_wn_X3_isCut_6_0 (a_snow : Nat → Int32) (lf_deep : Int32) (x2 : Int32) (post : Int32 → Prop) : Prop :=
  vp_in x2 9 ∧ (((a_snow (Int32.toNatClampNeg x2)) < lf_deep → (post (0 : Int32))) ∧ (¬ (a_snow (Int32.toNatClampNeg x2)) < lf_deep → (post (1 : Int32))))
set_option maxRecDepth 20000 in
theorem t_wn_X3_isCut_6_0 {p : Program} {l : Launch} {e : Env} {s : State} {m : MethodId} {args : Array Value} {below : List Frame} {meth : Method} {c : Code} {E : zE} {qn ql qv : Nat} {f_minute : Int32} {f_avalanches : Int32} {f_begun : Int32} {f_climbed : Int32} {f_seed : Int32} {a_huts : Nat → Int32} {a_known : Nat → Int32} {a_levels : Nat → Int32} {a_snow : Nat → Int32} {a_open : Nat → Int32} {lf_huts : Int32} {lf_singers : Int32} {lf_villages : Int32} {lf_dams : Int32} {lf_echoes : Int32} {lf_deep : Int32} {lf_slide : Int32} {la_heights : Nat → Int32} {la_ladders : Nat → Int32} {la_minutes : Nat → Int32} {la_echoFrom : Nat → Int32} {la_echoTo : Nat → Int32} {la_homes : Nat → Int32} {la_talls : Nat → Int32} {la_known : Nat → Int32} {vf_deeds : Int32} {va_kinds : Nat → Int32} {va_firsts : Nat → Int32} {va_seconds : Nat → Int32} {post : Int32 → Prop} {x2 : Int32} {ls : Array Slot}
    (zc : zC p s m args meth c cX3_isCut 3 RX3 (some .boolean))
    (hK : zK E s)
    (hM : wnW E qn ql qv f_minute f_avalanches f_begun f_climbed f_seed a_huts a_known a_levels a_snow a_open lf_huts lf_singers lf_villages lf_dams lf_echoes lf_deep lf_slide la_heights la_ladders la_minutes la_echoFrom la_echoTo la_homes la_talls la_known vf_deeds va_kinds va_firsts va_seconds s.heap)
    (hl : lv_has ls 3 [(0, .ref qn), (1, .ref ql), (2, .int x2)])
    (hw : q_wn_X3_isCut_6_0 a_snow lf_deep x2 post) :
    W p l e rm_wn_X3_isCut_6 s m args below meth c s.heap [] 0 0 (MQ below (vp_Si post) args s 0 0 (fun _ => False)) (F0 m 0 ls []) := by
  have hx := zc.1
  have hb := zc.2.1
  refine lv_aload_n hx hb dX3_isCut_0 rfl (lv_at hl 0 rfl) ?_
  refine wng_3_21_0 zc hK hM dX3_isCut_1 ?_
  refine lv_iload_n hx hb dX3_isCut_4 rfl (lv_at hl 2 rfl) ?_
  refine wnld_4 zc hK hM hw.1 dX3_isCut_5 ?_
  have hw := hw.2
  refine lv_aload_n hx hb dX3_isCut_6 rfl (lv_at hl 1 rfl) ?_
  refine wng_3_144_6 zc hK hM dX3_isCut_7 ?_
  refine lv_icmp_lt (tgt := 17) hx hb dX3_isCut_10 (by decide) (fun hc => ?_) (fun hc => ?_)
  · have hw := hw.1 hc
    refine lv_iconst (v := (0 : Int32)) hx hb dX3_isCut_17 (by decide) ?_
    exact zret_z zc rfl hw dX3_isCut_18
  · have hw := hw.2 hc
    refine lv_iconst (v := (1 : Int32)) hx hb dX3_isCut_13 (by decide) ?_
    refine lv_goto (tgt := 18) hx hb dX3_isCut_14 (by decide) ?_
    exact zret_z zc rfl hw dX3_isCut_18
set_option maxRecDepth 20000 in
theorem c_wn_X3_isCut_6 (l : Launch) {E : zE} {qn ql qv : Nat} {f_minute : Int32} {f_avalanches : Int32} {f_begun : Int32} {f_climbed : Int32} {f_seed : Int32} {a_huts : Nat → Int32} {a_known : Nat → Int32} {a_levels : Nat → Int32} {a_snow : Nat → Int32} {a_open : Nat → Int32} {lf_huts : Int32} {lf_singers : Int32} {lf_villages : Int32} {lf_dams : Int32} {lf_echoes : Int32} {lf_deep : Int32} {lf_slide : Int32} {la_heights : Nat → Int32} {la_ladders : Nat → Int32} {la_minutes : Nat → Int32} {la_echoFrom : Nat → Int32} {la_echoTo : Nat → Int32} {la_homes : Nat → Int32} {la_talls : Nat → Int32} {la_known : Nat → Int32} {vf_deeds : Int32} {va_kinds : Nat → Int32} {va_firsts : Nat → Int32} {va_seconds : Nat → Int32} {x2 : Int32} {post : Int32 → Prop} (hw : q_wn_X3_isCut_6_0 a_snow lf_deep x2 post) : Met l yX3_isCut (Cond.code yX3_isCut cX3_isCut 3 (some .boolean) :: zb) rm_wn_X3_isCut_6 (va_Pc [.ref qn, .ref ql, .int x2] (fun U => wnW E qn ql qv f_minute f_avalanches f_begun f_climbed f_seed a_huts a_known a_levels a_snow a_open lf_huts lf_singers lf_villages lf_dams lf_echoes lf_deep lf_slide la_heights la_ladders la_minutes la_echoFrom la_echoTo la_homes la_talls la_known vf_deeds va_kinds va_firsts va_seconds U.heap ∧ zK E U)) (vp_Si post) 0 0 (fun _ => False) := by
  refine Met.ofW (cc := cX3_isCut) (maxL := 3) (ret := (some .boolean)) (by decide) rfl ?_
  intro p e s m args below meth c s₁ B hml hv
  obtain ⟨rfl, hM, hK⟩ := hv
  have zc := zc_of B hml
  have hl := lv_entry ([.ref qn, .ref ql, .int x2]) (n := 3) (Nat.le_of_ble_eq_true rfl)
  rw [lg_entry_eq]
  generalize (lg_sl ([.ref qn, .ref ql, .int x2]) ++ List.replicate (3 - (lg_sl ([.ref qn, .ref ql, .int x2])).length) Slot.unset).toArray = ls at hl ⊢
  have hl : lv_has ls 3 [(0, .ref qn), (1, .ref ql), (2, .int x2)] := hl
  exact t_wn_X3_isCut_6_0 zc hK hM (lv_sub hl [0, 1, 2] rfl) hw
-- wn_X3_walk_6
abbrev rm_wn_X3_walk_6 : Room := { frames := 1, cells := 0, slots := 0, locals := 22 }
def q_wn_X3_walk_6_0 (f_minute : Int32) (f_climbed : Int32) (a_huts : Nat → Int32) (a_snow : Nat → Int32) (lf_huts : Int32) (lf_deep : Int32) (la_minutes : Nat → Int32) (x2 : Int32) (x3 : Int32) (post : Int32 → (Int32) → (Nat → Int32) → Prop) : Prop :=
  vp_in x2 6 ∧ (∀ v_1 : Int32, v_1 = (a_huts (Int32.toNatClampNeg x2)) → (q_wl_X2_hasHut_0 lf_huts x3 (fun r_1 => (r_1 = 0 → (post (0 : Int32) f_minute a_huts)) ∧ (¬ r_1 = 0 → (q_z_X10_has_0 f_climbed x2 (fun r_2 => (¬ r_2 = 0 → (post (0 : Int32) f_minute a_huts)) ∧ (r_2 = 0 → (q_wn_X3_isCut_6_0 a_snow lf_deep v_1 (fun r_3 => (¬ r_3 = 0 → (post (0 : Int32) f_minute a_huts)) ∧ (r_3 = 0 → (q_wn_X3_isCut_6_0 a_snow lf_deep x3 (fun r_4 => (r_4 = 0 → (vp_in ((v_1 * (9 : Int32)) + x3) 81 ∧ (∀ v_2 : Int32, v_2 = (la_minutes (Int32.toNatClampNeg ((v_1 * (9 : Int32)) + x3))) → ((¬ v_2 = 0 → (∀ v_3 : Int32, v_3 = (f_minute + v_2) → (vp_in x2 6 ∧ (∀ a_huts_1 : Nat → Int32, a_huts_1 = upd a_huts (Int32.toNatClampNeg x2) x3 → (post (1 : Int32) v_3 a_huts_1))))) ∧ (v_2 = 0 → (post (0 : Int32) f_minute a_huts)))))) ∧ (¬ r_4 = 0 → (post (0 : Int32) f_minute a_huts))))))))))))))
set_option maxRecDepth 20000 in
theorem t_wn_X3_walk_6_0 {p : Program} {l : Launch} {e : Env} {s : State} {m : MethodId} {args : Array Value} {below : List Frame} {meth : Method} {c : Code} {E : zE} {qn ql qv : Nat} {f_minute : Int32} {f_avalanches : Int32} {f_begun : Int32} {f_climbed : Int32} {f_seed : Int32} {a_huts : Nat → Int32} {a_known : Nat → Int32} {a_levels : Nat → Int32} {a_snow : Nat → Int32} {a_open : Nat → Int32} {lf_huts : Int32} {lf_singers : Int32} {lf_villages : Int32} {lf_dams : Int32} {lf_echoes : Int32} {lf_deep : Int32} {lf_slide : Int32} {la_heights : Nat → Int32} {la_ladders : Nat → Int32} {la_minutes : Nat → Int32} {la_echoFrom : Nat → Int32} {la_echoTo : Nat → Int32} {la_homes : Nat → Int32} {la_talls : Nat → Int32} {la_known : Nat → Int32} {vf_deeds : Int32} {va_kinds : Nat → Int32} {va_firsts : Nat → Int32} {va_seconds : Nat → Int32} {post : Int32 → (Int32) → (Nat → Int32) → Prop} {x2 : Int32} {x3 : Int32} {ls : Array Slot} {H : Heap} {locs : List Loc}
    (zc : zC p s m args meth c cX3_walk 6 RX3 (some .boolean))
    (hK : zK E s)
    (hM : wnW E qn ql qv f_minute f_avalanches f_begun f_climbed f_seed a_huts a_known a_levels a_snow a_open lf_huts lf_singers lf_villages lf_dams lf_echoes lf_deep lf_slide la_heights la_ladders la_minutes la_echoFrom la_echoTo la_homes la_talls la_known vf_deeds va_kinds va_firsts va_seconds H)
    (hS : va_S (wnA qn ql qv) s.heap H locs)
    (hl : lv_has ls 6 [(0, .ref qn), (1, .ref ql), (2, .int x2), (3, .int x3)])
    (hw : q_wn_X3_walk_6_0 f_minute f_climbed a_huts a_snow lf_huts lf_deep la_minutes x2 x3 post) :
    W p l e rm_wn_X3_walk_6 s m args below meth c H locs 0 0 (MQ below (zQi (S := (Int32) × (Nat → Int32)) (fun r u => post r u.1 u.2) (fun u H => wnW E qn ql qv u.1 f_avalanches f_begun f_climbed f_seed u.2 a_known a_levels a_snow a_open lf_huts lf_singers lf_villages lf_dams lf_echoes lf_deep lf_slide la_heights la_ladders la_minutes la_echoFrom la_echoTo la_homes la_talls la_known vf_deeds va_kinds va_firsts va_seconds H) (wnA qn ql qv)) args s 0 0 (wnA qn ql qv)) (F0 m 0 ls []) := by
  have hx := zc.1
  have hb := zc.2.1
  refine lv_aload_n hx hb dX3_walk_0 rfl (lv_at hl 0 rfl) ?_
  refine wng_3_9_0 zc hK hM dX3_walk_1 ?_
  refine lv_iload_n hx hb dX3_walk_4 rfl (lv_at hl 2 rfl) ?_
  refine wnld_1 zc hK hM hw.1 dX3_walk_5 ?_
  have hw := hw.2
  refine lv_topi (fun v_1 ev_1 => ?_)
  have hw := hw v_1 ev_1
  refine lv_istore (lv' := [(4, .int v_1), (0, .ref qn), (1, .ref ql), (2, .int x2), (3, .int x3)]) hx hb dX3_walk_6 hl (by decide) rfl (fun ls hl => ?_)
  refine lv_aload_n hx hb dX3_walk_8 rfl (lv_at hl 2 rfl) ?_
  refine lv_iload_n hx hb dX3_walk_9 rfl (lv_at hl 4 rfl) ?_
  refine zV_i [.int x3] [] zc ky_X2_hasHut kz_X2_hasHut km_3_115 (c_wl_X2_hasHut l hw) (wlPreV0 hK (pj_wn_wl_6 hM)) rfl rfl hl.1 (Nat.le_of_ble_eq_true rfl) ⟨rfl, rfl⟩ ⟨Nat.le_of_ble_eq_true rfl, Nat.le_of_ble_eq_true rfl⟩ ⟨(Nat.zero_le _), (Nat.zero_le _)⟩ dX3_walk_10 (fun r_1 hw => ?_)
  refine lv_if_eq (tgt := 46) hx hb dX3_walk_13 (by decide) (fun hc => ?_) (fun hc => ?_)
  · have hw := hw.1 hc
    refine lv_iconst (v := (0 : Int32)) hx hb dX3_walk_46 (by decide) ?_
    exact zret_zw ⟨f_minute, a_huts⟩ zc hS rfl hw hM dX3_walk_47
  · have hw := hw.2 hc
    refine lv_aload_n hx hb dX3_walk_16 rfl (lv_at hl 1 rfl) ?_
    refine wng_3_78_0 zc hK hM dX3_walk_17 ?_
    refine lv_iload_n hx hb dX3_walk_20 rfl (lv_at hl 3 rfl) ?_
    refine zSN_i [.int f_climbed, .int x2] [] zc ky_X10_has kz_X10_has (hK.2 _ kn_3_67) (c_z_X10_has l hw) (zPre0 _) rfl rfl hl.1 (Nat.le_of_ble_eq_true rfl) ⟨rfl, rfl⟩ ⟨Nat.le_of_ble_eq_true rfl, Nat.le_of_ble_eq_true rfl⟩ ⟨(Nat.zero_le _), (Nat.zero_le _)⟩ dX3_walk_21 (fun r_2 hw => ?_)
    refine lv_if_ne (tgt := 46) hx hb dX3_walk_24 (by decide) (fun hc => ?_) (fun hc => ?_)
    · have hw := hw.1 hc
      refine lv_iconst (v := (0 : Int32)) hx hb dX3_walk_46 (by decide) ?_
      exact zret_zw ⟨f_minute, a_huts⟩ zc hS rfl hw hM dX3_walk_47
    · have hw := hw.2 hc
      refine lv_aload_n hx hb dX3_walk_27 rfl (lv_at hl 1 rfl) ?_
      refine lv_aload_n hx hb dX3_walk_28 rfl (lv_at hl 2 rfl) ?_
      refine lv_iload hx hb dX3_walk_29 (lv_at hl 0 rfl) ?_
      refine zV_i [.ref ql, .int v_1] [] zc ky_X3_isCut kz_X3_isCut km_3_118 (c_wn_X3_isCut_6 l hw) (wnPreV0 hK hM) rfl rfl hl.1 (Nat.le_of_ble_eq_true rfl) ⟨rfl, rfl⟩ ⟨Nat.le_of_ble_eq_true rfl, Nat.le_of_ble_eq_true rfl⟩ ⟨(Nat.zero_le _), (Nat.zero_le _)⟩ dX3_walk_31 (fun r_3 hw => ?_)
      refine lv_if_ne (tgt := 46) hx hb dX3_walk_34 (by decide) (fun hc => ?_) (fun hc => ?_)
      · have hw := hw.1 hc
        refine lv_iconst (v := (0 : Int32)) hx hb dX3_walk_46 (by decide) ?_
        exact zret_zw ⟨f_minute, a_huts⟩ zc hS rfl hw hM dX3_walk_47
      · have hw := hw.2 hc
        refine lv_aload_n hx hb dX3_walk_37 rfl (lv_at hl 1 rfl) ?_
        refine lv_aload_n hx hb dX3_walk_38 rfl (lv_at hl 2 rfl) ?_
        refine lv_iload_n hx hb dX3_walk_39 rfl (lv_at hl 4 rfl) ?_
        refine zV_i [.ref ql, .int x3] [] zc ky_X3_isCut kz_X3_isCut km_3_118 (c_wn_X3_isCut_6 l hw) (wnPreV0 hK hM) rfl rfl hl.1 (Nat.le_of_ble_eq_true rfl) ⟨rfl, rfl⟩ ⟨Nat.le_of_ble_eq_true rfl, Nat.le_of_ble_eq_true rfl⟩ ⟨(Nat.zero_le _), (Nat.zero_le _)⟩ dX3_walk_40 (fun r_4 hw => ?_)
        refine lv_if_eq (tgt := 48) hx hb dX3_walk_43 (by decide) (fun hc => ?_) (fun hc => ?_)
        · have hw := hw.1 hc
          refine lv_aload_n hx hb dX3_walk_48 rfl (lv_at hl 2 rfl) ?_
          refine wng_3_121_6 zc hK hM dX3_walk_49 ?_
          refine lv_iload hx hb dX3_walk_52 (lv_at hl 0 rfl) ?_
          refine lv_bipush (v := (9 : Int32)) hx hb dX3_walk_54 (by decide) ?_
          refine lv_imul hx hb dX3_walk_56 ?_
          refine lv_iload_n hx hb dX3_walk_57 rfl (lv_at hl 4 rfl) ?_
          refine lv_iadd hx hb dX3_walk_58 ?_
          refine wnld_9 zc hK hM hw.1 dX3_walk_59 ?_
          have hw := hw.2
          refine lv_topi (fun v_2 ev_2 => ?_)
          have hw := hw v_2 ev_2
          refine lv_istore (lv' := [(5, .int v_2), (4, .int v_1), (0, .ref qn), (1, .ref ql), (2, .int x2), (3, .int x3)]) hx hb dX3_walk_60 hl (by decide) rfl (fun ls hl => ?_)
          refine lv_iload hx hb dX3_walk_62 (lv_at hl 0 rfl) ?_
          refine lv_if_ne (tgt := 69) hx hb dX3_walk_64 (by decide) (fun hc => ?_) (fun hc => ?_)
          · have hw := hw.1 hc
            refine lv_aload_n hx hb dX3_walk_69 rfl (lv_at hl 2 rfl) ?_
            refine lv_dup hx hb dX3_walk_70 rfl ?_
            refine wng_3_72_0 zc hK hM dX3_walk_71 ?_
            refine lv_iload hx hb dX3_walk_74 (lv_at hl 0 rfl) ?_
            refine lv_iadd hx hb dX3_walk_76 ?_
            refine lv_topi (fun v_3 ev_3 => ?_)
            have hw := hw v_3 ev_3
            refine wnp_3_72_0 zc hK hM hS dX3_walk_77 (fun H locs hM hS => ?_)
            refine lv_aload_n hx hb dX3_walk_80 rfl (lv_at hl 2 rfl) ?_
            refine wng_3_9_0 zc hK hM dX3_walk_81 ?_
            refine lv_iload_n hx hb dX3_walk_84 rfl (lv_at hl 4 rfl) ?_
            refine lv_iload_n hx hb dX3_walk_85 rfl (lv_at hl 5 rfl) ?_
            refine wnst_1 zc hK hM hS hw.1 dX3_walk_86 (fun a_huts_1 H locs ea_huts_1 hM hS => ?_)
            have hw := hw.2 a_huts_1 ea_huts_1
            refine lv_iconst (v := (1 : Int32)) hx hb dX3_walk_87 (by decide) ?_
            exact zret_zw ⟨v_3, a_huts_1⟩ zc hS rfl hw hM dX3_walk_88
          · have hw := hw.2 hc
            refine lv_iconst (v := (0 : Int32)) hx hb dX3_walk_67 (by decide) ?_
            exact zret_zw ⟨f_minute, a_huts⟩ zc hS rfl hw hM dX3_walk_68
        · have hw := hw.2 hc
          refine lv_iconst (v := (0 : Int32)) hx hb dX3_walk_46 (by decide) ?_
          exact zret_zw ⟨f_minute, a_huts⟩ zc hS rfl hw hM dX3_walk_47
set_option maxRecDepth 20000 in
theorem c_wn_X3_walk_6 (l : Launch) {E : zE} {qn ql qv : Nat} {f_minute : Int32} {f_avalanches : Int32} {f_begun : Int32} {f_climbed : Int32} {f_seed : Int32} {a_huts : Nat → Int32} {a_known : Nat → Int32} {a_levels : Nat → Int32} {a_snow : Nat → Int32} {a_open : Nat → Int32} {lf_huts : Int32} {lf_singers : Int32} {lf_villages : Int32} {lf_dams : Int32} {lf_echoes : Int32} {lf_deep : Int32} {lf_slide : Int32} {la_heights : Nat → Int32} {la_ladders : Nat → Int32} {la_minutes : Nat → Int32} {la_echoFrom : Nat → Int32} {la_echoTo : Nat → Int32} {la_homes : Nat → Int32} {la_talls : Nat → Int32} {la_known : Nat → Int32} {vf_deeds : Int32} {va_kinds : Nat → Int32} {va_firsts : Nat → Int32} {va_seconds : Nat → Int32} {x2 : Int32} {x3 : Int32} {post : Int32 → (Int32) → (Nat → Int32) → Prop} (hw : q_wn_X3_walk_6_0 f_minute f_climbed a_huts a_snow lf_huts lf_deep la_minutes x2 x3 post) : Met l yX3_walk (Cond.code yX3_walk cX3_walk 6 (some .boolean) :: zb) rm_wn_X3_walk_6 (va_Pc [.ref qn, .ref ql, .int x2, .int x3] (fun U => wnW E qn ql qv f_minute f_avalanches f_begun f_climbed f_seed a_huts a_known a_levels a_snow a_open lf_huts lf_singers lf_villages lf_dams lf_echoes lf_deep lf_slide la_heights la_ladders la_minutes la_echoFrom la_echoTo la_homes la_talls la_known vf_deeds va_kinds va_firsts va_seconds U.heap ∧ zK E U)) (zQi (S := (Int32) × (Nat → Int32)) (fun r u => post r u.1 u.2) (fun u H => wnW E qn ql qv u.1 f_avalanches f_begun f_climbed f_seed u.2 a_known a_levels a_snow a_open lf_huts lf_singers lf_villages lf_dams lf_echoes lf_deep lf_slide la_heights la_ladders la_minutes la_echoFrom la_echoTo la_homes la_talls la_known vf_deeds va_kinds va_firsts va_seconds H) (wnA qn ql qv)) 0 0 (wnA qn ql qv) := by
  refine Met.ofW (cc := cX3_walk) (maxL := 6) (ret := (some .boolean)) (by decide) rfl ?_
  intro p e s m args below meth c s₁ B hml hv
  obtain ⟨rfl, hM, hK⟩ := hv
  have zc := zc_of B hml
  have hl := lv_entry ([.ref qn, .ref ql, .int x2, .int x3]) (n := 6) (Nat.le_of_ble_eq_true rfl)
  rw [lg_entry_eq]
  generalize (lg_sl ([.ref qn, .ref ql, .int x2, .int x3]) ++ List.replicate (6 - (lg_sl ([.ref qn, .ref ql, .int x2, .int x3])).length) Slot.unset).toArray = ls at hl ⊢
  have hl : lv_has ls 6 [(0, .ref qn), (1, .ref ql), (2, .int x2), (3, .int x3)] := hl
  exact t_wn_X3_walk_6_0 zc hK hM va_S.rf (lv_sub hl [0, 1, 2, 3] rfl) hw
-- wn_X3_act_6
abbrev rm_wn_X3_act_6 : Room := { frames := 3, cells := 0, slots := 0, locals := 73 }
def q_wn_X3_act_6_0 (f_minute : Int32) (f_avalanches : Int32) (f_begun : Int32) (f_climbed : Int32) (a_huts : Nat → Int32) (a_known : Nat → Int32) (a_levels : Nat → Int32) (a_snow : Nat → Int32) (lf_huts : Int32) (lf_singers : Int32) (lf_dams : Int32) (lf_echoes : Int32) (lf_deep : Int32) (la_heights : Nat → Int32) (la_ladders : Nat → Int32) (la_minutes : Nat → Int32) (la_echoFrom : Nat → Int32) (la_echoTo : Nat → Int32) (la_talls : Nat → Int32) (x2 : Int32) (x3 : Int32) (x4 : Int32) (post : Int32 → (Int32) → (Int32) → (Int32) → (Int32) → (Nat → Int32) → (Nat → Int32) → (Nat → Int32) → (Nat → Int32) → Prop) : Prop :=
  q_wl_X2_hasSinger_0 lf_singers x3 (fun r_1 => (¬ r_1 = 0 → ((x2.toInt < 3 ∨ 5 < x2.toInt → (q_wn_X3_raise_6_0 f_avalanches f_begun f_climbed a_huts a_known a_levels a_snow lf_singers lf_dams lf_echoes la_heights la_ladders la_echoFrom la_echoTo la_talls x2 x3 x4 (fun r_2 f_avalanches_1 f_begun_1 a_known_1 a_levels_1 a_snow_1 => narrow .boolean (.int r_2) = .int r_2 ∧ post r_2 f_minute f_avalanches_1 f_begun_1 f_climbed a_huts a_known_1 a_levels_1 a_snow_1))) ∧ (x2 = (3 : Int32) → (q_wn_X3_walk_6_0 f_minute f_climbed a_huts a_snow lf_huts lf_deep la_minutes x3 x4 (fun r_3 f_minute_1 a_huts_1 => narrow .boolean (.int r_3) = .int r_3 ∧ post r_3 f_minute_1 f_avalanches f_begun f_climbed a_huts_1 a_known a_levels a_snow))) ∧ (x2 = (4 : Int32) → (q_wn_X3_climb_6_0 f_climbed a_huts la_ladders x3 (fun r_4 f_climbed_1 => narrow .boolean (.int r_4) = .int r_4 ∧ post r_4 f_minute f_avalanches f_begun f_climbed_1 a_huts a_known a_levels a_snow))) ∧ (x2 = (5 : Int32) → (q_wn_X3_descend_0 f_climbed x3 (fun r_5 f_climbed_2 => narrow .boolean (.int r_5) = .int r_5 ∧ post r_5 f_minute f_avalanches f_begun f_climbed_2 a_huts a_known a_levels a_snow))))) ∧ (r_1 = 0 → (post (0 : Int32) f_minute f_avalanches f_begun f_climbed a_huts a_known a_levels a_snow)))
set_option maxRecDepth 20000 in
theorem t_wn_X3_act_6_0 {p : Program} {l : Launch} {e : Env} {s : State} {m : MethodId} {args : Array Value} {below : List Frame} {meth : Method} {c : Code} {E : zE} {qn ql qv : Nat} {f_minute : Int32} {f_avalanches : Int32} {f_begun : Int32} {f_climbed : Int32} {f_seed : Int32} {a_huts : Nat → Int32} {a_known : Nat → Int32} {a_levels : Nat → Int32} {a_snow : Nat → Int32} {a_open : Nat → Int32} {lf_huts : Int32} {lf_singers : Int32} {lf_villages : Int32} {lf_dams : Int32} {lf_echoes : Int32} {lf_deep : Int32} {lf_slide : Int32} {la_heights : Nat → Int32} {la_ladders : Nat → Int32} {la_minutes : Nat → Int32} {la_echoFrom : Nat → Int32} {la_echoTo : Nat → Int32} {la_homes : Nat → Int32} {la_talls : Nat → Int32} {la_known : Nat → Int32} {vf_deeds : Int32} {va_kinds : Nat → Int32} {va_firsts : Nat → Int32} {va_seconds : Nat → Int32} {post : Int32 → (Int32) → (Int32) → (Int32) → (Int32) → (Nat → Int32) → (Nat → Int32) → (Nat → Int32) → (Nat → Int32) → Prop} {x2 : Int32} {x3 : Int32} {x4 : Int32} {ls : Array Slot} {H : Heap} {locs : List Loc}
    (zc : zC p s m args meth c cX3_act 5 RX3 (some .boolean))
    (hK : zK E s)
    (hM : wnW E qn ql qv f_minute f_avalanches f_begun f_climbed f_seed a_huts a_known a_levels a_snow a_open lf_huts lf_singers lf_villages lf_dams lf_echoes lf_deep lf_slide la_heights la_ladders la_minutes la_echoFrom la_echoTo la_homes la_talls la_known vf_deeds va_kinds va_firsts va_seconds H)
    (hS : va_S (wnA qn ql qv) s.heap H locs)
    (hl : lv_has ls 5 [(0, .ref qn), (1, .ref ql), (2, .int x2), (3, .int x3), (4, .int x4)])
    (hw : q_wn_X3_act_6_0 f_minute f_avalanches f_begun f_climbed a_huts a_known a_levels a_snow lf_huts lf_singers lf_dams lf_echoes lf_deep la_heights la_ladders la_minutes la_echoFrom la_echoTo la_talls x2 x3 x4 post) :
    W p l e rm_wn_X3_act_6 s m args below meth c H locs 0 0 (MQ below (zQi (S := (Int32) × (Int32) × (Int32) × (Int32) × (Nat → Int32) × (Nat → Int32) × (Nat → Int32) × (Nat → Int32)) (fun r u => post r u.1 u.2.1 u.2.2.1 u.2.2.2.1 u.2.2.2.2.1 u.2.2.2.2.2.1 u.2.2.2.2.2.2.1 u.2.2.2.2.2.2.2) (fun u H => wnW E qn ql qv u.1 u.2.1 u.2.2.1 u.2.2.2.1 f_seed u.2.2.2.2.1 u.2.2.2.2.2.1 u.2.2.2.2.2.2.1 u.2.2.2.2.2.2.2 a_open lf_huts lf_singers lf_villages lf_dams lf_echoes lf_deep lf_slide la_heights la_ladders la_minutes la_echoFrom la_echoTo la_homes la_talls la_known vf_deeds va_kinds va_firsts va_seconds H) (wnA qn ql qv)) args s 0 0 (wnA qn ql qv)) (F0 m 0 ls []) := by
  have hx := zc.1
  have hb := zc.2.1
  refine lv_aload_n hx hb dX3_act_0 rfl (lv_at hl 1 rfl) ?_
  refine lv_iload_n hx hb dX3_act_1 rfl (lv_at hl 3 rfl) ?_
  refine zV_i [.int x3] [] zc ky_X2_hasSinger kz_X2_hasSinger km_3_97 (c_wl_X2_hasSinger l hw) (wlPreV0 hK (pj_wn_wl_6 hM)) rfl rfl hl.1 (Nat.le_of_ble_eq_true rfl) ⟨rfl, rfl⟩ ⟨Nat.le_of_ble_eq_true rfl, Nat.le_of_ble_eq_true rfl⟩ ⟨(Nat.zero_le _), (Nat.zero_le _)⟩ dX3_act_2 (fun r_1 hw => ?_)
  refine lv_if_ne (tgt := 10) hx hb dX3_act_5 (by decide) (fun hc => ?_) (fun hc => ?_)
  · have hw := hw.1 hc
    refine lv_iload_n hx hb dX3_act_10 rfl (lv_at hl 2 rfl) ?_
    by_cases hc : x2.toInt < 3 ∨ 5 < x2.toInt
    · have hw := hw.1 hc
      refine lv_tableOut (tgt := 58) hx hb dX3_act_11 hc (by decide) ?_
      refine lv_aload_n hx hb dX3_act_58 rfl (lv_at hl 0 rfl) ?_
      refine lv_aload_n hx hb dX3_act_59 rfl (lv_at hl 1 rfl) ?_
      refine lv_iload_n hx hb dX3_act_60 rfl (lv_at hl 2 rfl) ?_
      refine lv_iload_n hx hb dX3_act_61 rfl (lv_at hl 3 rfl) ?_
      refine lv_iload hx hb dX3_act_62 (lv_at hl 4 rfl) ?_
      refine zVw_i [.ref ql, .int x2, .int x3, .int x4] [] zc ky_X3_raise kz_X3_raise km_3_112 (c_wn_X3_raise_6 l hw) (wnPreV0 hK hM) hS rfl rfl hl.1 (Nat.le_of_ble_eq_true rfl) ⟨rfl, rfl⟩ ⟨Nat.le_of_ble_eq_true rfl, Nat.le_of_ble_eq_true rfl⟩ ⟨(Nat.zero_le _), (Nat.zero_le _)⟩ dX3_act_64 (fun r_2 u H locs hw hM hS => ?_)
      obtain ⟨f_avalanches_1, f_begun_1, a_known_1, a_levels_1, a_snow_1⟩ := u
      exact zret_zw ⟨f_minute, f_avalanches_1, f_begun_1, f_climbed, a_huts, a_known_1, a_levels_1, a_snow_1⟩ zc hS hw.1 hw.2 hM dX3_act_67
    have hin := zsw hc
    by_cases hc0 : x2 = (3 : Int32)
    · have hw := hw.2.1 hc0
      refine lv_tableIn (tgt := 36) hx hb dX3_act_11 (by rw [hc0]; decide) (by rw [hc0]; decide) (by rw [hc0]; rfl) (by decide) ?_
      refine lv_aload_n hx hb dX3_act_36 rfl (lv_at hl 0 rfl) ?_
      refine lv_aload_n hx hb dX3_act_37 rfl (lv_at hl 1 rfl) ?_
      refine lv_iload_n hx hb dX3_act_38 rfl (lv_at hl 3 rfl) ?_
      refine lv_iload hx hb dX3_act_39 (lv_at hl 4 rfl) ?_
      refine zVw_i [.ref ql, .int x3, .int x4] [] zc ky_X3_walk kz_X3_walk km_3_101 (c_wn_X3_walk_6 l hw) (wnPreV0 hK hM) hS rfl rfl hl.1 (Nat.le_of_ble_eq_true rfl) ⟨rfl, rfl⟩ ⟨Nat.le_of_ble_eq_true rfl, Nat.le_of_ble_eq_true rfl⟩ ⟨(Nat.zero_le _), (Nat.zero_le _)⟩ dX3_act_41 (fun r_3 u H locs hw hM hS => ?_)
      obtain ⟨f_minute_1, a_huts_1⟩ := u
      exact zret_zw ⟨f_minute_1, f_avalanches, f_begun, f_climbed, a_huts_1, a_known, a_levels, a_snow⟩ zc hS hw.1 hw.2 hM dX3_act_44
    by_cases hc1 : x2 = (4 : Int32)
    · have hw := hw.2.2.1 hc1
      refine lv_tableIn (tgt := 45) hx hb dX3_act_11 (by rw [hc1]; decide) (by rw [hc1]; decide) (by rw [hc1]; rfl) (by decide) ?_
      refine lv_aload_n hx hb dX3_act_45 rfl (lv_at hl 0 rfl) ?_
      refine lv_aload_n hx hb dX3_act_46 rfl (lv_at hl 1 rfl) ?_
      refine lv_iload_n hx hb dX3_act_47 rfl (lv_at hl 3 rfl) ?_
      refine zVw_i [.ref ql, .int x3] [] zc ky_X3_climb kz_X3_climb km_3_105 (c_wn_X3_climb_6 l hw) (wnPreV0 hK hM) hS rfl rfl hl.1 (Nat.le_of_ble_eq_true rfl) ⟨rfl, rfl⟩ ⟨Nat.le_of_ble_eq_true rfl, Nat.le_of_ble_eq_true rfl⟩ ⟨(Nat.zero_le _), (Nat.zero_le _)⟩ dX3_act_48 (fun r_4 f_climbed_1 H locs hw hM hS => ?_)
      exact zret_zw ⟨f_minute, f_avalanches, f_begun, f_climbed_1, a_huts, a_known, a_levels, a_snow⟩ zc hS hw.1 hw.2 hM dX3_act_51
    by_cases hc2 : x2 = (5 : Int32)
    · have hw := hw.2.2.2 hc2
      refine lv_tableIn (tgt := 52) hx hb dX3_act_11 (by rw [hc2]; decide) (by rw [hc2]; decide) (by rw [hc2]; rfl) (by decide) ?_
      refine lv_aload_n hx hb dX3_act_52 rfl (lv_at hl 0 rfl) ?_
      refine lv_iload_n hx hb dX3_act_53 rfl (lv_at hl 3 rfl) ?_
      refine zVw_i [.int x3] [] zc ky_X3_descend kz_X3_descend km_3_109 (c_wn_X3_descend l hw) (wnPreV0 hK hM) hS rfl rfl hl.1 (Nat.le_of_ble_eq_true rfl) ⟨rfl, rfl⟩ ⟨Nat.le_of_ble_eq_true rfl, Nat.le_of_ble_eq_true rfl⟩ ⟨(Nat.zero_le _), (Nat.zero_le _)⟩ dX3_act_54 (fun r_5 f_climbed_2 H locs hw hM hS => ?_)
      exact zret_zw ⟨f_minute, f_avalanches, f_begun, f_climbed_2, a_huts, a_known, a_levels, a_snow⟩ zc hS hw.1 hw.2 hM dX3_act_57
    exact absurd hin (by have h0 := zne hc0; have h1 := zne hc1; have h2 := zne hc2; simp at *; omega)
  · have hw := hw.2 hc
    refine lv_iconst (v := (0 : Int32)) hx hb dX3_act_8 (by decide) ?_
    exact zret_zw ⟨f_minute, f_avalanches, f_begun, f_climbed, a_huts, a_known, a_levels, a_snow⟩ zc hS rfl hw hM dX3_act_9
set_option maxRecDepth 20000 in
theorem c_wn_X3_act_6 (l : Launch) {E : zE} {qn ql qv : Nat} {f_minute : Int32} {f_avalanches : Int32} {f_begun : Int32} {f_climbed : Int32} {f_seed : Int32} {a_huts : Nat → Int32} {a_known : Nat → Int32} {a_levels : Nat → Int32} {a_snow : Nat → Int32} {a_open : Nat → Int32} {lf_huts : Int32} {lf_singers : Int32} {lf_villages : Int32} {lf_dams : Int32} {lf_echoes : Int32} {lf_deep : Int32} {lf_slide : Int32} {la_heights : Nat → Int32} {la_ladders : Nat → Int32} {la_minutes : Nat → Int32} {la_echoFrom : Nat → Int32} {la_echoTo : Nat → Int32} {la_homes : Nat → Int32} {la_talls : Nat → Int32} {la_known : Nat → Int32} {vf_deeds : Int32} {va_kinds : Nat → Int32} {va_firsts : Nat → Int32} {va_seconds : Nat → Int32} {x2 : Int32} {x3 : Int32} {x4 : Int32} {post : Int32 → (Int32) → (Int32) → (Int32) → (Int32) → (Nat → Int32) → (Nat → Int32) → (Nat → Int32) → (Nat → Int32) → Prop} (hw : q_wn_X3_act_6_0 f_minute f_avalanches f_begun f_climbed a_huts a_known a_levels a_snow lf_huts lf_singers lf_dams lf_echoes lf_deep la_heights la_ladders la_minutes la_echoFrom la_echoTo la_talls x2 x3 x4 post) : Met l yX3_act (Cond.code yX3_act cX3_act 5 (some .boolean) :: zb) rm_wn_X3_act_6 (va_Pc [.ref qn, .ref ql, .int x2, .int x3, .int x4] (fun U => wnW E qn ql qv f_minute f_avalanches f_begun f_climbed f_seed a_huts a_known a_levels a_snow a_open lf_huts lf_singers lf_villages lf_dams lf_echoes lf_deep lf_slide la_heights la_ladders la_minutes la_echoFrom la_echoTo la_homes la_talls la_known vf_deeds va_kinds va_firsts va_seconds U.heap ∧ zK E U)) (zQi (S := (Int32) × (Int32) × (Int32) × (Int32) × (Nat → Int32) × (Nat → Int32) × (Nat → Int32) × (Nat → Int32)) (fun r u => post r u.1 u.2.1 u.2.2.1 u.2.2.2.1 u.2.2.2.2.1 u.2.2.2.2.2.1 u.2.2.2.2.2.2.1 u.2.2.2.2.2.2.2) (fun u H => wnW E qn ql qv u.1 u.2.1 u.2.2.1 u.2.2.2.1 f_seed u.2.2.2.2.1 u.2.2.2.2.2.1 u.2.2.2.2.2.2.1 u.2.2.2.2.2.2.2 a_open lf_huts lf_singers lf_villages lf_dams lf_echoes lf_deep lf_slide la_heights la_ladders la_minutes la_echoFrom la_echoTo la_homes la_talls la_known vf_deeds va_kinds va_firsts va_seconds H) (wnA qn ql qv)) 0 0 (wnA qn ql qv) := by
  refine Met.ofW (cc := cX3_act) (maxL := 5) (ret := (some .boolean)) (by decide) rfl ?_
  intro p e s m args below meth c s₁ B hml hv
  obtain ⟨rfl, hM, hK⟩ := hv
  have zc := zc_of B hml
  have hl := lv_entry ([.ref qn, .ref ql, .int x2, .int x3, .int x4]) (n := 5) (Nat.le_of_ble_eq_true rfl)
  rw [lg_entry_eq]
  generalize (lg_sl ([.ref qn, .ref ql, .int x2, .int x3, .int x4]) ++ List.replicate (5 - (lg_sl ([.ref qn, .ref ql, .int x2, .int x3, .int x4])).length) Slot.unset).toArray = ls at hl ⊢
  have hl : lv_has ls 5 [(0, .ref qn), (1, .ref ql), (2, .int x2), (3, .int x3), (4, .int x4)] := hl
  exact t_wn_X3_act_6_0 zc hK hM va_S.rf (lv_sub hl [0, 1, 2, 3, 4] rfl) hw
end
section
-- wn_X3_play_6_15
abbrev rm_wn_X3_play_6_15 : Room := { frames := 4, cells := 0, slots := 0, locals := 97 }
def q_wn_X3_play_6_15_8 (f_minute : Int32) (f_avalanches : Int32) (f_begun : Int32) (f_climbed : Int32) (a_huts : Nat → Int32) (a_known : Nat → Int32) (a_levels : Nat → Int32) (a_snow : Nat → Int32) (lf_huts : Int32) (lf_singers : Int32) (lf_dams : Int32) (lf_echoes : Int32) (lf_deep : Int32) (la_heights : Nat → Int32) (la_ladders : Nat → Int32) (la_minutes : Nat → Int32) (la_echoFrom : Nat → Int32) (la_echoTo : Nat → Int32) (la_homes : Nat → Int32) (la_talls : Nat → Int32) (la_known : Nat → Int32) (vf_deeds : Int32) (va_kinds : Nat → Int32) (va_firsts : Nat → Int32) (va_seconds : Nat → Int32) (x3 : Int32) (x4 : Int32) (post : Int32 → (Int32) → (Int32) → (Int32) → (Int32) → (Nat → Int32) → (Nat → Int32) → (Nat → Int32) → (Nat → Int32) → Prop) : Prop :=
  ∀ P8 : Int32 → (Int32) → (Int32) → (Int32) → (Int32) → (Nat → Int32) → (Nat → Int32) → (Nat → Int32) → (Nat → Int32) → Prop, (∀ (x4 : Int32) (f_minute : Int32) (f_avalanches : Int32) (f_begun : Int32) (f_climbed : Int32) (a_huts : Nat → Int32) (a_known : Nat → Int32) (a_levels : Nat → Int32) (a_snow : Nat → Int32), ((x3 ≤ x4 → (post x3 f_minute f_avalanches f_begun f_climbed a_huts a_known a_levels a_snow)) ∧ (¬ x3 ≤ x4 → ((vf_deeds ≤ x4 → (post x3 f_minute f_avalanches f_begun f_climbed a_huts a_known a_levels a_snow)) ∧ (¬ vf_deeds ≤ x4 → (vp_in x4 40 ∧ (vp_in x4 40 ∧ (vp_in x4 40 ∧ (q_wn_X3_act_6_0 f_minute f_avalanches f_begun f_climbed a_huts a_known a_levels a_snow lf_huts lf_singers lf_dams lf_echoes lf_deep la_heights la_ladders la_minutes la_echoFrom la_echoTo la_talls (va_kinds (Int32.toNatClampNeg x4)) (va_firsts (Int32.toNatClampNeg x4)) (va_seconds (Int32.toNatClampNeg x4)) (fun r_1 f_minute_1 f_avalanches_1 f_begun_1 f_climbed_1 a_huts_1 a_known_1 a_levels_1 a_snow_1 => (¬ r_1 = 0 → (∀ v_1 : Int32, v_1 = x4 + (1 : Int32) → (P8 v_1 f_minute_1 f_avalanches_1 f_begun_1 f_climbed_1 a_huts_1 a_known_1 a_levels_1 a_snow_1))) ∧ (r_1 = 0 → (post x4 f_minute_1 f_avalanches_1 f_begun_1 f_climbed_1 a_huts_1 a_known_1 a_levels_1 a_snow_1))))))))))) → P8 x4 f_minute f_avalanches f_begun f_climbed a_huts a_known a_levels a_snow) → P8 x4 f_minute f_avalanches f_begun f_climbed a_huts a_known a_levels a_snow
def q_wn_X3_play_6_15_0 (f_minute : Int32) (f_avalanches : Int32) (f_begun : Int32) (f_climbed : Int32) (a_huts : Nat → Int32) (a_known : Nat → Int32) (a_levels : Nat → Int32) (a_snow : Nat → Int32) (lf_huts : Int32) (lf_singers : Int32) (lf_dams : Int32) (lf_echoes : Int32) (lf_deep : Int32) (la_heights : Nat → Int32) (la_ladders : Nat → Int32) (la_minutes : Nat → Int32) (la_echoFrom : Nat → Int32) (la_echoTo : Nat → Int32) (la_homes : Nat → Int32) (la_talls : Nat → Int32) (la_known : Nat → Int32) (vf_deeds : Int32) (va_kinds : Nat → Int32) (va_firsts : Nat → Int32) (va_seconds : Nat → Int32) (x3 : Int32) (post : Int32 → (Int32) → (Int32) → (Int32) → (Int32) → (Nat → Int32) → (Nat → Int32) → (Nat → Int32) → (Nat → Int32) → Prop) : Prop :=
  q_wn_X3_start_6_0 f_minute f_avalanches f_begun f_climbed a_huts a_known a_levels a_snow la_homes la_known (fun f_minute_1 f_avalanches_1 f_begun_1 f_climbed_1 a_huts_1 a_known_1 a_levels_1 a_snow_1 => q_wn_X3_play_6_15_8 f_minute_1 f_avalanches_1 f_begun_1 f_climbed_1 a_huts_1 a_known_1 a_levels_1 a_snow_1 lf_huts lf_singers lf_dams lf_echoes lf_deep la_heights la_ladders la_minutes la_echoFrom la_echoTo la_homes la_talls la_known vf_deeds va_kinds va_firsts va_seconds x3 (0 : Int32) post)
set_option maxRecDepth 20000 in
theorem t_wn_X3_play_6_15_8 {p : Program} {l : Launch} {e : Env} {s : State} {m : MethodId} {args : Array Value} {below : List Frame} {meth : Method} {c : Code} {E : zE} {qn ql qv : Nat} {f_minute : Int32} {f_avalanches : Int32} {f_begun : Int32} {f_climbed : Int32} {f_seed : Int32} {a_huts : Nat → Int32} {a_known : Nat → Int32} {a_levels : Nat → Int32} {a_snow : Nat → Int32} {a_open : Nat → Int32} {lf_huts : Int32} {lf_singers : Int32} {lf_villages : Int32} {lf_dams : Int32} {lf_echoes : Int32} {lf_deep : Int32} {lf_slide : Int32} {la_heights : Nat → Int32} {la_ladders : Nat → Int32} {la_minutes : Nat → Int32} {la_echoFrom : Nat → Int32} {la_echoTo : Nat → Int32} {la_homes : Nat → Int32} {la_talls : Nat → Int32} {la_known : Nat → Int32} {vf_deeds : Int32} {va_kinds : Nat → Int32} {va_firsts : Nat → Int32} {va_seconds : Nat → Int32} {post : Int32 → (Int32) → (Int32) → (Int32) → (Int32) → (Nat → Int32) → (Nat → Int32) → (Nat → Int32) → (Nat → Int32) → Prop} {x3 : Int32} {x4 : Int32} {ls : Array Slot} {H : Heap} {locs : List Loc}
    (zc : zC p s m args meth c cX3_play 5 RX3 (some .int))
    (hK : zK E s)
    (hM : wnW E qn ql qv f_minute f_avalanches f_begun f_climbed f_seed a_huts a_known a_levels a_snow a_open lf_huts lf_singers lf_villages lf_dams lf_echoes lf_deep lf_slide la_heights la_ladders la_minutes la_echoFrom la_echoTo la_homes la_talls la_known vf_deeds va_kinds va_firsts va_seconds H)
    (hS : va_S (wnA qn ql qv) s.heap H locs)
    (hl : lv_has ls 5 [(0, .ref qn), (1, .ref ql), (2, .ref qv), (3, .int x3), (4, .int x4)])
    (hw : q_wn_X3_play_6_15_8 f_minute f_avalanches f_begun f_climbed a_huts a_known a_levels a_snow lf_huts lf_singers lf_dams lf_echoes lf_deep la_heights la_ladders la_minutes la_echoFrom la_echoTo la_homes la_talls la_known vf_deeds va_kinds va_firsts va_seconds x3 x4 post) :
    W p l e rm_wn_X3_play_6_15 s m args below meth c H locs 0 0 (MQ below (zQi (S := (Int32) × (Int32) × (Int32) × (Int32) × (Nat → Int32) × (Nat → Int32) × (Nat → Int32) × (Nat → Int32)) (fun r u => post r u.1 u.2.1 u.2.2.1 u.2.2.2.1 u.2.2.2.2.1 u.2.2.2.2.2.1 u.2.2.2.2.2.2.1 u.2.2.2.2.2.2.2) (fun u H => wnW E qn ql qv u.1 u.2.1 u.2.2.1 u.2.2.2.1 f_seed u.2.2.2.2.1 u.2.2.2.2.2.1 u.2.2.2.2.2.2.1 u.2.2.2.2.2.2.2 a_open lf_huts lf_singers lf_villages lf_dams lf_echoes lf_deep lf_slide la_heights la_ladders la_minutes la_echoFrom la_echoTo la_homes la_talls la_known vf_deeds va_kinds va_firsts va_seconds H) (wnA qn ql qv)) args s 0 0 (wnA qn ql qv)) (F0 m 8 ls []) := by
  have hx := zc.1
  have hb := zc.2.1
  refine hw (fun x4 f_minute f_avalanches f_begun f_climbed a_huts a_known a_levels a_snow => ∀ (H : Heap) (locs : List Loc) (ls : Array Slot), lv_has ls 5 [(0, .ref qn), (1, .ref ql), (2, .ref qv), (3, .int x3), (4, .int x4)] → wnW E qn ql qv f_minute f_avalanches f_begun f_climbed f_seed a_huts a_known a_levels a_snow a_open lf_huts lf_singers lf_villages lf_dams lf_echoes lf_deep lf_slide la_heights la_ladders la_minutes la_echoFrom la_echoTo la_homes la_talls la_known vf_deeds va_kinds va_firsts va_seconds H → va_S (wnA qn ql qv) s.heap H locs → W p l e rm_wn_X3_play_6_15 s m args below meth c H locs 0 0 (MQ below (zQi (S := (Int32) × (Int32) × (Int32) × (Int32) × (Nat → Int32) × (Nat → Int32) × (Nat → Int32) × (Nat → Int32)) (fun r u => post r u.1 u.2.1 u.2.2.1 u.2.2.2.1 u.2.2.2.2.1 u.2.2.2.2.2.1 u.2.2.2.2.2.2.1 u.2.2.2.2.2.2.2) (fun u H => wnW E qn ql qv u.1 u.2.1 u.2.2.1 u.2.2.2.1 f_seed u.2.2.2.2.1 u.2.2.2.2.2.1 u.2.2.2.2.2.2.1 u.2.2.2.2.2.2.2 a_open lf_huts lf_singers lf_villages lf_dams lf_echoes lf_deep lf_slide la_heights la_ladders la_minutes la_echoFrom la_echoTo la_homes la_talls la_known vf_deeds va_kinds va_firsts va_seconds H) (wnA qn ql qv)) args s 0 0 (wnA qn ql qv)) (F0 m 8 ls [])) ?_ _ _ _ hl hM hS
  intro x4 f_minute f_avalanches f_begun f_climbed a_huts a_known a_levels a_snow hw H locs ls hl hM hS
  refine lv_iload hx hb dX3_play_8 (lv_at hl 4 rfl) ?_
  refine lv_iload_n hx hb dX3_play_10 rfl (lv_at hl 3 rfl) ?_
  refine lv_icmp_ge (tgt := 61) hx hb dX3_play_11 (by decide) (fun hc => ?_) (fun hc => ?_)
  · have hw := hw.1 hc
    refine lv_iload_n hx hb dX3_play_61 rfl (lv_at hl 3 rfl) ?_
    exact zret_iw ⟨f_minute, f_avalanches, f_begun, f_climbed, a_huts, a_known, a_levels, a_snow⟩ zc hS hw hM dX3_play_62
  · have hw := hw.2 hc
    refine lv_iload hx hb dX3_play_14 (lv_at hl 4 rfl) ?_
    refine lv_aload_n hx hb dX3_play_16 rfl (lv_at hl 2 rfl) ?_
    refine wng_3_31_15 zc hK hM dX3_play_17 ?_
    refine lv_icmp_ge (tgt := 61) hx hb dX3_play_20 (by decide) (fun hc => ?_) (fun hc => ?_)
    · have hw := hw.1 hc
      refine lv_iload_n hx hb dX3_play_61 rfl (lv_at hl 3 rfl) ?_
      exact zret_iw ⟨f_minute, f_avalanches, f_begun, f_climbed, a_huts, a_known, a_levels, a_snow⟩ zc hS hw hM dX3_play_62
    · have hw := hw.2 hc
      refine lv_aload_n hx hb dX3_play_23 rfl (lv_at hl 0 rfl) ?_
      refine lv_aload_n hx hb dX3_play_24 rfl (lv_at hl 1 rfl) ?_
      refine lv_aload_n hx hb dX3_play_25 rfl (lv_at hl 2 rfl) ?_
      refine wng_3_37_15 zc hK hM dX3_play_26 ?_
      refine lv_iload hx hb dX3_play_29 (lv_at hl 4 rfl) ?_
      refine wnld_16 zc hK hM hw.1 dX3_play_31 ?_
      have hw := hw.2
      refine lv_aload_n hx hb dX3_play_32 rfl (lv_at hl 2 rfl) ?_
      refine wng_3_40_15 zc hK hM dX3_play_33 ?_
      refine lv_iload hx hb dX3_play_36 (lv_at hl 4 rfl) ?_
      refine wnld_17 zc hK hM hw.1 dX3_play_38 ?_
      have hw := hw.2
      refine lv_aload_n hx hb dX3_play_39 rfl (lv_at hl 2 rfl) ?_
      refine wng_3_43_15 zc hK hM dX3_play_40 ?_
      refine lv_iload hx hb dX3_play_43 (lv_at hl 4 rfl) ?_
      refine wnld_18 zc hK hM hw.1 dX3_play_45 ?_
      have hw := hw.2
      refine zVw_i [.ref ql, .int (va_kinds (Int32.toNatClampNeg x4)), .int (va_firsts (Int32.toNatClampNeg x4)), .int (va_seconds (Int32.toNatClampNeg x4))] [] zc ky_X3_act kz_X3_act km_3_46 (c_wn_X3_act_6 l hw) (wnPreV0 hK hM) hS rfl rfl hl.1 (Nat.le_of_ble_eq_true rfl) ⟨rfl, rfl⟩ ⟨Nat.le_of_ble_eq_true rfl, Nat.le_of_ble_eq_true rfl⟩ ⟨(Nat.zero_le _), (Nat.zero_le _)⟩ dX3_play_46 (fun r_1 u H locs hw hM hS => ?_)
      obtain ⟨f_minute_1, f_avalanches_1, f_begun_1, f_climbed_1, a_huts_1, a_known_1, a_levels_1, a_snow_1⟩ := u
      refine lv_if_ne (tgt := 55) hx hb dX3_play_49 (by decide) (fun hc => ?_) (fun hc => ?_)
      · have hw := hw.1 hc
        obtain ⟨v_1, ev_1⟩ : ∃ y : Int32, y = x4 + (1 : Int32) := ⟨_, rfl⟩
        have hw := hw v_1 ev_1
        refine lv_iinc (v := v_1) (k := 4) (lv' := [(4, .int v_1), (0, .ref qn), (1, .ref ql), (2, .ref qv), (3, .int x3)]) hx hb dX3_play_55 hl rfl (by rw [ev_1]; rfl) (by decide) rfl (fun ls hl => ?_)
        refine lv_goto (tgt := 8) hx hb dX3_play_58 (by decide) ?_
        exact hw _ _ _ (lv_sub hl [1, 2, 3, 4, 0] rfl) hM hS
      · have hw := hw.2 hc
        refine lv_iload hx hb dX3_play_52 (lv_at hl 4 rfl) ?_
        exact zret_iw ⟨f_minute_1, f_avalanches_1, f_begun_1, f_climbed_1, a_huts_1, a_known_1, a_levels_1, a_snow_1⟩ zc hS hw hM dX3_play_54
set_option maxRecDepth 20000 in
theorem t_wn_X3_play_6_15_0 {p : Program} {l : Launch} {e : Env} {s : State} {m : MethodId} {args : Array Value} {below : List Frame} {meth : Method} {c : Code} {E : zE} {qn ql qv : Nat} {f_minute : Int32} {f_avalanches : Int32} {f_begun : Int32} {f_climbed : Int32} {f_seed : Int32} {a_huts : Nat → Int32} {a_known : Nat → Int32} {a_levels : Nat → Int32} {a_snow : Nat → Int32} {a_open : Nat → Int32} {lf_huts : Int32} {lf_singers : Int32} {lf_villages : Int32} {lf_dams : Int32} {lf_echoes : Int32} {lf_deep : Int32} {lf_slide : Int32} {la_heights : Nat → Int32} {la_ladders : Nat → Int32} {la_minutes : Nat → Int32} {la_echoFrom : Nat → Int32} {la_echoTo : Nat → Int32} {la_homes : Nat → Int32} {la_talls : Nat → Int32} {la_known : Nat → Int32} {vf_deeds : Int32} {va_kinds : Nat → Int32} {va_firsts : Nat → Int32} {va_seconds : Nat → Int32} {post : Int32 → (Int32) → (Int32) → (Int32) → (Int32) → (Nat → Int32) → (Nat → Int32) → (Nat → Int32) → (Nat → Int32) → Prop} {x3 : Int32} {ls : Array Slot} {H : Heap} {locs : List Loc}
    (zc : zC p s m args meth c cX3_play 5 RX3 (some .int))
    (hK : zK E s)
    (hM : wnW E qn ql qv f_minute f_avalanches f_begun f_climbed f_seed a_huts a_known a_levels a_snow a_open lf_huts lf_singers lf_villages lf_dams lf_echoes lf_deep lf_slide la_heights la_ladders la_minutes la_echoFrom la_echoTo la_homes la_talls la_known vf_deeds va_kinds va_firsts va_seconds H)
    (hS : va_S (wnA qn ql qv) s.heap H locs)
    (hl : lv_has ls 5 [(0, .ref qn), (1, .ref ql), (2, .ref qv), (3, .int x3)])
    (hw : q_wn_X3_play_6_15_0 f_minute f_avalanches f_begun f_climbed a_huts a_known a_levels a_snow lf_huts lf_singers lf_dams lf_echoes lf_deep la_heights la_ladders la_minutes la_echoFrom la_echoTo la_homes la_talls la_known vf_deeds va_kinds va_firsts va_seconds x3 post) :
    W p l e rm_wn_X3_play_6_15 s m args below meth c H locs 0 0 (MQ below (zQi (S := (Int32) × (Int32) × (Int32) × (Int32) × (Nat → Int32) × (Nat → Int32) × (Nat → Int32) × (Nat → Int32)) (fun r u => post r u.1 u.2.1 u.2.2.1 u.2.2.2.1 u.2.2.2.2.1 u.2.2.2.2.2.1 u.2.2.2.2.2.2.1 u.2.2.2.2.2.2.2) (fun u H => wnW E qn ql qv u.1 u.2.1 u.2.2.1 u.2.2.2.1 f_seed u.2.2.2.2.1 u.2.2.2.2.2.1 u.2.2.2.2.2.2.1 u.2.2.2.2.2.2.2 a_open lf_huts lf_singers lf_villages lf_dams lf_echoes lf_deep lf_slide la_heights la_ladders la_minutes la_echoFrom la_echoTo la_homes la_talls la_known vf_deeds va_kinds va_firsts va_seconds H) (wnA qn ql qv)) args s 0 0 (wnA qn ql qv)) (F0 m 0 ls []) := by
  have hx := zc.1
  have hb := zc.2.1
  refine lv_aload_n hx hb dX3_play_0 rfl (lv_at hl 0 rfl) ?_
  refine lv_aload_n hx hb dX3_play_1 rfl (lv_at hl 1 rfl) ?_
  refine zVw_v [.ref ql] [] zc ky_X3_start kz_X3_start km_3_27 (c_wn_X3_start_6 l hw) (wnPreV0 hK hM) hS rfl rfl hl.1 (Nat.le_of_ble_eq_true rfl) ⟨rfl, rfl⟩ ⟨Nat.le_of_ble_eq_true rfl, Nat.le_of_ble_eq_true rfl⟩ ⟨(Nat.zero_le _), (Nat.zero_le _)⟩ dX3_play_2 (fun u H locs hw hM hS => ?_)
  obtain ⟨f_minute_1, f_avalanches_1, f_begun_1, f_climbed_1, a_huts_1, a_known_1, a_levels_1, a_snow_1⟩ := u
  refine lv_iconst (v := (0 : Int32)) hx hb dX3_play_5 (by decide) ?_
  refine lv_istore (lv' := [(4, .int (0 : Int32)), (0, .ref qn), (1, .ref ql), (2, .ref qv), (3, .int x3)]) hx hb dX3_play_6 hl (by decide) rfl (fun ls hl => ?_)
  exact t_wn_X3_play_6_15_8 zc hK hM hS  (lv_sub hl [1, 2, 3, 4, 0] rfl) hw
set_option maxRecDepth 20000 in
theorem c_wn_X3_play_6_15 (l : Launch) {E : zE} {qn ql qv : Nat} {f_minute : Int32} {f_avalanches : Int32} {f_begun : Int32} {f_climbed : Int32} {f_seed : Int32} {a_huts : Nat → Int32} {a_known : Nat → Int32} {a_levels : Nat → Int32} {a_snow : Nat → Int32} {a_open : Nat → Int32} {lf_huts : Int32} {lf_singers : Int32} {lf_villages : Int32} {lf_dams : Int32} {lf_echoes : Int32} {lf_deep : Int32} {lf_slide : Int32} {la_heights : Nat → Int32} {la_ladders : Nat → Int32} {la_minutes : Nat → Int32} {la_echoFrom : Nat → Int32} {la_echoTo : Nat → Int32} {la_homes : Nat → Int32} {la_talls : Nat → Int32} {la_known : Nat → Int32} {vf_deeds : Int32} {va_kinds : Nat → Int32} {va_firsts : Nat → Int32} {va_seconds : Nat → Int32} {x3 : Int32} {post : Int32 → (Int32) → (Int32) → (Int32) → (Int32) → (Nat → Int32) → (Nat → Int32) → (Nat → Int32) → (Nat → Int32) → Prop} (hw : q_wn_X3_play_6_15_0 f_minute f_avalanches f_begun f_climbed a_huts a_known a_levels a_snow lf_huts lf_singers lf_dams lf_echoes lf_deep la_heights la_ladders la_minutes la_echoFrom la_echoTo la_homes la_talls la_known vf_deeds va_kinds va_firsts va_seconds x3 post) : Met l yX3_play (Cond.code yX3_play cX3_play 5 (some .int) :: zb) rm_wn_X3_play_6_15 (va_Pc [.ref qn, .ref ql, .ref qv, .int x3] (fun U => wnW E qn ql qv f_minute f_avalanches f_begun f_climbed f_seed a_huts a_known a_levels a_snow a_open lf_huts lf_singers lf_villages lf_dams lf_echoes lf_deep lf_slide la_heights la_ladders la_minutes la_echoFrom la_echoTo la_homes la_talls la_known vf_deeds va_kinds va_firsts va_seconds U.heap ∧ zK E U)) (zQi (S := (Int32) × (Int32) × (Int32) × (Int32) × (Nat → Int32) × (Nat → Int32) × (Nat → Int32) × (Nat → Int32)) (fun r u => post r u.1 u.2.1 u.2.2.1 u.2.2.2.1 u.2.2.2.2.1 u.2.2.2.2.2.1 u.2.2.2.2.2.2.1 u.2.2.2.2.2.2.2) (fun u H => wnW E qn ql qv u.1 u.2.1 u.2.2.1 u.2.2.2.1 f_seed u.2.2.2.2.1 u.2.2.2.2.2.1 u.2.2.2.2.2.2.1 u.2.2.2.2.2.2.2 a_open lf_huts lf_singers lf_villages lf_dams lf_echoes lf_deep lf_slide la_heights la_ladders la_minutes la_echoFrom la_echoTo la_homes la_talls la_known vf_deeds va_kinds va_firsts va_seconds H) (wnA qn ql qv)) 0 0 (wnA qn ql qv) := by
  refine Met.ofW (cc := cX3_play) (maxL := 5) (ret := (some .int)) (by decide) rfl ?_
  intro p e s m args below meth c s₁ B hml hv
  obtain ⟨rfl, hM, hK⟩ := hv
  have zc := zc_of B hml
  have hl := lv_entry ([.ref qn, .ref ql, .ref qv, .int x3]) (n := 5) (Nat.le_of_ble_eq_true rfl)
  rw [lg_entry_eq]
  generalize (lg_sl ([.ref qn, .ref ql, .ref qv, .int x3]) ++ List.replicate (5 - (lg_sl ([.ref qn, .ref ql, .ref qv, .int x3])).length) Slot.unset).toArray = ls at hl ⊢
  have hl : lv_has ls 5 [(0, .ref qn), (1, .ref ql), (2, .ref qv), (3, .int x3)] := hl
  exact t_wn_X3_play_6_15_0 zc hK hM va_S.rf (lv_sub hl [0, 1, 2, 3] rfl) hw
-- wn_X3_below
abbrev rm_wn_X3_below : Room := { frames := 0, cells := 0, slots := 0, locals := 0 }
def q_wn_X3_below_0 (f_seed : Int32) (x1 : Int32) (post : Int32 → (Int32) → Prop) : Prop :=
  ∀ v_1 : Int32, v_1 = ((f_seed * (1103515245 : Int32)) + (12345 : Int32)) → ((x1 ≤ 0 → (post (0 : Int32) v_1)) ∧ (¬ x1 ≤ 0 → (¬ x1 = 0 ∧ (post ((Int32.toUInt32 v_1 >>> (Int32.toUInt32 (16 : Int32) &&& Int32.toUInt32 31)).toInt32 - (Int32.toUInt32 v_1 >>> (Int32.toUInt32 (16 : Int32) &&& Int32.toUInt32 31)).toInt32 / x1 * x1) v_1))))
set_option maxRecDepth 20000 in
theorem t_wn_X3_below_0 {p : Program} {l : Launch} {e : Env} {s : State} {m : MethodId} {args : Array Value} {below : List Frame} {meth : Method} {c : Code} {E : zE} {qn ql qv : Nat} {f_minute : Int32} {f_avalanches : Int32} {f_begun : Int32} {f_climbed : Int32} {f_seed : Int32} {a_huts : Nat → Int32} {a_known : Nat → Int32} {a_levels : Nat → Int32} {a_snow : Nat → Int32} {a_open : Nat → Int32} {lf_huts : Int32} {lf_singers : Int32} {lf_villages : Int32} {lf_dams : Int32} {lf_echoes : Int32} {lf_deep : Int32} {lf_slide : Int32} {la_heights : Nat → Int32} {la_ladders : Nat → Int32} {la_minutes : Nat → Int32} {la_echoFrom : Nat → Int32} {la_echoTo : Nat → Int32} {la_homes : Nat → Int32} {la_talls : Nat → Int32} {la_known : Nat → Int32} {vf_deeds : Int32} {va_kinds : Nat → Int32} {va_firsts : Nat → Int32} {va_seconds : Nat → Int32} {post : Int32 → (Int32) → Prop} {x1 : Int32} {ls : Array Slot} {H : Heap} {locs : List Loc}
    (zc : zC p s m args meth c cX3_below 2 RX3 (some .int))
    (hK : zK E s)
    (hM : wnW E qn ql qv f_minute f_avalanches f_begun f_climbed f_seed a_huts a_known a_levels a_snow a_open lf_huts lf_singers lf_villages lf_dams lf_echoes lf_deep lf_slide la_heights la_ladders la_minutes la_echoFrom la_echoTo la_homes la_talls la_known vf_deeds va_kinds va_firsts va_seconds H)
    (hS : va_S (wnA qn ql qv) s.heap H locs)
    (hl : lv_has ls 2 [(0, .ref qn), (1, .int x1)])
    (hw : q_wn_X3_below_0 f_seed x1 post) :
    W p l e rm_wn_X3_below s m args below meth c H locs 0 0 (MQ below (zQi (S := (Int32)) (fun r u => post r u) (fun u H => wnW E qn ql qv f_minute f_avalanches f_begun f_climbed u a_huts a_known a_levels a_snow a_open lf_huts lf_singers lf_villages lf_dams lf_echoes lf_deep lf_slide la_heights la_ladders la_minutes la_echoFrom la_echoTo la_homes la_talls la_known vf_deeds va_kinds va_firsts va_seconds H) (wnA qn ql qv)) args s 0 0 (wnA qn ql qv)) (F0 m 0 ls []) := by
  have hx := zc.1
  have hb := zc.2.1
  refine lv_aload_n hx hb dX3_below_0 rfl (lv_at hl 0 rfl) ?_
  refine lv_aload_n hx hb dX3_below_1 rfl (lv_at hl 0 rfl) ?_
  refine wng_3_50_0 zc hK hM dX3_below_2 ?_
  refine lv_ldc (v := (1103515245 : Int32)) hx hb zc.2.2.2.1 (zc.2.2.2.2.1 _ kc_3_71) dX3_below_5 ?_
  refine lv_imul hx hb dX3_below_7 ?_
  refine lv_sipush (v := (12345 : Int32)) hx hb dX3_below_8 (by decide) ?_
  refine lv_iadd hx hb dX3_below_11 ?_
  refine lv_topi (fun v_1 ev_1 => ?_)
  have hw := hw v_1 ev_1
  refine wnp_3_50_0 zc hK hM hS dX3_below_12 (fun H locs hM hS => ?_)
  refine lv_iload_n hx hb dX3_below_15 rfl (lv_at hl 1 rfl) ?_
  refine lv_if_le (tgt := 31) hx hb dX3_below_16 (by decide) (fun hc => ?_) (fun hc => ?_)
  · have hw := hw.1 hc
    refine lv_iconst (v := (0 : Int32)) hx hb dX3_below_31 (by decide) ?_
    exact zret_iw v_1 zc hS hw hM dX3_below_32
  · have hw := hw.2 hc
    refine lv_aload_n hx hb dX3_below_19 rfl (lv_at hl 0 rfl) ?_
    refine wng_3_50_0 zc hK hM dX3_below_20 ?_
    refine lv_bipush (v := (16 : Int32)) hx hb dX3_below_23 (by decide) ?_
    refine lv_iushr hx hb dX3_below_25 rfl ?_
    refine lv_iload_n hx hb dX3_below_26 rfl (lv_at hl 1 rfl) ?_
    refine lv_irem hx hb dX3_below_27 hw.1 ?_
    have hw := hw.2
    refine lv_goto (tgt := 32) hx hb dX3_below_28 (by decide) ?_
    exact zret_iw v_1 zc hS hw hM dX3_below_32
set_option maxRecDepth 20000 in
theorem c_wn_X3_below (l : Launch) {E : zE} {qn ql qv : Nat} {f_minute : Int32} {f_avalanches : Int32} {f_begun : Int32} {f_climbed : Int32} {f_seed : Int32} {a_huts : Nat → Int32} {a_known : Nat → Int32} {a_levels : Nat → Int32} {a_snow : Nat → Int32} {a_open : Nat → Int32} {lf_huts : Int32} {lf_singers : Int32} {lf_villages : Int32} {lf_dams : Int32} {lf_echoes : Int32} {lf_deep : Int32} {lf_slide : Int32} {la_heights : Nat → Int32} {la_ladders : Nat → Int32} {la_minutes : Nat → Int32} {la_echoFrom : Nat → Int32} {la_echoTo : Nat → Int32} {la_homes : Nat → Int32} {la_talls : Nat → Int32} {la_known : Nat → Int32} {vf_deeds : Int32} {va_kinds : Nat → Int32} {va_firsts : Nat → Int32} {va_seconds : Nat → Int32} {x1 : Int32} {post : Int32 → (Int32) → Prop} (hw : q_wn_X3_below_0 f_seed x1 post) : Met l yX3_below (Cond.code yX3_below cX3_below 2 (some .int) :: zb) rm_wn_X3_below (va_Pc [.ref qn, .int x1] (fun U => wnW E qn ql qv f_minute f_avalanches f_begun f_climbed f_seed a_huts a_known a_levels a_snow a_open lf_huts lf_singers lf_villages lf_dams lf_echoes lf_deep lf_slide la_heights la_ladders la_minutes la_echoFrom la_echoTo la_homes la_talls la_known vf_deeds va_kinds va_firsts va_seconds U.heap ∧ zK E U)) (zQi (S := (Int32)) (fun r u => post r u) (fun u H => wnW E qn ql qv f_minute f_avalanches f_begun f_climbed u a_huts a_known a_levels a_snow a_open lf_huts lf_singers lf_villages lf_dams lf_echoes lf_deep lf_slide la_heights la_ladders la_minutes la_echoFrom la_echoTo la_homes la_talls la_known vf_deeds va_kinds va_firsts va_seconds H) (wnA qn ql qv)) 0 0 (wnA qn ql qv) := by
  refine Met.ofW (cc := cX3_below) (maxL := 2) (ret := (some .int)) (by decide) rfl ?_
  intro p e s m args below meth c s₁ B hml hv
  obtain ⟨rfl, hM, hK⟩ := hv
  have zc := zc_of B hml
  have hl := lv_entry ([.ref qn, .int x1]) (n := 2) (Nat.le_of_ble_eq_true rfl)
  rw [lg_entry_eq]
  generalize (lg_sl ([.ref qn, .int x1]) ++ List.replicate (2 - (lg_sl ([.ref qn, .int x1])).length) Slot.unset).toArray = ls at hl ⊢
  have hl : lv_has ls 2 [(0, .ref qn), (1, .int x1)] := hl
  exact t_wn_X3_below_0 zc hK hM va_S.rf (lv_sub hl [0, 1] rfl) hw
-- wn_X3_draw_6
abbrev rm_wn_X3_draw_6 : Room := { frames := 4, cells := 0, slots := 0, locals := 97 }
def q_wn_X3_draw_6_93 (P13 : Int32 → (Int32) → (Int32) → (Int32) → (Int32) → (Int32) → (Nat → Int32) → (Nat → Int32) → (Nat → Int32) → (Nat → Int32) → Prop) (f_minute : Int32) (f_avalanches : Int32) (f_begun : Int32) (f_climbed : Int32) (f_seed : Int32) (a_huts : Nat → Int32) (a_known : Nat → Int32) (a_levels : Nat → Int32) (a_snow : Nat → Int32) (lf_huts : Int32) (lf_singers : Int32) (lf_dams : Int32) (lf_echoes : Int32) (lf_deep : Int32) (la_heights : Nat → Int32) (la_ladders : Nat → Int32) (la_minutes : Nat → Int32) (la_echoFrom : Nat → Int32) (la_echoTo : Nat → Int32) (la_homes : Nat → Int32) (la_talls : Nat → Int32) (la_known : Nat → Int32) (x3 : Int32) (x4 : Int32) (post : (Int32) → (Int32) → (Int32) → (Int32) → (Int32) → (Nat → Int32) → (Nat → Int32) → (Nat → Int32) → (Nat → Int32) → Prop) : Prop :=
  ∀ v_1 : Int32, v_1 = x4 + (1 : Int32) → (P13 v_1 f_minute f_avalanches f_begun f_climbed f_seed a_huts a_known a_levels a_snow)
def q_wn_X3_draw_6_85 (P13 : Int32 → (Int32) → (Int32) → (Int32) → (Int32) → (Int32) → (Nat → Int32) → (Nat → Int32) → (Nat → Int32) → (Nat → Int32) → Prop) (f_minute : Int32) (f_avalanches : Int32) (f_begun : Int32) (f_climbed : Int32) (f_seed : Int32) (a_huts : Nat → Int32) (a_known : Nat → Int32) (a_levels : Nat → Int32) (a_snow : Nat → Int32) (lf_huts : Int32) (lf_singers : Int32) (lf_dams : Int32) (lf_echoes : Int32) (lf_deep : Int32) (la_heights : Nat → Int32) (la_ladders : Nat → Int32) (la_minutes : Nat → Int32) (la_echoFrom : Nat → Int32) (la_echoTo : Nat → Int32) (la_homes : Nat → Int32) (la_talls : Nat → Int32) (la_known : Nat → Int32) (x3 : Int32) (x4 : Int32) (x5 : Int32) (x6 : Int32) (y0 : Int32) (post : (Int32) → (Int32) → (Int32) → (Int32) → (Int32) → (Nat → Int32) → (Nat → Int32) → (Nat → Int32) → (Nat → Int32) → Prop) : Prop :=
  q_wn_X3_act_6_0 f_minute f_avalanches f_begun f_climbed a_huts a_known a_levels a_snow lf_huts lf_singers lf_dams lf_echoes lf_deep la_heights la_ladders la_minutes la_echoFrom la_echoTo la_talls y0 x5 x6 (fun r_1 f_minute_1 f_avalanches_1 f_begun_1 f_climbed_1 a_huts_1 a_known_1 a_levels_1 a_snow_1 => q_wn_X3_draw_6_93 P13 f_minute_1 f_avalanches_1 f_begun_1 f_climbed_1 f_seed a_huts_1 a_known_1 a_levels_1 a_snow_1 lf_huts lf_singers lf_dams lf_echoes lf_deep la_heights la_ladders la_minutes la_echoFrom la_echoTo la_homes la_talls la_known x3 x4 post)
def q_wn_X3_draw_6_13 (f_minute : Int32) (f_avalanches : Int32) (f_begun : Int32) (f_climbed : Int32) (f_seed : Int32) (a_huts : Nat → Int32) (a_known : Nat → Int32) (a_levels : Nat → Int32) (a_snow : Nat → Int32) (lf_huts : Int32) (lf_singers : Int32) (lf_dams : Int32) (lf_echoes : Int32) (lf_deep : Int32) (la_heights : Nat → Int32) (la_ladders : Nat → Int32) (la_minutes : Nat → Int32) (la_echoFrom : Nat → Int32) (la_echoTo : Nat → Int32) (la_homes : Nat → Int32) (la_talls : Nat → Int32) (la_known : Nat → Int32) (x3 : Int32) (x4 : Int32) (post : (Int32) → (Int32) → (Int32) → (Int32) → (Int32) → (Nat → Int32) → (Nat → Int32) → (Nat → Int32) → (Nat → Int32) → Prop) : Prop :=
  ∀ P13 : Int32 → (Int32) → (Int32) → (Int32) → (Int32) → (Int32) → (Nat → Int32) → (Nat → Int32) → (Nat → Int32) → (Nat → Int32) → Prop, (∀ (x4 : Int32) (f_minute : Int32) (f_avalanches : Int32) (f_begun : Int32) (f_climbed : Int32) (f_seed : Int32) (a_huts : Nat → Int32) (a_known : Nat → Int32) (a_levels : Nat → Int32) (a_snow : Nat → Int32), ((x3 ≤ x4 → (post f_minute f_avalanches f_begun f_climbed f_seed a_huts a_known a_levels a_snow)) ∧ (¬ x3 ≤ x4 → (q_wn_X3_below_0 f_seed lf_singers (fun r_1 f_seed_1 => q_wn_X3_below_0 f_seed_1 (8 : Int32) (fun r_2 f_seed_2 => ((2 : Int32) < r_2 → (q_wn_X3_below_0 f_seed_2 (5 : Int32) (fun r_3 f_seed_3 => q_z_X10_has_0 f_begun r_3 (fun r_4 => (r_4 = 0 → (q_wn_X3_draw_6_85 P13 f_minute f_avalanches f_begun f_climbed f_seed_3 a_huts a_known a_levels a_snow lf_huts lf_singers lf_dams lf_echoes lf_deep la_heights la_ladders la_minutes la_echoFrom la_echoTo la_homes la_talls la_known x3 x4 r_1 r_3 (0 : Int32) post)) ∧ (¬ r_4 = 0 → (q_wn_X3_draw_6_85 P13 f_minute f_avalanches f_begun f_climbed f_seed_3 a_huts a_known a_levels a_snow lf_huts lf_singers lf_dams lf_echoes lf_deep la_heights la_ladders la_minutes la_echoFrom la_echoTo la_homes la_talls la_known x3 x4 r_1 r_3 (1 : Int32) post)))))) ∧ (¬ (2 : Int32) < r_2 → (q_wn_X3_below_0 f_seed_2 lf_huts (fun r_5 f_seed_4 => q_wn_X3_act_6_0 f_minute f_avalanches f_begun f_climbed a_huts a_known a_levels a_snow lf_huts lf_singers lf_dams lf_echoes lf_deep la_heights la_ladders la_minutes la_echoFrom la_echoTo la_talls (3 : Int32) r_1 r_5 (fun r_6 f_minute_1 f_avalanches_1 f_begun_1 f_climbed_1 a_huts_1 a_known_1 a_levels_1 a_snow_1 => q_wn_X3_draw_6_93 P13 f_minute_1 f_avalanches_1 f_begun_1 f_climbed_1 f_seed_4 a_huts_1 a_known_1 a_levels_1 a_snow_1 lf_huts lf_singers lf_dams lf_echoes lf_deep la_heights la_ladders la_minutes la_echoFrom la_echoTo la_homes la_talls la_known x3 x4 post))))))))) → P13 x4 f_minute f_avalanches f_begun f_climbed f_seed a_huts a_known a_levels a_snow) → P13 x4 f_minute f_avalanches f_begun f_climbed f_seed a_huts a_known a_levels a_snow
def q_wn_X3_draw_6_0 (f_minute : Int32) (f_avalanches : Int32) (f_begun : Int32) (f_climbed : Int32) (f_seed : Int32) (a_huts : Nat → Int32) (a_known : Nat → Int32) (a_levels : Nat → Int32) (a_snow : Nat → Int32) (lf_huts : Int32) (lf_singers : Int32) (lf_dams : Int32) (lf_echoes : Int32) (lf_deep : Int32) (la_heights : Nat → Int32) (la_ladders : Nat → Int32) (la_minutes : Nat → Int32) (la_echoFrom : Nat → Int32) (la_echoTo : Nat → Int32) (la_homes : Nat → Int32) (la_talls : Nat → Int32) (la_known : Nat → Int32) (x2 : Int32) (x3 : Int32) (post : (Int32) → (Int32) → (Int32) → (Int32) → (Int32) → (Nat → Int32) → (Nat → Int32) → (Nat → Int32) → (Nat → Int32) → Prop) : Prop :=
  q_wn_X3_start_6_0 f_minute f_avalanches f_begun f_climbed a_huts a_known a_levels a_snow la_homes la_known (fun f_minute_1 f_avalanches_1 f_begun_1 f_climbed_1 a_huts_1 a_known_1 a_levels_1 a_snow_1 => q_wn_X3_draw_6_13 f_minute_1 f_avalanches_1 f_begun_1 f_climbed_1 x2 a_huts_1 a_known_1 a_levels_1 a_snow_1 lf_huts lf_singers lf_dams lf_echoes lf_deep la_heights la_ladders la_minutes la_echoFrom la_echoTo la_homes la_talls la_known x3 (0 : Int32) post)
set_option maxRecDepth 20000 in
theorem t_wn_X3_draw_6_93 {p : Program} {l : Launch} {e : Env} {s : State} {m : MethodId} {args : Array Value} {below : List Frame} {meth : Method} {c : Code} {E : zE} {qn ql qv : Nat} {f_minute : Int32} {f_avalanches : Int32} {f_begun : Int32} {f_climbed : Int32} {f_seed : Int32} {a_huts : Nat → Int32} {a_known : Nat → Int32} {a_levels : Nat → Int32} {a_snow : Nat → Int32} {a_open : Nat → Int32} {lf_huts : Int32} {lf_singers : Int32} {lf_villages : Int32} {lf_dams : Int32} {lf_echoes : Int32} {lf_deep : Int32} {lf_slide : Int32} {la_heights : Nat → Int32} {la_ladders : Nat → Int32} {la_minutes : Nat → Int32} {la_echoFrom : Nat → Int32} {la_echoTo : Nat → Int32} {la_homes : Nat → Int32} {la_talls : Nat → Int32} {la_known : Nat → Int32} {vf_deeds : Int32} {va_kinds : Nat → Int32} {va_firsts : Nat → Int32} {va_seconds : Nat → Int32} {P13 : Int32 → (Int32) → (Int32) → (Int32) → (Int32) → (Int32) → (Nat → Int32) → (Nat → Int32) → (Nat → Int32) → (Nat → Int32) → Prop} {post : (Int32) → (Int32) → (Int32) → (Int32) → (Int32) → (Nat → Int32) → (Nat → Int32) → (Nat → Int32) → (Nat → Int32) → Prop} {x3 : Int32} {x4 : Int32} {ls : Array Slot} {H : Heap} {locs : List Loc}
    (zc : zC p s m args meth c cX3_draw 7 RX3 none)
    (hK : zK E s)
    (hM : wnW E qn ql qv f_minute f_avalanches f_begun f_climbed f_seed a_huts a_known a_levels a_snow a_open lf_huts lf_singers lf_villages lf_dams lf_echoes lf_deep lf_slide la_heights la_ladders la_minutes la_echoFrom la_echoTo la_homes la_talls la_known vf_deeds va_kinds va_firsts va_seconds H)
    (hS : va_S (wnA qn ql qv) s.heap H locs)
    (hP13 : ∀ (x4 : Int32) (f_minute : Int32) (f_avalanches : Int32) (f_begun : Int32) (f_climbed : Int32) (f_seed : Int32) (a_huts : Nat → Int32) (a_known : Nat → Int32) (a_levels : Nat → Int32) (a_snow : Nat → Int32) (H : Heap) (locs : List Loc) (ls : Array Slot), P13 x4 f_minute f_avalanches f_begun f_climbed f_seed a_huts a_known a_levels a_snow → lv_has ls 7 [(0, .ref qn), (1, .ref ql), (3, .int x3), (4, .int x4)] → wnW E qn ql qv f_minute f_avalanches f_begun f_climbed f_seed a_huts a_known a_levels a_snow a_open lf_huts lf_singers lf_villages lf_dams lf_echoes lf_deep lf_slide la_heights la_ladders la_minutes la_echoFrom la_echoTo la_homes la_talls la_known vf_deeds va_kinds va_firsts va_seconds H → va_S (wnA qn ql qv) s.heap H locs → W p l e rm_wn_X3_draw_6 s m args below meth c H locs 0 0 (MQ below (zQv (S := (Int32) × (Int32) × (Int32) × (Int32) × (Int32) × (Nat → Int32) × (Nat → Int32) × (Nat → Int32) × (Nat → Int32)) (fun u => post u.1 u.2.1 u.2.2.1 u.2.2.2.1 u.2.2.2.2.1 u.2.2.2.2.2.1 u.2.2.2.2.2.2.1 u.2.2.2.2.2.2.2.1 u.2.2.2.2.2.2.2.2) (fun u H => wnW E qn ql qv u.1 u.2.1 u.2.2.1 u.2.2.2.1 u.2.2.2.2.1 u.2.2.2.2.2.1 u.2.2.2.2.2.2.1 u.2.2.2.2.2.2.2.1 u.2.2.2.2.2.2.2.2 a_open lf_huts lf_singers lf_villages lf_dams lf_echoes lf_deep lf_slide la_heights la_ladders la_minutes la_echoFrom la_echoTo la_homes la_talls la_known vf_deeds va_kinds va_firsts va_seconds H) (wnA qn ql qv)) args s 0 0 (wnA qn ql qv)) (F0 m 13 ls []))
    (hl : lv_has ls 7 [(0, .ref qn), (1, .ref ql), (3, .int x3), (4, .int x4)])
    (hw : q_wn_X3_draw_6_93 P13 f_minute f_avalanches f_begun f_climbed f_seed a_huts a_known a_levels a_snow lf_huts lf_singers lf_dams lf_echoes lf_deep la_heights la_ladders la_minutes la_echoFrom la_echoTo la_homes la_talls la_known x3 x4 post) :
    W p l e rm_wn_X3_draw_6 s m args below meth c H locs 0 0 (MQ below (zQv (S := (Int32) × (Int32) × (Int32) × (Int32) × (Int32) × (Nat → Int32) × (Nat → Int32) × (Nat → Int32) × (Nat → Int32)) (fun u => post u.1 u.2.1 u.2.2.1 u.2.2.2.1 u.2.2.2.2.1 u.2.2.2.2.2.1 u.2.2.2.2.2.2.1 u.2.2.2.2.2.2.2.1 u.2.2.2.2.2.2.2.2) (fun u H => wnW E qn ql qv u.1 u.2.1 u.2.2.1 u.2.2.2.1 u.2.2.2.2.1 u.2.2.2.2.2.1 u.2.2.2.2.2.2.1 u.2.2.2.2.2.2.2.1 u.2.2.2.2.2.2.2.2 a_open lf_huts lf_singers lf_villages lf_dams lf_echoes lf_deep lf_slide la_heights la_ladders la_minutes la_echoFrom la_echoTo la_homes la_talls la_known vf_deeds va_kinds va_firsts va_seconds H) (wnA qn ql qv)) args s 0 0 (wnA qn ql qv)) (F0 m 93 ls []) := by
  have hx := zc.1
  have hb := zc.2.1
  obtain ⟨v_1, ev_1⟩ : ∃ y : Int32, y = x4 + (1 : Int32) := ⟨_, rfl⟩
  have hw := hw v_1 ev_1
  refine lv_iinc (v := v_1) (k := 3) (lv' := [(4, .int v_1), (0, .ref qn), (1, .ref ql), (3, .int x3)]) hx hb dX3_draw_93 hl rfl (by rw [ev_1]; rfl) (by decide) rfl (fun ls hl => ?_)
  refine lv_goto (tgt := 13) hx hb dX3_draw_96 (by decide) ?_
  exact hP13 _ _ _ _ _ _ _ _ _ _ _ _ _ hw (lv_sub hl [1, 2, 3, 0] rfl) hM hS
set_option maxRecDepth 20000 in
theorem t_wn_X3_draw_6_85 {p : Program} {l : Launch} {e : Env} {s : State} {m : MethodId} {args : Array Value} {below : List Frame} {meth : Method} {c : Code} {E : zE} {qn ql qv : Nat} {f_minute : Int32} {f_avalanches : Int32} {f_begun : Int32} {f_climbed : Int32} {f_seed : Int32} {a_huts : Nat → Int32} {a_known : Nat → Int32} {a_levels : Nat → Int32} {a_snow : Nat → Int32} {a_open : Nat → Int32} {lf_huts : Int32} {lf_singers : Int32} {lf_villages : Int32} {lf_dams : Int32} {lf_echoes : Int32} {lf_deep : Int32} {lf_slide : Int32} {la_heights : Nat → Int32} {la_ladders : Nat → Int32} {la_minutes : Nat → Int32} {la_echoFrom : Nat → Int32} {la_echoTo : Nat → Int32} {la_homes : Nat → Int32} {la_talls : Nat → Int32} {la_known : Nat → Int32} {vf_deeds : Int32} {va_kinds : Nat → Int32} {va_firsts : Nat → Int32} {va_seconds : Nat → Int32} {P13 : Int32 → (Int32) → (Int32) → (Int32) → (Int32) → (Int32) → (Nat → Int32) → (Nat → Int32) → (Nat → Int32) → (Nat → Int32) → Prop} {post : (Int32) → (Int32) → (Int32) → (Int32) → (Int32) → (Nat → Int32) → (Nat → Int32) → (Nat → Int32) → (Nat → Int32) → Prop} {x3 : Int32} {x4 : Int32} {x5 : Int32} {x6 : Int32} {y0 : Int32} {ls : Array Slot} {H : Heap} {locs : List Loc}
    (zc : zC p s m args meth c cX3_draw 7 RX3 none)
    (hK : zK E s)
    (hM : wnW E qn ql qv f_minute f_avalanches f_begun f_climbed f_seed a_huts a_known a_levels a_snow a_open lf_huts lf_singers lf_villages lf_dams lf_echoes lf_deep lf_slide la_heights la_ladders la_minutes la_echoFrom la_echoTo la_homes la_talls la_known vf_deeds va_kinds va_firsts va_seconds H)
    (hS : va_S (wnA qn ql qv) s.heap H locs)
    (hP13 : ∀ (x4 : Int32) (f_minute : Int32) (f_avalanches : Int32) (f_begun : Int32) (f_climbed : Int32) (f_seed : Int32) (a_huts : Nat → Int32) (a_known : Nat → Int32) (a_levels : Nat → Int32) (a_snow : Nat → Int32) (H : Heap) (locs : List Loc) (ls : Array Slot), P13 x4 f_minute f_avalanches f_begun f_climbed f_seed a_huts a_known a_levels a_snow → lv_has ls 7 [(0, .ref qn), (1, .ref ql), (3, .int x3), (4, .int x4)] → wnW E qn ql qv f_minute f_avalanches f_begun f_climbed f_seed a_huts a_known a_levels a_snow a_open lf_huts lf_singers lf_villages lf_dams lf_echoes lf_deep lf_slide la_heights la_ladders la_minutes la_echoFrom la_echoTo la_homes la_talls la_known vf_deeds va_kinds va_firsts va_seconds H → va_S (wnA qn ql qv) s.heap H locs → W p l e rm_wn_X3_draw_6 s m args below meth c H locs 0 0 (MQ below (zQv (S := (Int32) × (Int32) × (Int32) × (Int32) × (Int32) × (Nat → Int32) × (Nat → Int32) × (Nat → Int32) × (Nat → Int32)) (fun u => post u.1 u.2.1 u.2.2.1 u.2.2.2.1 u.2.2.2.2.1 u.2.2.2.2.2.1 u.2.2.2.2.2.2.1 u.2.2.2.2.2.2.2.1 u.2.2.2.2.2.2.2.2) (fun u H => wnW E qn ql qv u.1 u.2.1 u.2.2.1 u.2.2.2.1 u.2.2.2.2.1 u.2.2.2.2.2.1 u.2.2.2.2.2.2.1 u.2.2.2.2.2.2.2.1 u.2.2.2.2.2.2.2.2 a_open lf_huts lf_singers lf_villages lf_dams lf_echoes lf_deep lf_slide la_heights la_ladders la_minutes la_echoFrom la_echoTo la_homes la_talls la_known vf_deeds va_kinds va_firsts va_seconds H) (wnA qn ql qv)) args s 0 0 (wnA qn ql qv)) (F0 m 13 ls []))
    (hl : lv_has ls 7 [(0, .ref qn), (1, .ref ql), (3, .int x3), (4, .int x4), (5, .int x5), (6, .int x6)])
    (hw : q_wn_X3_draw_6_85 P13 f_minute f_avalanches f_begun f_climbed f_seed a_huts a_known a_levels a_snow lf_huts lf_singers lf_dams lf_echoes lf_deep la_heights la_ladders la_minutes la_echoFrom la_echoTo la_homes la_talls la_known x3 x4 x5 x6 y0 post) :
    W p l e rm_wn_X3_draw_6 s m args below meth c H locs 0 0 (MQ below (zQv (S := (Int32) × (Int32) × (Int32) × (Int32) × (Int32) × (Nat → Int32) × (Nat → Int32) × (Nat → Int32) × (Nat → Int32)) (fun u => post u.1 u.2.1 u.2.2.1 u.2.2.2.1 u.2.2.2.2.1 u.2.2.2.2.2.1 u.2.2.2.2.2.2.1 u.2.2.2.2.2.2.2.1 u.2.2.2.2.2.2.2.2) (fun u H => wnW E qn ql qv u.1 u.2.1 u.2.2.1 u.2.2.2.1 u.2.2.2.2.1 u.2.2.2.2.2.1 u.2.2.2.2.2.2.1 u.2.2.2.2.2.2.2.1 u.2.2.2.2.2.2.2.2 a_open lf_huts lf_singers lf_villages lf_dams lf_echoes lf_deep lf_slide la_heights la_ladders la_minutes la_echoFrom la_echoTo la_homes la_talls la_known vf_deeds va_kinds va_firsts va_seconds H) (wnA qn ql qv)) args s 0 0 (wnA qn ql qv)) (F0 m 85 ls [.int y0, .ref ql, .ref qn]) := by
  have hx := zc.1
  have hb := zc.2.1
  refine lv_iload hx hb dX3_draw_85 (lv_at hl 4 rfl) ?_
  refine lv_iload hx hb dX3_draw_87 (lv_at hl 5 rfl) ?_
  refine zVw_i [.ref ql, .int y0, .int x5, .int x6] [] zc ky_X3_act kz_X3_act km_3_46 (c_wn_X3_act_6 l hw) (wnPreV0 hK hM) hS rfl rfl hl.1 (Nat.le_of_ble_eq_true rfl) ⟨rfl, rfl⟩ ⟨Nat.le_of_ble_eq_true rfl, Nat.le_of_ble_eq_true rfl⟩ ⟨(Nat.zero_le _), (Nat.zero_le _)⟩ dX3_draw_89 (fun r_1 u H locs hw hM hS => ?_)
  obtain ⟨f_minute_1, f_avalanches_1, f_begun_1, f_climbed_1, a_huts_1, a_known_1, a_levels_1, a_snow_1⟩ := u
  refine lv_pop hx hb dX3_draw_92 rfl ?_
  exact t_wn_X3_draw_6_93 zc hK hM hS hP13 (lv_sub hl [0, 1, 2, 3] rfl) hw
set_option maxRecDepth 20000 in
theorem t_wn_X3_draw_6_13 {p : Program} {l : Launch} {e : Env} {s : State} {m : MethodId} {args : Array Value} {below : List Frame} {meth : Method} {c : Code} {E : zE} {qn ql qv : Nat} {f_minute : Int32} {f_avalanches : Int32} {f_begun : Int32} {f_climbed : Int32} {f_seed : Int32} {a_huts : Nat → Int32} {a_known : Nat → Int32} {a_levels : Nat → Int32} {a_snow : Nat → Int32} {a_open : Nat → Int32} {lf_huts : Int32} {lf_singers : Int32} {lf_villages : Int32} {lf_dams : Int32} {lf_echoes : Int32} {lf_deep : Int32} {lf_slide : Int32} {la_heights : Nat → Int32} {la_ladders : Nat → Int32} {la_minutes : Nat → Int32} {la_echoFrom : Nat → Int32} {la_echoTo : Nat → Int32} {la_homes : Nat → Int32} {la_talls : Nat → Int32} {la_known : Nat → Int32} {vf_deeds : Int32} {va_kinds : Nat → Int32} {va_firsts : Nat → Int32} {va_seconds : Nat → Int32} {post : (Int32) → (Int32) → (Int32) → (Int32) → (Int32) → (Nat → Int32) → (Nat → Int32) → (Nat → Int32) → (Nat → Int32) → Prop} {x3 : Int32} {x4 : Int32} {ls : Array Slot} {H : Heap} {locs : List Loc}
    (zc : zC p s m args meth c cX3_draw 7 RX3 none)
    (hK : zK E s)
    (hM : wnW E qn ql qv f_minute f_avalanches f_begun f_climbed f_seed a_huts a_known a_levels a_snow a_open lf_huts lf_singers lf_villages lf_dams lf_echoes lf_deep lf_slide la_heights la_ladders la_minutes la_echoFrom la_echoTo la_homes la_talls la_known vf_deeds va_kinds va_firsts va_seconds H)
    (hS : va_S (wnA qn ql qv) s.heap H locs)
    (hl : lv_has ls 7 [(0, .ref qn), (1, .ref ql), (3, .int x3), (4, .int x4)])
    (hw : q_wn_X3_draw_6_13 f_minute f_avalanches f_begun f_climbed f_seed a_huts a_known a_levels a_snow lf_huts lf_singers lf_dams lf_echoes lf_deep la_heights la_ladders la_minutes la_echoFrom la_echoTo la_homes la_talls la_known x3 x4 post) :
    W p l e rm_wn_X3_draw_6 s m args below meth c H locs 0 0 (MQ below (zQv (S := (Int32) × (Int32) × (Int32) × (Int32) × (Int32) × (Nat → Int32) × (Nat → Int32) × (Nat → Int32) × (Nat → Int32)) (fun u => post u.1 u.2.1 u.2.2.1 u.2.2.2.1 u.2.2.2.2.1 u.2.2.2.2.2.1 u.2.2.2.2.2.2.1 u.2.2.2.2.2.2.2.1 u.2.2.2.2.2.2.2.2) (fun u H => wnW E qn ql qv u.1 u.2.1 u.2.2.1 u.2.2.2.1 u.2.2.2.2.1 u.2.2.2.2.2.1 u.2.2.2.2.2.2.1 u.2.2.2.2.2.2.2.1 u.2.2.2.2.2.2.2.2 a_open lf_huts lf_singers lf_villages lf_dams lf_echoes lf_deep lf_slide la_heights la_ladders la_minutes la_echoFrom la_echoTo la_homes la_talls la_known vf_deeds va_kinds va_firsts va_seconds H) (wnA qn ql qv)) args s 0 0 (wnA qn ql qv)) (F0 m 13 ls []) := by
  have hx := zc.1
  have hb := zc.2.1
  refine hw (fun x4 f_minute f_avalanches f_begun f_climbed f_seed a_huts a_known a_levels a_snow => ∀ (H : Heap) (locs : List Loc) (ls : Array Slot), lv_has ls 7 [(0, .ref qn), (1, .ref ql), (3, .int x3), (4, .int x4)] → wnW E qn ql qv f_minute f_avalanches f_begun f_climbed f_seed a_huts a_known a_levels a_snow a_open lf_huts lf_singers lf_villages lf_dams lf_echoes lf_deep lf_slide la_heights la_ladders la_minutes la_echoFrom la_echoTo la_homes la_talls la_known vf_deeds va_kinds va_firsts va_seconds H → va_S (wnA qn ql qv) s.heap H locs → W p l e rm_wn_X3_draw_6 s m args below meth c H locs 0 0 (MQ below (zQv (S := (Int32) × (Int32) × (Int32) × (Int32) × (Int32) × (Nat → Int32) × (Nat → Int32) × (Nat → Int32) × (Nat → Int32)) (fun u => post u.1 u.2.1 u.2.2.1 u.2.2.2.1 u.2.2.2.2.1 u.2.2.2.2.2.1 u.2.2.2.2.2.2.1 u.2.2.2.2.2.2.2.1 u.2.2.2.2.2.2.2.2) (fun u H => wnW E qn ql qv u.1 u.2.1 u.2.2.1 u.2.2.2.1 u.2.2.2.2.1 u.2.2.2.2.2.1 u.2.2.2.2.2.2.1 u.2.2.2.2.2.2.2.1 u.2.2.2.2.2.2.2.2 a_open lf_huts lf_singers lf_villages lf_dams lf_echoes lf_deep lf_slide la_heights la_ladders la_minutes la_echoFrom la_echoTo la_homes la_talls la_known vf_deeds va_kinds va_firsts va_seconds H) (wnA qn ql qv)) args s 0 0 (wnA qn ql qv)) (F0 m 13 ls [])) ?_ _ _ _ hl hM hS
  intro x4 f_minute f_avalanches f_begun f_climbed f_seed a_huts a_known a_levels a_snow hw H locs ls hl hM hS
  refine lv_iload hx hb dX3_draw_13 (lv_at hl 3 rfl) ?_
  refine lv_iload_n hx hb dX3_draw_15 rfl (lv_at hl 2 rfl) ?_
  refine lv_icmp_ge (tgt := 99) hx hb dX3_draw_16 (by decide) (fun hc => ?_) (fun hc => ?_)
  · have hw := hw.1 hc
    exact zret_vw ⟨f_minute, f_avalanches, f_begun, f_climbed, f_seed, a_huts, a_known, a_levels, a_snow⟩ zc hS hw hM dX3_draw_99
  · have hw := hw.2 hc
    refine lv_aload_n hx hb dX3_draw_19 rfl (lv_at hl 0 rfl) ?_
    refine lv_aload_n hx hb dX3_draw_20 rfl (lv_at hl 1 rfl) ?_
    refine wng_3_53_6 zc hK hM dX3_draw_21 ?_
    refine zVw_i [.int lf_singers] [] zc ky_X3_below kz_X3_below km_3_58 (c_wn_X3_below l hw) (wnPreV0 hK hM) hS rfl rfl hl.1 (Nat.le_of_ble_eq_true rfl) ⟨rfl, rfl⟩ ⟨Nat.le_of_ble_eq_true rfl, Nat.le_of_ble_eq_true rfl⟩ ⟨(Nat.zero_le _), (Nat.zero_le _)⟩ dX3_draw_24 (fun r_1 f_seed_1 H locs hw hM hS => ?_)
    refine lv_istore (lv' := [(5, .int r_1), (0, .ref qn), (1, .ref ql), (3, .int x3), (4, .int x4)]) hx hb dX3_draw_27 hl (by decide) rfl (fun ls hl => ?_)
    refine lv_aload_n hx hb dX3_draw_29 rfl (lv_at hl 1 rfl) ?_
    refine lv_bipush (v := (8 : Int32)) hx hb dX3_draw_30 (by decide) ?_
    refine zVw_i [.int (8 : Int32)] [] zc ky_X3_below kz_X3_below km_3_58 (c_wn_X3_below l hw) (wnPreV0 hK hM) hS rfl rfl hl.1 (Nat.le_of_ble_eq_true rfl) ⟨rfl, rfl⟩ ⟨Nat.le_of_ble_eq_true rfl, Nat.le_of_ble_eq_true rfl⟩ ⟨(Nat.zero_le _), (Nat.zero_le _)⟩ dX3_draw_32 (fun r_2 f_seed_2 H locs hw hM hS => ?_)
    refine lv_iconst (v := (2 : Int32)) hx hb dX3_draw_35 (by decide) ?_
    refine lv_icmp_gt (tgt := 59) hx hb dX3_draw_36 (by decide) (fun hc => ?_) (fun hc => ?_)
    · have hw := hw.1 hc
      refine lv_aload_n hx hb dX3_draw_59 rfl (lv_at hl 1 rfl) ?_
      refine lv_iconst (v := (5 : Int32)) hx hb dX3_draw_60 (by decide) ?_
      refine zVw_i [.int (5 : Int32)] [] zc ky_X3_below kz_X3_below km_3_58 (c_wn_X3_below l hw) (wnPreV0 hK hM) hS rfl rfl hl.1 (Nat.le_of_ble_eq_true rfl) ⟨rfl, rfl⟩ ⟨Nat.le_of_ble_eq_true rfl, Nat.le_of_ble_eq_true rfl⟩ ⟨(Nat.zero_le _), (Nat.zero_le _)⟩ dX3_draw_61 (fun r_3 f_seed_3 H locs hw hM hS => ?_)
      refine lv_istore (lv' := [(6, .int r_3), (5, .int r_1), (0, .ref qn), (1, .ref ql), (3, .int x3), (4, .int x4)]) hx hb dX3_draw_64 hl (by decide) rfl (fun ls hl => ?_)
      refine lv_aload_n hx hb dX3_draw_66 rfl (lv_at hl 2 rfl) ?_
      refine lv_aload_n hx hb dX3_draw_67 rfl (lv_at hl 3 rfl) ?_
      refine lv_aload_n hx hb dX3_draw_68 rfl (lv_at hl 2 rfl) ?_
      refine wng_3_64_0 zc hK hM dX3_draw_69 ?_
      refine lv_iload hx hb dX3_draw_72 (lv_at hl 0 rfl) ?_
      refine zSN_i [.int f_begun, .int r_3] [.ref ql, .ref qn] zc ky_X10_has kz_X10_has (hK.2 _ kn_3_67) (c_z_X10_has l hw) (zPre0 _) rfl rfl hl.1 (Nat.le_of_ble_eq_true rfl) ⟨rfl, rfl⟩ ⟨Nat.le_of_ble_eq_true rfl, Nat.le_of_ble_eq_true rfl⟩ ⟨(Nat.zero_le _), (Nat.zero_le _)⟩ dX3_draw_74 (fun r_4 hw => ?_)
      refine lv_if_eq (tgt := 84) hx hb dX3_draw_77 (by decide) (fun hc => ?_) (fun hc => ?_)
      · have hw := hw.1 hc
        refine lv_iconst (v := (0 : Int32)) hx hb dX3_draw_84 (by decide) ?_
        exact t_wn_X3_draw_6_85 zc hK hM hS (fun _ _ _ _ _ _ _ _ _ _ H locs ls h hl hM hS => h H locs ls hl hM hS) (lv_sub hl [2, 3, 4, 5, 1, 0] rfl) hw
      · have hw := hw.2 hc
        refine lv_iconst (v := (1 : Int32)) hx hb dX3_draw_80 (by decide) ?_
        refine lv_goto (tgt := 85) hx hb dX3_draw_81 (by decide) ?_
        exact t_wn_X3_draw_6_85 zc hK hM hS (fun _ _ _ _ _ _ _ _ _ _ H locs ls h hl hM hS => h H locs ls hl hM hS) (lv_sub hl [2, 3, 4, 5, 1, 0] rfl) hw
    · have hw := hw.2 hc
      refine lv_aload_n hx hb dX3_draw_39 rfl (lv_at hl 1 rfl) ?_
      refine lv_aload_n hx hb dX3_draw_40 rfl (lv_at hl 2 rfl) ?_
      refine lv_iconst (v := (3 : Int32)) hx hb dX3_draw_41 (by decide) ?_
      refine lv_iload hx hb dX3_draw_42 (lv_at hl 0 rfl) ?_
      refine lv_aload_n hx hb dX3_draw_44 rfl (lv_at hl 1 rfl) ?_
      refine lv_aload_n hx hb dX3_draw_45 rfl (lv_at hl 2 rfl) ?_
      refine wng_3_62_6 zc hK hM dX3_draw_46 ?_
      refine zVw_i [.int lf_huts] [.int r_1, .int (3 : Int32), .ref ql, .ref qn] zc ky_X3_below kz_X3_below km_3_58 (c_wn_X3_below l hw) (wnPreV0 hK hM) hS rfl rfl hl.1 (Nat.le_of_ble_eq_true rfl) ⟨rfl, rfl⟩ ⟨Nat.le_of_ble_eq_true rfl, Nat.le_of_ble_eq_true rfl⟩ ⟨(Nat.zero_le _), (Nat.zero_le _)⟩ dX3_draw_49 (fun r_5 f_seed_4 H locs hw hM hS => ?_)
      refine zVw_i [.ref ql, .int (3 : Int32), .int r_1, .int r_5] [] zc ky_X3_act kz_X3_act km_3_46 (c_wn_X3_act_6 l hw) (wnPreV0 hK hM) hS rfl rfl hl.1 (Nat.le_of_ble_eq_true rfl) ⟨rfl, rfl⟩ ⟨Nat.le_of_ble_eq_true rfl, Nat.le_of_ble_eq_true rfl⟩ ⟨(Nat.zero_le _), (Nat.zero_le _)⟩ dX3_draw_52 (fun r_6 u H locs hw hM hS => ?_)
      obtain ⟨f_minute_1, f_avalanches_1, f_begun_1, f_climbed_1, a_huts_1, a_known_1, a_levels_1, a_snow_1⟩ := u
      refine lv_pop hx hb dX3_draw_55 rfl ?_
      refine lv_goto (tgt := 93) hx hb dX3_draw_56 (by decide) ?_
      exact t_wn_X3_draw_6_93 zc hK hM hS (fun _ _ _ _ _ _ _ _ _ _ H locs ls h hl hM hS => h H locs ls hl hM hS) (lv_sub hl [1, 2, 3, 4] rfl) hw
set_option maxRecDepth 20000 in
theorem t_wn_X3_draw_6_0 {p : Program} {l : Launch} {e : Env} {s : State} {m : MethodId} {args : Array Value} {below : List Frame} {meth : Method} {c : Code} {E : zE} {qn ql qv : Nat} {f_minute : Int32} {f_avalanches : Int32} {f_begun : Int32} {f_climbed : Int32} {f_seed : Int32} {a_huts : Nat → Int32} {a_known : Nat → Int32} {a_levels : Nat → Int32} {a_snow : Nat → Int32} {a_open : Nat → Int32} {lf_huts : Int32} {lf_singers : Int32} {lf_villages : Int32} {lf_dams : Int32} {lf_echoes : Int32} {lf_deep : Int32} {lf_slide : Int32} {la_heights : Nat → Int32} {la_ladders : Nat → Int32} {la_minutes : Nat → Int32} {la_echoFrom : Nat → Int32} {la_echoTo : Nat → Int32} {la_homes : Nat → Int32} {la_talls : Nat → Int32} {la_known : Nat → Int32} {vf_deeds : Int32} {va_kinds : Nat → Int32} {va_firsts : Nat → Int32} {va_seconds : Nat → Int32} {post : (Int32) → (Int32) → (Int32) → (Int32) → (Int32) → (Nat → Int32) → (Nat → Int32) → (Nat → Int32) → (Nat → Int32) → Prop} {x2 : Int32} {x3 : Int32} {ls : Array Slot} {H : Heap} {locs : List Loc}
    (zc : zC p s m args meth c cX3_draw 7 RX3 none)
    (hK : zK E s)
    (hM : wnW E qn ql qv f_minute f_avalanches f_begun f_climbed f_seed a_huts a_known a_levels a_snow a_open lf_huts lf_singers lf_villages lf_dams lf_echoes lf_deep lf_slide la_heights la_ladders la_minutes la_echoFrom la_echoTo la_homes la_talls la_known vf_deeds va_kinds va_firsts va_seconds H)
    (hS : va_S (wnA qn ql qv) s.heap H locs)
    (hl : lv_has ls 7 [(0, .ref qn), (1, .ref ql), (2, .int x2), (3, .int x3)])
    (hw : q_wn_X3_draw_6_0 f_minute f_avalanches f_begun f_climbed f_seed a_huts a_known a_levels a_snow lf_huts lf_singers lf_dams lf_echoes lf_deep la_heights la_ladders la_minutes la_echoFrom la_echoTo la_homes la_talls la_known x2 x3 post) :
    W p l e rm_wn_X3_draw_6 s m args below meth c H locs 0 0 (MQ below (zQv (S := (Int32) × (Int32) × (Int32) × (Int32) × (Int32) × (Nat → Int32) × (Nat → Int32) × (Nat → Int32) × (Nat → Int32)) (fun u => post u.1 u.2.1 u.2.2.1 u.2.2.2.1 u.2.2.2.2.1 u.2.2.2.2.2.1 u.2.2.2.2.2.2.1 u.2.2.2.2.2.2.2.1 u.2.2.2.2.2.2.2.2) (fun u H => wnW E qn ql qv u.1 u.2.1 u.2.2.1 u.2.2.2.1 u.2.2.2.2.1 u.2.2.2.2.2.1 u.2.2.2.2.2.2.1 u.2.2.2.2.2.2.2.1 u.2.2.2.2.2.2.2.2 a_open lf_huts lf_singers lf_villages lf_dams lf_echoes lf_deep lf_slide la_heights la_ladders la_minutes la_echoFrom la_echoTo la_homes la_talls la_known vf_deeds va_kinds va_firsts va_seconds H) (wnA qn ql qv)) args s 0 0 (wnA qn ql qv)) (F0 m 0 ls []) := by
  have hx := zc.1
  have hb := zc.2.1
  refine lv_aload_n hx hb dX3_draw_0 rfl (lv_at hl 0 rfl) ?_
  refine lv_aload_n hx hb dX3_draw_1 rfl (lv_at hl 1 rfl) ?_
  refine zVw_v [.ref ql] [] zc ky_X3_start kz_X3_start km_3_27 (c_wn_X3_start_6 l hw) (wnPreV0 hK hM) hS rfl rfl hl.1 (Nat.le_of_ble_eq_true rfl) ⟨rfl, rfl⟩ ⟨Nat.le_of_ble_eq_true rfl, Nat.le_of_ble_eq_true rfl⟩ ⟨(Nat.zero_le _), (Nat.zero_le _)⟩ dX3_draw_2 (fun u H locs hw hM hS => ?_)
  obtain ⟨f_minute_1, f_avalanches_1, f_begun_1, f_climbed_1, a_huts_1, a_known_1, a_levels_1, a_snow_1⟩ := u
  refine lv_aload_n hx hb dX3_draw_5 rfl (lv_at hl 0 rfl) ?_
  refine lv_iload_n hx hb dX3_draw_6 rfl (lv_at hl 2 rfl) ?_
  refine wnp_3_50_0 zc hK hM hS dX3_draw_7 (fun H locs hM hS => ?_)
  refine lv_iconst (v := (0 : Int32)) hx hb dX3_draw_10 (by decide) ?_
  refine lv_istore (lv' := [(4, .int (0 : Int32)), (0, .ref qn), (1, .ref ql), (2, .int x2), (3, .int x3)]) hx hb dX3_draw_11 hl (by decide) rfl (fun ls hl => ?_)
  exact t_wn_X3_draw_6_13 zc hK hM hS  (lv_sub hl [1, 2, 4, 0] rfl) hw
set_option maxRecDepth 20000 in
theorem c_wn_X3_draw_6 (l : Launch) {E : zE} {qn ql qv : Nat} {f_minute : Int32} {f_avalanches : Int32} {f_begun : Int32} {f_climbed : Int32} {f_seed : Int32} {a_huts : Nat → Int32} {a_known : Nat → Int32} {a_levels : Nat → Int32} {a_snow : Nat → Int32} {a_open : Nat → Int32} {lf_huts : Int32} {lf_singers : Int32} {lf_villages : Int32} {lf_dams : Int32} {lf_echoes : Int32} {lf_deep : Int32} {lf_slide : Int32} {la_heights : Nat → Int32} {la_ladders : Nat → Int32} {la_minutes : Nat → Int32} {la_echoFrom : Nat → Int32} {la_echoTo : Nat → Int32} {la_homes : Nat → Int32} {la_talls : Nat → Int32} {la_known : Nat → Int32} {vf_deeds : Int32} {va_kinds : Nat → Int32} {va_firsts : Nat → Int32} {va_seconds : Nat → Int32} {x2 : Int32} {x3 : Int32} {post : (Int32) → (Int32) → (Int32) → (Int32) → (Int32) → (Nat → Int32) → (Nat → Int32) → (Nat → Int32) → (Nat → Int32) → Prop} (hw : q_wn_X3_draw_6_0 f_minute f_avalanches f_begun f_climbed f_seed a_huts a_known a_levels a_snow lf_huts lf_singers lf_dams lf_echoes lf_deep la_heights la_ladders la_minutes la_echoFrom la_echoTo la_homes la_talls la_known x2 x3 post) : Met l yX3_draw (Cond.code yX3_draw cX3_draw 7 none :: zb) rm_wn_X3_draw_6 (va_Pc [.ref qn, .ref ql, .int x2, .int x3] (fun U => wnW E qn ql qv f_minute f_avalanches f_begun f_climbed f_seed a_huts a_known a_levels a_snow a_open lf_huts lf_singers lf_villages lf_dams lf_echoes lf_deep lf_slide la_heights la_ladders la_minutes la_echoFrom la_echoTo la_homes la_talls la_known vf_deeds va_kinds va_firsts va_seconds U.heap ∧ zK E U)) (zQv (S := (Int32) × (Int32) × (Int32) × (Int32) × (Int32) × (Nat → Int32) × (Nat → Int32) × (Nat → Int32) × (Nat → Int32)) (fun u => post u.1 u.2.1 u.2.2.1 u.2.2.2.1 u.2.2.2.2.1 u.2.2.2.2.2.1 u.2.2.2.2.2.2.1 u.2.2.2.2.2.2.2.1 u.2.2.2.2.2.2.2.2) (fun u H => wnW E qn ql qv u.1 u.2.1 u.2.2.1 u.2.2.2.1 u.2.2.2.2.1 u.2.2.2.2.2.1 u.2.2.2.2.2.2.1 u.2.2.2.2.2.2.2.1 u.2.2.2.2.2.2.2.2 a_open lf_huts lf_singers lf_villages lf_dams lf_echoes lf_deep lf_slide la_heights la_ladders la_minutes la_echoFrom la_echoTo la_homes la_talls la_known vf_deeds va_kinds va_firsts va_seconds H) (wnA qn ql qv)) 0 0 (wnA qn ql qv) := by
  refine Met.ofW (cc := cX3_draw) (maxL := 7) (ret := none) (by decide) rfl ?_
  intro p e s m args below meth c s₁ B hml hv
  obtain ⟨rfl, hM, hK⟩ := hv
  have zc := zc_of B hml
  have hl := lv_entry ([.ref qn, .ref ql, .int x2, .int x3]) (n := 7) (Nat.le_of_ble_eq_true rfl)
  rw [lg_entry_eq]
  generalize (lg_sl ([.ref qn, .ref ql, .int x2, .int x3]) ++ List.replicate (7 - (lg_sl ([.ref qn, .ref ql, .int x2, .int x3])).length) Slot.unset).toArray = ls at hl ⊢
  have hl : lv_has ls 7 [(0, .ref qn), (1, .ref ql), (2, .int x2), (3, .int x3)] := hl
  exact t_wn_X3_draw_6_0 zc hK hM va_S.rf (lv_sub hl [0, 1, 2, 3] rfl) hw
-- wn_X3_knowers_6
abbrev rm_wn_X3_knowers_6 : Room := { frames := 1, cells := 0, slots := 0, locals := 21 }
def q_wn_X3_knowers_6_35 (P5 : Int32 → Int32 → Prop) (a_known : Nat → Int32) (lf_singers : Int32) (x2 : Int32) (x3 : Int32) (x4 : Int32) (post : Int32 → Prop) : Prop :=
  ∀ v_1 : Int32, v_1 = x4 + (1 : Int32) → (P5 x3 v_1)
def q_wn_X3_knowers_6_5 (a_known : Nat → Int32) (lf_singers : Int32) (x2 : Int32) (x3 : Int32) (x4 : Int32) (post : Int32 → Prop) : Prop :=
  ∀ P5 : Int32 → Int32 → Prop, (∀ (x3 : Int32) (x4 : Int32), ((lf_singers ≤ x4 → (post x3)) ∧ (¬ lf_singers ≤ x4 → (vp_in x4 6 ∧ (q_z_X10_has_0 (a_known (Int32.toNatClampNeg x4)) x2 (fun r_1 => (r_1 = 0 → (q_wn_X3_knowers_6_35 P5 a_known lf_singers x2 x3 x4 post)) ∧ (¬ r_1 = 0 → (∀ v_1 : Int32, v_1 = (x3 ||| ((1 : Int32) <<< (x4 &&& 31))) → (q_wn_X3_knowers_6_35 P5 a_known lf_singers x2 v_1 x4 post)))))))) → P5 x3 x4) → P5 x3 x4
def q_wn_X3_knowers_6_0 (a_known : Nat → Int32) (lf_singers : Int32) (x2 : Int32) (post : Int32 → Prop) : Prop :=
  q_wn_X3_knowers_6_5 a_known lf_singers x2 (0 : Int32) (0 : Int32) post
set_option maxRecDepth 20000 in
theorem t_wn_X3_knowers_6_35 {p : Program} {l : Launch} {e : Env} {s : State} {m : MethodId} {args : Array Value} {below : List Frame} {meth : Method} {c : Code} {E : zE} {qn ql qv : Nat} {f_minute : Int32} {f_avalanches : Int32} {f_begun : Int32} {f_climbed : Int32} {f_seed : Int32} {a_huts : Nat → Int32} {a_known : Nat → Int32} {a_levels : Nat → Int32} {a_snow : Nat → Int32} {a_open : Nat → Int32} {lf_huts : Int32} {lf_singers : Int32} {lf_villages : Int32} {lf_dams : Int32} {lf_echoes : Int32} {lf_deep : Int32} {lf_slide : Int32} {la_heights : Nat → Int32} {la_ladders : Nat → Int32} {la_minutes : Nat → Int32} {la_echoFrom : Nat → Int32} {la_echoTo : Nat → Int32} {la_homes : Nat → Int32} {la_talls : Nat → Int32} {la_known : Nat → Int32} {vf_deeds : Int32} {va_kinds : Nat → Int32} {va_firsts : Nat → Int32} {va_seconds : Nat → Int32} {P5 : Int32 → Int32 → Prop} {post : Int32 → Prop} {x2 : Int32} {x3 : Int32} {x4 : Int32} {ls : Array Slot}
    (zc : zC p s m args meth c cX3_knowers 5 RX3 (some .int))
    (hK : zK E s)
    (hM : wnW E qn ql qv f_minute f_avalanches f_begun f_climbed f_seed a_huts a_known a_levels a_snow a_open lf_huts lf_singers lf_villages lf_dams lf_echoes lf_deep lf_slide la_heights la_ladders la_minutes la_echoFrom la_echoTo la_homes la_talls la_known vf_deeds va_kinds va_firsts va_seconds s.heap)
    (hP5 : ∀ (x3 : Int32) (x4 : Int32) (ls : Array Slot), P5 x3 x4 → lv_has ls 5 [(0, .ref qn), (1, .ref ql), (2, .int x2), (3, .int x3), (4, .int x4)] → W p l e rm_wn_X3_knowers_6 s m args below meth c s.heap [] 0 0 (MQ below (vp_Si post) args s 0 0 (fun _ => False)) (F0 m 5 ls []))
    (hl : lv_has ls 5 [(0, .ref qn), (1, .ref ql), (2, .int x2), (3, .int x3), (4, .int x4)])
    (hw : q_wn_X3_knowers_6_35 P5 a_known lf_singers x2 x3 x4 post) :
    W p l e rm_wn_X3_knowers_6 s m args below meth c s.heap [] 0 0 (MQ below (vp_Si post) args s 0 0 (fun _ => False)) (F0 m 35 ls []) := by
  have hx := zc.1
  have hb := zc.2.1
  obtain ⟨v_1, ev_1⟩ : ∃ y : Int32, y = x4 + (1 : Int32) := ⟨_, rfl⟩
  have hw := hw v_1 ev_1
  refine lv_iinc (v := v_1) (k := 4) (lv' := [(4, .int v_1), (0, .ref qn), (1, .ref ql), (2, .int x2), (3, .int x3)]) hx hb dX3_knowers_35 hl rfl (by rw [ev_1]; rfl) (by decide) rfl (fun ls hl => ?_)
  refine lv_goto (tgt := 5) hx hb dX3_knowers_38 (by decide) ?_
  exact hP5 _ _ _ hw (lv_sub hl [1, 2, 3, 4, 0] rfl)
set_option maxRecDepth 20000 in
theorem t_wn_X3_knowers_6_5 {p : Program} {l : Launch} {e : Env} {s : State} {m : MethodId} {args : Array Value} {below : List Frame} {meth : Method} {c : Code} {E : zE} {qn ql qv : Nat} {f_minute : Int32} {f_avalanches : Int32} {f_begun : Int32} {f_climbed : Int32} {f_seed : Int32} {a_huts : Nat → Int32} {a_known : Nat → Int32} {a_levels : Nat → Int32} {a_snow : Nat → Int32} {a_open : Nat → Int32} {lf_huts : Int32} {lf_singers : Int32} {lf_villages : Int32} {lf_dams : Int32} {lf_echoes : Int32} {lf_deep : Int32} {lf_slide : Int32} {la_heights : Nat → Int32} {la_ladders : Nat → Int32} {la_minutes : Nat → Int32} {la_echoFrom : Nat → Int32} {la_echoTo : Nat → Int32} {la_homes : Nat → Int32} {la_talls : Nat → Int32} {la_known : Nat → Int32} {vf_deeds : Int32} {va_kinds : Nat → Int32} {va_firsts : Nat → Int32} {va_seconds : Nat → Int32} {post : Int32 → Prop} {x2 : Int32} {x3 : Int32} {x4 : Int32} {ls : Array Slot}
    (zc : zC p s m args meth c cX3_knowers 5 RX3 (some .int))
    (hK : zK E s)
    (hM : wnW E qn ql qv f_minute f_avalanches f_begun f_climbed f_seed a_huts a_known a_levels a_snow a_open lf_huts lf_singers lf_villages lf_dams lf_echoes lf_deep lf_slide la_heights la_ladders la_minutes la_echoFrom la_echoTo la_homes la_talls la_known vf_deeds va_kinds va_firsts va_seconds s.heap)
    (hl : lv_has ls 5 [(0, .ref qn), (1, .ref ql), (2, .int x2), (3, .int x3), (4, .int x4)])
    (hw : q_wn_X3_knowers_6_5 a_known lf_singers x2 x3 x4 post) :
    W p l e rm_wn_X3_knowers_6 s m args below meth c s.heap [] 0 0 (MQ below (vp_Si post) args s 0 0 (fun _ => False)) (F0 m 5 ls []) := by
  have hx := zc.1
  have hb := zc.2.1
  refine hw (fun x3 x4 => ∀ (ls : Array Slot), lv_has ls 5 [(0, .ref qn), (1, .ref ql), (2, .int x2), (3, .int x3), (4, .int x4)] → W p l e rm_wn_X3_knowers_6 s m args below meth c s.heap [] 0 0 (MQ below (vp_Si post) args s 0 0 (fun _ => False)) (F0 m 5 ls [])) ?_ _ hl
  intro x3 x4 hw ls hl
  refine lv_iload hx hb dX3_knowers_5 (lv_at hl 4 rfl) ?_
  refine lv_aload_n hx hb dX3_knowers_7 rfl (lv_at hl 1 rfl) ?_
  refine wng_3_53_6 zc hK hM dX3_knowers_8 ?_
  refine lv_icmp_ge (tgt := 41) hx hb dX3_knowers_11 (by decide) (fun hc => ?_) (fun hc => ?_)
  · have hw := hw.1 hc
    refine lv_iload_n hx hb dX3_knowers_41 rfl (lv_at hl 3 rfl) ?_
    exact zret_i zc hw dX3_knowers_42
  · have hw := hw.2 hc
    refine lv_aload_n hx hb dX3_knowers_14 rfl (lv_at hl 0 rfl) ?_
    refine wng_3_15_0 zc hK hM dX3_knowers_15 ?_
    refine lv_iload hx hb dX3_knowers_18 (lv_at hl 4 rfl) ?_
    refine wnld_2 zc hK hM hw.1 dX3_knowers_20 ?_
    have hw := hw.2
    refine lv_iload_n hx hb dX3_knowers_21 rfl (lv_at hl 2 rfl) ?_
    refine zSN_i [.int (a_known (Int32.toNatClampNeg x4)), .int x2] [] zc ky_X10_has kz_X10_has (hK.2 _ kn_3_67) (c_z_X10_has l hw) (zPre0 _) rfl rfl hl.1 (Nat.le_of_ble_eq_true rfl) ⟨rfl, rfl⟩ ⟨Nat.le_of_ble_eq_true rfl, Nat.le_of_ble_eq_true rfl⟩ ⟨(Nat.zero_le _), (Nat.zero_le _)⟩ dX3_knowers_22 (fun r_1 hw => ?_)
    refine lv_if_eq (tgt := 35) hx hb dX3_knowers_25 (by decide) (fun hc => ?_) (fun hc => ?_)
    · have hw := hw.1 hc
      exact t_wn_X3_knowers_6_35 zc hK hM (fun _ _ ls h hl => h ls hl) (lv_sub hl [0, 1, 2, 3, 4] rfl) hw
    · have hw := hw.2 hc
      refine lv_iload_n hx hb dX3_knowers_28 rfl (lv_at hl 3 rfl) ?_
      refine lv_iconst (v := (1 : Int32)) hx hb dX3_knowers_29 (by decide) ?_
      refine lv_iload hx hb dX3_knowers_30 (lv_at hl 4 rfl) ?_
      refine lv_ishl hx hb dX3_knowers_32 ?_
      refine lv_ior hx hb dX3_knowers_33 ?_
      refine lv_topi (fun v_1 ev_1 => ?_)
      have hw := hw v_1 ev_1
      refine lv_istore_n (lv' := [(3, .int v_1), (0, .ref qn), (1, .ref ql), (2, .int x2), (4, .int x4)]) hx hb dX3_knowers_34 rfl hl (by decide) rfl (fun ls hl => ?_)
      exact t_wn_X3_knowers_6_35 zc hK hM (fun _ _ ls h hl => h ls hl) (lv_sub hl [1, 2, 3, 0, 4] rfl) hw
set_option maxRecDepth 20000 in
theorem t_wn_X3_knowers_6_0 {p : Program} {l : Launch} {e : Env} {s : State} {m : MethodId} {args : Array Value} {below : List Frame} {meth : Method} {c : Code} {E : zE} {qn ql qv : Nat} {f_minute : Int32} {f_avalanches : Int32} {f_begun : Int32} {f_climbed : Int32} {f_seed : Int32} {a_huts : Nat → Int32} {a_known : Nat → Int32} {a_levels : Nat → Int32} {a_snow : Nat → Int32} {a_open : Nat → Int32} {lf_huts : Int32} {lf_singers : Int32} {lf_villages : Int32} {lf_dams : Int32} {lf_echoes : Int32} {lf_deep : Int32} {lf_slide : Int32} {la_heights : Nat → Int32} {la_ladders : Nat → Int32} {la_minutes : Nat → Int32} {la_echoFrom : Nat → Int32} {la_echoTo : Nat → Int32} {la_homes : Nat → Int32} {la_talls : Nat → Int32} {la_known : Nat → Int32} {vf_deeds : Int32} {va_kinds : Nat → Int32} {va_firsts : Nat → Int32} {va_seconds : Nat → Int32} {post : Int32 → Prop} {x2 : Int32} {ls : Array Slot}
    (zc : zC p s m args meth c cX3_knowers 5 RX3 (some .int))
    (hK : zK E s)
    (hM : wnW E qn ql qv f_minute f_avalanches f_begun f_climbed f_seed a_huts a_known a_levels a_snow a_open lf_huts lf_singers lf_villages lf_dams lf_echoes lf_deep lf_slide la_heights la_ladders la_minutes la_echoFrom la_echoTo la_homes la_talls la_known vf_deeds va_kinds va_firsts va_seconds s.heap)
    (hl : lv_has ls 5 [(0, .ref qn), (1, .ref ql), (2, .int x2)])
    (hw : q_wn_X3_knowers_6_0 a_known lf_singers x2 post) :
    W p l e rm_wn_X3_knowers_6 s m args below meth c s.heap [] 0 0 (MQ below (vp_Si post) args s 0 0 (fun _ => False)) (F0 m 0 ls []) := by
  have hx := zc.1
  have hb := zc.2.1
  refine lv_iconst (v := (0 : Int32)) hx hb dX3_knowers_0 (by decide) ?_
  refine lv_istore_n (lv' := [(3, .int (0 : Int32)), (0, .ref qn), (1, .ref ql), (2, .int x2)]) hx hb dX3_knowers_1 rfl hl (by decide) rfl (fun ls hl => ?_)
  refine lv_iconst (v := (0 : Int32)) hx hb dX3_knowers_2 (by decide) ?_
  refine lv_istore (lv' := [(4, .int (0 : Int32)), (3, .int (0 : Int32)), (0, .ref qn), (1, .ref ql), (2, .int x2)]) hx hb dX3_knowers_3 hl (by decide) rfl (fun ls hl => ?_)
  exact t_wn_X3_knowers_6_5 zc hK hM  (lv_sub hl [2, 3, 4, 1, 0] rfl) hw
set_option maxRecDepth 20000 in
theorem c_wn_X3_knowers_6 (l : Launch) {E : zE} {qn ql qv : Nat} {f_minute : Int32} {f_avalanches : Int32} {f_begun : Int32} {f_climbed : Int32} {f_seed : Int32} {a_huts : Nat → Int32} {a_known : Nat → Int32} {a_levels : Nat → Int32} {a_snow : Nat → Int32} {a_open : Nat → Int32} {lf_huts : Int32} {lf_singers : Int32} {lf_villages : Int32} {lf_dams : Int32} {lf_echoes : Int32} {lf_deep : Int32} {lf_slide : Int32} {la_heights : Nat → Int32} {la_ladders : Nat → Int32} {la_minutes : Nat → Int32} {la_echoFrom : Nat → Int32} {la_echoTo : Nat → Int32} {la_homes : Nat → Int32} {la_talls : Nat → Int32} {la_known : Nat → Int32} {vf_deeds : Int32} {va_kinds : Nat → Int32} {va_firsts : Nat → Int32} {va_seconds : Nat → Int32} {x2 : Int32} {post : Int32 → Prop} (hw : q_wn_X3_knowers_6_0 a_known lf_singers x2 post) : Met l yX3_knowers (Cond.code yX3_knowers cX3_knowers 5 (some .int) :: zb) rm_wn_X3_knowers_6 (va_Pc [.ref qn, .ref ql, .int x2] (fun U => wnW E qn ql qv f_minute f_avalanches f_begun f_climbed f_seed a_huts a_known a_levels a_snow a_open lf_huts lf_singers lf_villages lf_dams lf_echoes lf_deep lf_slide la_heights la_ladders la_minutes la_echoFrom la_echoTo la_homes la_talls la_known vf_deeds va_kinds va_firsts va_seconds U.heap ∧ zK E U)) (vp_Si post) 0 0 (fun _ => False) := by
  refine Met.ofW (cc := cX3_knowers) (maxL := 5) (ret := (some .int)) (by decide) rfl ?_
  intro p e s m args below meth c s₁ B hml hv
  obtain ⟨rfl, hM, hK⟩ := hv
  have zc := zc_of B hml
  have hl := lv_entry ([.ref qn, .ref ql, .int x2]) (n := 5) (Nat.le_of_ble_eq_true rfl)
  rw [lg_entry_eq]
  generalize (lg_sl ([.ref qn, .ref ql, .int x2]) ++ List.replicate (5 - (lg_sl ([.ref qn, .ref ql, .int x2])).length) Slot.unset).toArray = ls at hl ⊢
  have hl : lv_has ls 5 [(0, .ref qn), (1, .ref ql), (2, .int x2)] := hl
  exact t_wn_X3_knowers_6_0 zc hK hM (lv_sub hl [0, 1, 2] rfl) hw
-- wn_X3_lookSinger_6
abbrev rm_wn_X3_lookSinger_6 : Room := { frames := 2, cells := 0, slots := 0, locals := 45 }
def q_wn_X3_lookSinger_6_0 (f_climbed : Int32) (a_huts : Nat → Int32) (a_known : Nat → Int32) (la_heights : Nat → Int32) (la_ladders : Nat → Int32) (la_talls : Nat → Int32) (x2 : Int32) (x3 : Int32) (post : Int32 → Prop) : Prop :=
  (x2.toInt < 3 ∨ 5 < x2.toInt → (q_wn_X3_high_6_0 f_climbed a_huts la_heights la_ladders la_talls x3 (fun r_1 => post r_1))) ∧ (x2 = (3 : Int32) → (vp_in x3 6 ∧ (post (a_huts (Int32.toNatClampNeg x3))))) ∧ (x2 = (4 : Int32) → (vp_in x3 6 ∧ (post (a_known (Int32.toNatClampNeg x3))))) ∧ (x2 = (5 : Int32) → (q_z_X10_has_0 f_climbed x3 (fun r_2 => (r_2 = 0 → (post (0 : Int32))) ∧ (¬ r_2 = 0 → (post (1 : Int32))))))
set_option maxRecDepth 20000 in
theorem t_wn_X3_lookSinger_6_0 {p : Program} {l : Launch} {e : Env} {s : State} {m : MethodId} {args : Array Value} {below : List Frame} {meth : Method} {c : Code} {E : zE} {qn ql qv : Nat} {f_minute : Int32} {f_avalanches : Int32} {f_begun : Int32} {f_climbed : Int32} {f_seed : Int32} {a_huts : Nat → Int32} {a_known : Nat → Int32} {a_levels : Nat → Int32} {a_snow : Nat → Int32} {a_open : Nat → Int32} {lf_huts : Int32} {lf_singers : Int32} {lf_villages : Int32} {lf_dams : Int32} {lf_echoes : Int32} {lf_deep : Int32} {lf_slide : Int32} {la_heights : Nat → Int32} {la_ladders : Nat → Int32} {la_minutes : Nat → Int32} {la_echoFrom : Nat → Int32} {la_echoTo : Nat → Int32} {la_homes : Nat → Int32} {la_talls : Nat → Int32} {la_known : Nat → Int32} {vf_deeds : Int32} {va_kinds : Nat → Int32} {va_firsts : Nat → Int32} {va_seconds : Nat → Int32} {post : Int32 → Prop} {x2 : Int32} {x3 : Int32} {ls : Array Slot}
    (zc : zC p s m args meth c cX3_lookSinger 4 RX3 (some .int))
    (hK : zK E s)
    (hM : wnW E qn ql qv f_minute f_avalanches f_begun f_climbed f_seed a_huts a_known a_levels a_snow a_open lf_huts lf_singers lf_villages lf_dams lf_echoes lf_deep lf_slide la_heights la_ladders la_minutes la_echoFrom la_echoTo la_homes la_talls la_known vf_deeds va_kinds va_firsts va_seconds s.heap)
    (hl : lv_has ls 4 [(0, .ref qn), (1, .ref ql), (2, .int x2), (3, .int x3)])
    (hw : q_wn_X3_lookSinger_6_0 f_climbed a_huts a_known la_heights la_ladders la_talls x2 x3 post) :
    W p l e rm_wn_X3_lookSinger_6 s m args below meth c s.heap [] 0 0 (MQ below (vp_Si post) args s 0 0 (fun _ => False)) (F0 m 0 ls []) := by
  have hx := zc.1
  have hb := zc.2.1
  refine lv_iload_n hx hb dX3_lookSinger_0 rfl (lv_at hl 2 rfl) ?_
  by_cases hc : x2.toInt < 3 ∨ 5 < x2.toInt
  · have hw := hw.1 hc
    refine lv_tableOut (tgt := 59) hx hb dX3_lookSinger_1 hc (by decide) ?_
    refine lv_aload_n hx hb dX3_lookSinger_59 rfl (lv_at hl 0 rfl) ?_
    refine lv_aload_n hx hb dX3_lookSinger_60 rfl (lv_at hl 1 rfl) ?_
    refine lv_iload_n hx hb dX3_lookSinger_61 rfl (lv_at hl 3 rfl) ?_
    refine zV_i [.ref ql, .int x3] [] zc ky_X3_high kz_X3_high km_3_130 (c_wn_X3_high_6 l hw) (wnPreV0 hK hM) rfl rfl hl.1 (Nat.le_of_ble_eq_true rfl) ⟨rfl, rfl⟩ ⟨Nat.le_of_ble_eq_true rfl, Nat.le_of_ble_eq_true rfl⟩ ⟨(Nat.zero_le _), (Nat.zero_le _)⟩ dX3_lookSinger_62 (fun r_1 hw => ?_)
    exact zret_i zc hw dX3_lookSinger_65
  have hin := zsw hc
  by_cases hc0 : x2 = (3 : Int32)
  · have hw := hw.2.1 hc0
    refine lv_tableIn (tgt := 28) hx hb dX3_lookSinger_1 (by rw [hc0]; decide) (by rw [hc0]; decide) (by rw [hc0]; rfl) (by decide) ?_
    refine lv_aload_n hx hb dX3_lookSinger_28 rfl (lv_at hl 0 rfl) ?_
    refine wng_3_9_0 zc hK hM dX3_lookSinger_29 ?_
    refine lv_iload_n hx hb dX3_lookSinger_32 rfl (lv_at hl 3 rfl) ?_
    refine wnld_1 zc hK hM hw.1 dX3_lookSinger_33 ?_
    have hw := hw.2
    exact zret_i zc hw dX3_lookSinger_34
  by_cases hc1 : x2 = (4 : Int32)
  · have hw := hw.2.2.1 hc1
    refine lv_tableIn (tgt := 35) hx hb dX3_lookSinger_1 (by rw [hc1]; decide) (by rw [hc1]; decide) (by rw [hc1]; rfl) (by decide) ?_
    refine lv_aload_n hx hb dX3_lookSinger_35 rfl (lv_at hl 0 rfl) ?_
    refine wng_3_15_0 zc hK hM dX3_lookSinger_36 ?_
    refine lv_iload_n hx hb dX3_lookSinger_39 rfl (lv_at hl 3 rfl) ?_
    refine wnld_2 zc hK hM hw.1 dX3_lookSinger_40 ?_
    have hw := hw.2
    exact zret_i zc hw dX3_lookSinger_41
  by_cases hc2 : x2 = (5 : Int32)
  · have hw := hw.2.2.2 hc2
    refine lv_tableIn (tgt := 42) hx hb dX3_lookSinger_1 (by rw [hc2]; decide) (by rw [hc2]; decide) (by rw [hc2]; rfl) (by decide) ?_
    refine lv_aload_n hx hb dX3_lookSinger_42 rfl (lv_at hl 0 rfl) ?_
    refine wng_3_78_0 zc hK hM dX3_lookSinger_43 ?_
    refine lv_iload_n hx hb dX3_lookSinger_46 rfl (lv_at hl 3 rfl) ?_
    refine zSN_i [.int f_climbed, .int x3] [] zc ky_X10_has kz_X10_has (hK.2 _ kn_3_67) (c_z_X10_has l hw) (zPre0 _) rfl rfl hl.1 (Nat.le_of_ble_eq_true rfl) ⟨rfl, rfl⟩ ⟨Nat.le_of_ble_eq_true rfl, Nat.le_of_ble_eq_true rfl⟩ ⟨(Nat.zero_le _), (Nat.zero_le _)⟩ dX3_lookSinger_47 (fun r_2 hw => ?_)
    refine lv_if_eq (tgt := 57) hx hb dX3_lookSinger_50 (by decide) (fun hc => ?_) (fun hc => ?_)
    · have hw := hw.1 hc
      refine lv_iconst (v := (0 : Int32)) hx hb dX3_lookSinger_57 (by decide) ?_
      exact zret_i zc hw dX3_lookSinger_58
    · have hw := hw.2 hc
      refine lv_iconst (v := (1 : Int32)) hx hb dX3_lookSinger_53 (by decide) ?_
      refine lv_goto (tgt := 58) hx hb dX3_lookSinger_54 (by decide) ?_
      exact zret_i zc hw dX3_lookSinger_58
  exact absurd hin (by have h0 := zne hc0; have h1 := zne hc1; have h2 := zne hc2; simp at *; omega)
set_option maxRecDepth 20000 in
theorem c_wn_X3_lookSinger_6 (l : Launch) {E : zE} {qn ql qv : Nat} {f_minute : Int32} {f_avalanches : Int32} {f_begun : Int32} {f_climbed : Int32} {f_seed : Int32} {a_huts : Nat → Int32} {a_known : Nat → Int32} {a_levels : Nat → Int32} {a_snow : Nat → Int32} {a_open : Nat → Int32} {lf_huts : Int32} {lf_singers : Int32} {lf_villages : Int32} {lf_dams : Int32} {lf_echoes : Int32} {lf_deep : Int32} {lf_slide : Int32} {la_heights : Nat → Int32} {la_ladders : Nat → Int32} {la_minutes : Nat → Int32} {la_echoFrom : Nat → Int32} {la_echoTo : Nat → Int32} {la_homes : Nat → Int32} {la_talls : Nat → Int32} {la_known : Nat → Int32} {vf_deeds : Int32} {va_kinds : Nat → Int32} {va_firsts : Nat → Int32} {va_seconds : Nat → Int32} {x2 : Int32} {x3 : Int32} {post : Int32 → Prop} (hw : q_wn_X3_lookSinger_6_0 f_climbed a_huts a_known la_heights la_ladders la_talls x2 x3 post) : Met l yX3_lookSinger (Cond.code yX3_lookSinger cX3_lookSinger 4 (some .int) :: zb) rm_wn_X3_lookSinger_6 (va_Pc [.ref qn, .ref ql, .int x2, .int x3] (fun U => wnW E qn ql qv f_minute f_avalanches f_begun f_climbed f_seed a_huts a_known a_levels a_snow a_open lf_huts lf_singers lf_villages lf_dams lf_echoes lf_deep lf_slide la_heights la_ladders la_minutes la_echoFrom la_echoTo la_homes la_talls la_known vf_deeds va_kinds va_firsts va_seconds U.heap ∧ zK E U)) (vp_Si post) 0 0 (fun _ => False) := by
  refine Met.ofW (cc := cX3_lookSinger) (maxL := 4) (ret := (some .int)) (by decide) rfl ?_
  intro p e s m args below meth c s₁ B hml hv
  obtain ⟨rfl, hM, hK⟩ := hv
  have zc := zc_of B hml
  have hl := lv_entry ([.ref qn, .ref ql, .int x2, .int x3]) (n := 4) (Nat.le_of_ble_eq_true rfl)
  rw [lg_entry_eq]
  generalize (lg_sl ([.ref qn, .ref ql, .int x2, .int x3]) ++ List.replicate (4 - (lg_sl ([.ref qn, .ref ql, .int x2, .int x3])).length) Slot.unset).toArray = ls at hl ⊢
  have hl : lv_has ls 4 [(0, .ref qn), (1, .ref ql), (2, .int x2), (3, .int x3)] := hl
  exact t_wn_X3_lookSinger_6_0 zc hK hM (lv_sub hl [0, 1, 2, 3] rfl) hw
-- wn_X3_openWays_6
abbrev rm_wn_X3_openWays_6 : Room := { frames := 1, cells := 0, slots := 0, locals := 22 }
def q_wn_X3_openWays_6_71 (P2 : Int32 → (Nat → Int32) → Prop) (P19 : Int32 → (Nat → Int32) → Prop) (a_snow : Nat → Int32) (a_open : Nat → Int32) (lf_huts : Int32) (lf_deep : Int32) (la_minutes : Nat → Int32) (x2 : Int32) (x3 : Int32) (post : (Nat → Int32) → Prop) : Prop :=
  ∀ v_1 : Int32, v_1 = x3 + (1 : Int32) → (P19 v_1 a_open)
def q_wn_X3_openWays_6_19 (P2 : Int32 → (Nat → Int32) → Prop) (a_snow : Nat → Int32) (a_open : Nat → Int32) (lf_huts : Int32) (lf_deep : Int32) (la_minutes : Nat → Int32) (x2 : Int32) (x3 : Int32) (post : (Nat → Int32) → Prop) : Prop :=
  ∀ P19 : Int32 → (Nat → Int32) → Prop, (∀ (x3 : Int32) (a_open : Nat → Int32), ((lf_huts ≤ x3 → (∀ v_1 : Int32, v_1 = x2 + (1 : Int32) → (P2 v_1 a_open))) ∧ (¬ lf_huts ≤ x3 → (vp_in ((x2 * (9 : Int32)) + x3) 81 ∧ (((la_minutes (Int32.toNatClampNeg ((x2 * (9 : Int32)) + x3))) ≤ 0 → (q_wn_X3_openWays_6_71 P2 P19 a_snow a_open lf_huts lf_deep la_minutes x2 x3 post)) ∧ (¬ (la_minutes (Int32.toNatClampNeg ((x2 * (9 : Int32)) + x3))) ≤ 0 → (q_wn_X3_isCut_6_0 a_snow lf_deep x2 (fun r_1 => (¬ r_1 = 0 → (q_wn_X3_openWays_6_71 P2 P19 a_snow a_open lf_huts lf_deep la_minutes x2 x3 post)) ∧ (r_1 = 0 → (q_wn_X3_isCut_6_0 a_snow lf_deep x3 (fun r_2 => (¬ r_2 = 0 → (q_wn_X3_openWays_6_71 P2 P19 a_snow a_open lf_huts lf_deep la_minutes x2 x3 post)) ∧ (r_2 = 0 → (vp_in x2 9 ∧ (∀ v_2 : Int32, v_2 = ((a_open (Int32.toNatClampNeg x2)) ||| ((1 : Int32) <<< (x3 &&& 31))) → (vp_in x2 9 ∧ (∀ a_open_1 : Nat → Int32, a_open_1 = upd a_open (Int32.toNatClampNeg x2) v_2 → (q_wn_X3_openWays_6_71 P2 P19 a_snow a_open_1 lf_huts lf_deep la_minutes x2 x3 post)))))))))))))))) → P19 x3 a_open) → P19 x3 a_open
def q_wn_X3_openWays_6_2 (a_snow : Nat → Int32) (a_open : Nat → Int32) (lf_huts : Int32) (lf_deep : Int32) (la_minutes : Nat → Int32) (x2 : Int32) (post : (Nat → Int32) → Prop) : Prop :=
  ∀ P2 : Int32 → (Nat → Int32) → Prop, (∀ (x2 : Int32) (a_open : Nat → Int32), ((lf_huts ≤ x2 → (post a_open)) ∧ (¬ lf_huts ≤ x2 → (vp_in x2 9 ∧ (∀ a_open_1 : Nat → Int32, a_open_1 = upd a_open (Int32.toNatClampNeg x2) (0 : Int32) → (q_wn_X3_openWays_6_19 P2 a_snow a_open_1 lf_huts lf_deep la_minutes x2 (0 : Int32) post))))) → P2 x2 a_open) → P2 x2 a_open
def q_wn_X3_openWays_6_0 (a_snow : Nat → Int32) (a_open : Nat → Int32) (lf_huts : Int32) (lf_deep : Int32) (la_minutes : Nat → Int32) (post : (Nat → Int32) → Prop) : Prop :=
  q_wn_X3_openWays_6_2 a_snow a_open lf_huts lf_deep la_minutes (0 : Int32) post
set_option maxRecDepth 20000 in
theorem t_wn_X3_openWays_6_71 {p : Program} {l : Launch} {e : Env} {s : State} {m : MethodId} {args : Array Value} {below : List Frame} {meth : Method} {c : Code} {E : zE} {qn ql qv : Nat} {f_minute : Int32} {f_avalanches : Int32} {f_begun : Int32} {f_climbed : Int32} {f_seed : Int32} {a_huts : Nat → Int32} {a_known : Nat → Int32} {a_levels : Nat → Int32} {a_snow : Nat → Int32} {a_open : Nat → Int32} {lf_huts : Int32} {lf_singers : Int32} {lf_villages : Int32} {lf_dams : Int32} {lf_echoes : Int32} {lf_deep : Int32} {lf_slide : Int32} {la_heights : Nat → Int32} {la_ladders : Nat → Int32} {la_minutes : Nat → Int32} {la_echoFrom : Nat → Int32} {la_echoTo : Nat → Int32} {la_homes : Nat → Int32} {la_talls : Nat → Int32} {la_known : Nat → Int32} {vf_deeds : Int32} {va_kinds : Nat → Int32} {va_firsts : Nat → Int32} {va_seconds : Nat → Int32} {P2 : Int32 → (Nat → Int32) → Prop} {P19 : Int32 → (Nat → Int32) → Prop} {post : (Nat → Int32) → Prop} {x2 : Int32} {x3 : Int32} {ls : Array Slot} {H : Heap} {locs : List Loc}
    (zc : zC p s m args meth c cX3_openWays 4 RX3 none)
    (hK : zK E s)
    (hM : wnW E qn ql qv f_minute f_avalanches f_begun f_climbed f_seed a_huts a_known a_levels a_snow a_open lf_huts lf_singers lf_villages lf_dams lf_echoes lf_deep lf_slide la_heights la_ladders la_minutes la_echoFrom la_echoTo la_homes la_talls la_known vf_deeds va_kinds va_firsts va_seconds H)
    (hS : va_S (wnA qn ql qv) s.heap H locs)
    (hP2 : ∀ (x2 : Int32) (a_open : Nat → Int32) (H : Heap) (locs : List Loc) (ls : Array Slot), P2 x2 a_open → lv_has ls 4 [(0, .ref qn), (1, .ref ql), (2, .int x2)] → wnW E qn ql qv f_minute f_avalanches f_begun f_climbed f_seed a_huts a_known a_levels a_snow a_open lf_huts lf_singers lf_villages lf_dams lf_echoes lf_deep lf_slide la_heights la_ladders la_minutes la_echoFrom la_echoTo la_homes la_talls la_known vf_deeds va_kinds va_firsts va_seconds H → va_S (wnA qn ql qv) s.heap H locs → W p l e rm_wn_X3_openWays_6 s m args below meth c H locs 0 0 (MQ below (zQv (S := (Nat → Int32)) (fun u => post u) (fun u H => wnW E qn ql qv f_minute f_avalanches f_begun f_climbed f_seed a_huts a_known a_levels a_snow u lf_huts lf_singers lf_villages lf_dams lf_echoes lf_deep lf_slide la_heights la_ladders la_minutes la_echoFrom la_echoTo la_homes la_talls la_known vf_deeds va_kinds va_firsts va_seconds H) (wnA qn ql qv)) args s 0 0 (wnA qn ql qv)) (F0 m 2 ls []))
    (hP19 : ∀ (x3 : Int32) (a_open : Nat → Int32) (H : Heap) (locs : List Loc) (ls : Array Slot), P19 x3 a_open → lv_has ls 4 [(0, .ref qn), (1, .ref ql), (2, .int x2), (3, .int x3)] → wnW E qn ql qv f_minute f_avalanches f_begun f_climbed f_seed a_huts a_known a_levels a_snow a_open lf_huts lf_singers lf_villages lf_dams lf_echoes lf_deep lf_slide la_heights la_ladders la_minutes la_echoFrom la_echoTo la_homes la_talls la_known vf_deeds va_kinds va_firsts va_seconds H → va_S (wnA qn ql qv) s.heap H locs → W p l e rm_wn_X3_openWays_6 s m args below meth c H locs 0 0 (MQ below (zQv (S := (Nat → Int32)) (fun u => post u) (fun u H => wnW E qn ql qv f_minute f_avalanches f_begun f_climbed f_seed a_huts a_known a_levels a_snow u lf_huts lf_singers lf_villages lf_dams lf_echoes lf_deep lf_slide la_heights la_ladders la_minutes la_echoFrom la_echoTo la_homes la_talls la_known vf_deeds va_kinds va_firsts va_seconds H) (wnA qn ql qv)) args s 0 0 (wnA qn ql qv)) (F0 m 19 ls []))
    (hl : lv_has ls 4 [(0, .ref qn), (1, .ref ql), (2, .int x2), (3, .int x3)])
    (hw : q_wn_X3_openWays_6_71 P2 P19 a_snow a_open lf_huts lf_deep la_minutes x2 x3 post) :
    W p l e rm_wn_X3_openWays_6 s m args below meth c H locs 0 0 (MQ below (zQv (S := (Nat → Int32)) (fun u => post u) (fun u H => wnW E qn ql qv f_minute f_avalanches f_begun f_climbed f_seed a_huts a_known a_levels a_snow u lf_huts lf_singers lf_villages lf_dams lf_echoes lf_deep lf_slide la_heights la_ladders la_minutes la_echoFrom la_echoTo la_homes la_talls la_known vf_deeds va_kinds va_firsts va_seconds H) (wnA qn ql qv)) args s 0 0 (wnA qn ql qv)) (F0 m 71 ls []) := by
  have hx := zc.1
  have hb := zc.2.1
  obtain ⟨v_1, ev_1⟩ : ∃ y : Int32, y = x3 + (1 : Int32) := ⟨_, rfl⟩
  have hw := hw v_1 ev_1
  refine lv_iinc (v := v_1) (k := 3) (lv' := [(3, .int v_1), (0, .ref qn), (1, .ref ql), (2, .int x2)]) hx hb dX3_openWays_71 hl rfl (by rw [ev_1]; rfl) (by decide) rfl (fun ls hl => ?_)
  refine lv_goto (tgt := 19) hx hb dX3_openWays_74 (by decide) ?_
  exact hP19 _ _ _ _ _ hw (lv_sub hl [1, 2, 3, 0] rfl) hM hS
set_option maxRecDepth 20000 in
theorem t_wn_X3_openWays_6_19 {p : Program} {l : Launch} {e : Env} {s : State} {m : MethodId} {args : Array Value} {below : List Frame} {meth : Method} {c : Code} {E : zE} {qn ql qv : Nat} {f_minute : Int32} {f_avalanches : Int32} {f_begun : Int32} {f_climbed : Int32} {f_seed : Int32} {a_huts : Nat → Int32} {a_known : Nat → Int32} {a_levels : Nat → Int32} {a_snow : Nat → Int32} {a_open : Nat → Int32} {lf_huts : Int32} {lf_singers : Int32} {lf_villages : Int32} {lf_dams : Int32} {lf_echoes : Int32} {lf_deep : Int32} {lf_slide : Int32} {la_heights : Nat → Int32} {la_ladders : Nat → Int32} {la_minutes : Nat → Int32} {la_echoFrom : Nat → Int32} {la_echoTo : Nat → Int32} {la_homes : Nat → Int32} {la_talls : Nat → Int32} {la_known : Nat → Int32} {vf_deeds : Int32} {va_kinds : Nat → Int32} {va_firsts : Nat → Int32} {va_seconds : Nat → Int32} {P2 : Int32 → (Nat → Int32) → Prop} {post : (Nat → Int32) → Prop} {x2 : Int32} {x3 : Int32} {ls : Array Slot} {H : Heap} {locs : List Loc}
    (zc : zC p s m args meth c cX3_openWays 4 RX3 none)
    (hK : zK E s)
    (hM : wnW E qn ql qv f_minute f_avalanches f_begun f_climbed f_seed a_huts a_known a_levels a_snow a_open lf_huts lf_singers lf_villages lf_dams lf_echoes lf_deep lf_slide la_heights la_ladders la_minutes la_echoFrom la_echoTo la_homes la_talls la_known vf_deeds va_kinds va_firsts va_seconds H)
    (hS : va_S (wnA qn ql qv) s.heap H locs)
    (hP2 : ∀ (x2 : Int32) (a_open : Nat → Int32) (H : Heap) (locs : List Loc) (ls : Array Slot), P2 x2 a_open → lv_has ls 4 [(0, .ref qn), (1, .ref ql), (2, .int x2)] → wnW E qn ql qv f_minute f_avalanches f_begun f_climbed f_seed a_huts a_known a_levels a_snow a_open lf_huts lf_singers lf_villages lf_dams lf_echoes lf_deep lf_slide la_heights la_ladders la_minutes la_echoFrom la_echoTo la_homes la_talls la_known vf_deeds va_kinds va_firsts va_seconds H → va_S (wnA qn ql qv) s.heap H locs → W p l e rm_wn_X3_openWays_6 s m args below meth c H locs 0 0 (MQ below (zQv (S := (Nat → Int32)) (fun u => post u) (fun u H => wnW E qn ql qv f_minute f_avalanches f_begun f_climbed f_seed a_huts a_known a_levels a_snow u lf_huts lf_singers lf_villages lf_dams lf_echoes lf_deep lf_slide la_heights la_ladders la_minutes la_echoFrom la_echoTo la_homes la_talls la_known vf_deeds va_kinds va_firsts va_seconds H) (wnA qn ql qv)) args s 0 0 (wnA qn ql qv)) (F0 m 2 ls []))
    (hl : lv_has ls 4 [(0, .ref qn), (1, .ref ql), (2, .int x2), (3, .int x3)])
    (hw : q_wn_X3_openWays_6_19 P2 a_snow a_open lf_huts lf_deep la_minutes x2 x3 post) :
    W p l e rm_wn_X3_openWays_6 s m args below meth c H locs 0 0 (MQ below (zQv (S := (Nat → Int32)) (fun u => post u) (fun u H => wnW E qn ql qv f_minute f_avalanches f_begun f_climbed f_seed a_huts a_known a_levels a_snow u lf_huts lf_singers lf_villages lf_dams lf_echoes lf_deep lf_slide la_heights la_ladders la_minutes la_echoFrom la_echoTo la_homes la_talls la_known vf_deeds va_kinds va_firsts va_seconds H) (wnA qn ql qv)) args s 0 0 (wnA qn ql qv)) (F0 m 19 ls []) := by
  have hx := zc.1
  have hb := zc.2.1
  refine hw (fun x3 a_open => ∀ (H : Heap) (locs : List Loc) (ls : Array Slot), lv_has ls 4 [(0, .ref qn), (1, .ref ql), (2, .int x2), (3, .int x3)] → wnW E qn ql qv f_minute f_avalanches f_begun f_climbed f_seed a_huts a_known a_levels a_snow a_open lf_huts lf_singers lf_villages lf_dams lf_echoes lf_deep lf_slide la_heights la_ladders la_minutes la_echoFrom la_echoTo la_homes la_talls la_known vf_deeds va_kinds va_firsts va_seconds H → va_S (wnA qn ql qv) s.heap H locs → W p l e rm_wn_X3_openWays_6 s m args below meth c H locs 0 0 (MQ below (zQv (S := (Nat → Int32)) (fun u => post u) (fun u H => wnW E qn ql qv f_minute f_avalanches f_begun f_climbed f_seed a_huts a_known a_levels a_snow u lf_huts lf_singers lf_villages lf_dams lf_echoes lf_deep lf_slide la_heights la_ladders la_minutes la_echoFrom la_echoTo la_homes la_talls la_known vf_deeds va_kinds va_firsts va_seconds H) (wnA qn ql qv)) args s 0 0 (wnA qn ql qv)) (F0 m 19 ls [])) ?_ _ _ _ hl hM hS
  intro x3 a_open hw H locs ls hl hM hS
  refine lv_iload_n hx hb dX3_openWays_19 rfl (lv_at hl 3 rfl) ?_
  refine lv_aload_n hx hb dX3_openWays_20 rfl (lv_at hl 1 rfl) ?_
  refine wng_3_62_6 zc hK hM dX3_openWays_21 ?_
  refine lv_icmp_ge (tgt := 77) hx hb dX3_openWays_24 (by decide) (fun hc => ?_) (fun hc => ?_)
  · have hw := hw.1 hc
    obtain ⟨v_1, ev_1⟩ : ∃ y : Int32, y = x2 + (1 : Int32) := ⟨_, rfl⟩
    have hw := hw v_1 ev_1
    refine lv_iinc (v := v_1) (k := 2) (lv' := [(2, .int v_1), (0, .ref qn), (1, .ref ql), (3, .int x3)]) hx hb dX3_openWays_77 hl rfl (by rw [ev_1]; rfl) (by decide) rfl (fun ls hl => ?_)
    refine lv_goto (tgt := 2) hx hb dX3_openWays_80 (by decide) ?_
    exact hP2 _ _ _ _ _ hw (lv_sub hl [1, 2, 0] rfl) hM hS
  · have hw := hw.2 hc
    refine lv_aload_n hx hb dX3_openWays_27 rfl (lv_at hl 1 rfl) ?_
    refine wng_3_121_6 zc hK hM dX3_openWays_28 ?_
    refine lv_iload_n hx hb dX3_openWays_31 rfl (lv_at hl 2 rfl) ?_
    refine lv_bipush (v := (9 : Int32)) hx hb dX3_openWays_32 (by decide) ?_
    refine lv_imul hx hb dX3_openWays_34 ?_
    refine lv_iload_n hx hb dX3_openWays_35 rfl (lv_at hl 3 rfl) ?_
    refine lv_iadd hx hb dX3_openWays_36 ?_
    refine wnld_9 zc hK hM hw.1 dX3_openWays_37 ?_
    have hw := hw.2
    refine lv_if_le (tgt := 71) hx hb dX3_openWays_38 (by decide) (fun hc => ?_) (fun hc => ?_)
    · have hw := hw.1 hc
      exact t_wn_X3_openWays_6_71 zc hK hM hS hP2 (fun _ _ H locs ls h hl hM hS => h H locs ls hl hM hS) (lv_sub hl [0, 1, 2, 3] rfl) hw
    · have hw := hw.2 hc
      refine lv_aload_n hx hb dX3_openWays_41 rfl (lv_at hl 0 rfl) ?_
      refine lv_aload_n hx hb dX3_openWays_42 rfl (lv_at hl 1 rfl) ?_
      refine lv_iload_n hx hb dX3_openWays_43 rfl (lv_at hl 2 rfl) ?_
      refine zV_i [.ref ql, .int x2] [] zc ky_X3_isCut kz_X3_isCut km_3_118 (c_wn_X3_isCut_6 l hw) (wnPreV0 hK hM) rfl rfl hl.1 (Nat.le_of_ble_eq_true rfl) ⟨rfl, rfl⟩ ⟨Nat.le_of_ble_eq_true rfl, Nat.le_of_ble_eq_true rfl⟩ ⟨(Nat.zero_le _), (Nat.zero_le _)⟩ dX3_openWays_44 (fun r_1 hw => ?_)
      refine lv_if_ne (tgt := 71) hx hb dX3_openWays_47 (by decide) (fun hc => ?_) (fun hc => ?_)
      · have hw := hw.1 hc
        exact t_wn_X3_openWays_6_71 zc hK hM hS hP2 (fun _ _ H locs ls h hl hM hS => h H locs ls hl hM hS) (lv_sub hl [0, 1, 2, 3] rfl) hw
      · have hw := hw.2 hc
        refine lv_aload_n hx hb dX3_openWays_50 rfl (lv_at hl 0 rfl) ?_
        refine lv_aload_n hx hb dX3_openWays_51 rfl (lv_at hl 1 rfl) ?_
        refine lv_iload_n hx hb dX3_openWays_52 rfl (lv_at hl 3 rfl) ?_
        refine zV_i [.ref ql, .int x3] [] zc ky_X3_isCut kz_X3_isCut km_3_118 (c_wn_X3_isCut_6 l hw) (wnPreV0 hK hM) rfl rfl hl.1 (Nat.le_of_ble_eq_true rfl) ⟨rfl, rfl⟩ ⟨Nat.le_of_ble_eq_true rfl, Nat.le_of_ble_eq_true rfl⟩ ⟨(Nat.zero_le _), (Nat.zero_le _)⟩ dX3_openWays_53 (fun r_2 hw => ?_)
        refine lv_if_ne (tgt := 71) hx hb dX3_openWays_56 (by decide) (fun hc => ?_) (fun hc => ?_)
        · have hw := hw.1 hc
          exact t_wn_X3_openWays_6_71 zc hK hM hS hP2 (fun _ _ H locs ls h hl hM hS => h H locs ls hl hM hS) (lv_sub hl [0, 1, 2, 3] rfl) hw
        · have hw := hw.2 hc
          refine lv_aload_n hx hb dX3_openWays_59 rfl (lv_at hl 0 rfl) ?_
          refine wng_3_24_0 zc hK hM dX3_openWays_60 ?_
          refine lv_iload_n hx hb dX3_openWays_63 rfl (lv_at hl 2 rfl) ?_
          refine lv_dup2_11 hx hb dX3_openWays_64 rfl rfl ?_
          refine wnld_5 zc hK hM hw.1 dX3_openWays_65 ?_
          have hw := hw.2
          refine lv_iconst (v := (1 : Int32)) hx hb dX3_openWays_66 (by decide) ?_
          refine lv_iload_n hx hb dX3_openWays_67 rfl (lv_at hl 3 rfl) ?_
          refine lv_ishl hx hb dX3_openWays_68 ?_
          refine lv_ior hx hb dX3_openWays_69 ?_
          refine lv_topi (fun v_2 ev_2 => ?_)
          have hw := hw v_2 ev_2
          refine wnst_5 zc hK hM hS hw.1 dX3_openWays_70 (fun a_open_1 H locs ea_open_1 hM hS => ?_)
          have hw := hw.2 a_open_1 ea_open_1
          exact t_wn_X3_openWays_6_71 zc hK hM hS hP2 (fun _ _ H locs ls h hl hM hS => h H locs ls hl hM hS) (lv_sub hl [0, 1, 2, 3] rfl) hw
set_option maxRecDepth 20000 in
theorem t_wn_X3_openWays_6_2 {p : Program} {l : Launch} {e : Env} {s : State} {m : MethodId} {args : Array Value} {below : List Frame} {meth : Method} {c : Code} {E : zE} {qn ql qv : Nat} {f_minute : Int32} {f_avalanches : Int32} {f_begun : Int32} {f_climbed : Int32} {f_seed : Int32} {a_huts : Nat → Int32} {a_known : Nat → Int32} {a_levels : Nat → Int32} {a_snow : Nat → Int32} {a_open : Nat → Int32} {lf_huts : Int32} {lf_singers : Int32} {lf_villages : Int32} {lf_dams : Int32} {lf_echoes : Int32} {lf_deep : Int32} {lf_slide : Int32} {la_heights : Nat → Int32} {la_ladders : Nat → Int32} {la_minutes : Nat → Int32} {la_echoFrom : Nat → Int32} {la_echoTo : Nat → Int32} {la_homes : Nat → Int32} {la_talls : Nat → Int32} {la_known : Nat → Int32} {vf_deeds : Int32} {va_kinds : Nat → Int32} {va_firsts : Nat → Int32} {va_seconds : Nat → Int32} {post : (Nat → Int32) → Prop} {x2 : Int32} {ls : Array Slot} {H : Heap} {locs : List Loc}
    (zc : zC p s m args meth c cX3_openWays 4 RX3 none)
    (hK : zK E s)
    (hM : wnW E qn ql qv f_minute f_avalanches f_begun f_climbed f_seed a_huts a_known a_levels a_snow a_open lf_huts lf_singers lf_villages lf_dams lf_echoes lf_deep lf_slide la_heights la_ladders la_minutes la_echoFrom la_echoTo la_homes la_talls la_known vf_deeds va_kinds va_firsts va_seconds H)
    (hS : va_S (wnA qn ql qv) s.heap H locs)
    (hl : lv_has ls 4 [(0, .ref qn), (1, .ref ql), (2, .int x2)])
    (hw : q_wn_X3_openWays_6_2 a_snow a_open lf_huts lf_deep la_minutes x2 post) :
    W p l e rm_wn_X3_openWays_6 s m args below meth c H locs 0 0 (MQ below (zQv (S := (Nat → Int32)) (fun u => post u) (fun u H => wnW E qn ql qv f_minute f_avalanches f_begun f_climbed f_seed a_huts a_known a_levels a_snow u lf_huts lf_singers lf_villages lf_dams lf_echoes lf_deep lf_slide la_heights la_ladders la_minutes la_echoFrom la_echoTo la_homes la_talls la_known vf_deeds va_kinds va_firsts va_seconds H) (wnA qn ql qv)) args s 0 0 (wnA qn ql qv)) (F0 m 2 ls []) := by
  have hx := zc.1
  have hb := zc.2.1
  refine hw (fun x2 a_open => ∀ (H : Heap) (locs : List Loc) (ls : Array Slot), lv_has ls 4 [(0, .ref qn), (1, .ref ql), (2, .int x2)] → wnW E qn ql qv f_minute f_avalanches f_begun f_climbed f_seed a_huts a_known a_levels a_snow a_open lf_huts lf_singers lf_villages lf_dams lf_echoes lf_deep lf_slide la_heights la_ladders la_minutes la_echoFrom la_echoTo la_homes la_talls la_known vf_deeds va_kinds va_firsts va_seconds H → va_S (wnA qn ql qv) s.heap H locs → W p l e rm_wn_X3_openWays_6 s m args below meth c H locs 0 0 (MQ below (zQv (S := (Nat → Int32)) (fun u => post u) (fun u H => wnW E qn ql qv f_minute f_avalanches f_begun f_climbed f_seed a_huts a_known a_levels a_snow u lf_huts lf_singers lf_villages lf_dams lf_echoes lf_deep lf_slide la_heights la_ladders la_minutes la_echoFrom la_echoTo la_homes la_talls la_known vf_deeds va_kinds va_firsts va_seconds H) (wnA qn ql qv)) args s 0 0 (wnA qn ql qv)) (F0 m 2 ls [])) ?_ _ _ _ hl hM hS
  intro x2 a_open hw H locs ls hl hM hS
  refine lv_iload_n hx hb dX3_openWays_2 rfl (lv_at hl 2 rfl) ?_
  refine lv_aload_n hx hb dX3_openWays_3 rfl (lv_at hl 1 rfl) ?_
  refine wng_3_62_6 zc hK hM dX3_openWays_4 ?_
  refine lv_icmp_ge (tgt := 83) hx hb dX3_openWays_7 (by decide) (fun hc => ?_) (fun hc => ?_)
  · have hw := hw.1 hc
    exact zret_vw a_open zc hS hw hM dX3_openWays_83
  · have hw := hw.2 hc
    refine lv_aload_n hx hb dX3_openWays_10 rfl (lv_at hl 0 rfl) ?_
    refine wng_3_24_0 zc hK hM dX3_openWays_11 ?_
    refine lv_iload_n hx hb dX3_openWays_14 rfl (lv_at hl 2 rfl) ?_
    refine lv_iconst (v := (0 : Int32)) hx hb dX3_openWays_15 (by decide) ?_
    refine wnst_5 zc hK hM hS hw.1 dX3_openWays_16 (fun a_open_1 H locs ea_open_1 hM hS => ?_)
    have hw := hw.2 a_open_1 ea_open_1
    refine lv_iconst (v := (0 : Int32)) hx hb dX3_openWays_17 (by decide) ?_
    refine lv_istore_n (lv' := [(3, .int (0 : Int32)), (0, .ref qn), (1, .ref ql), (2, .int x2)]) hx hb dX3_openWays_18 rfl hl (by decide) rfl (fun ls hl => ?_)
    exact t_wn_X3_openWays_6_19 zc hK hM hS (fun _ _ H locs ls h hl hM hS => h H locs ls hl hM hS) (lv_sub hl [1, 2, 3, 0] rfl) hw
set_option maxRecDepth 20000 in
theorem t_wn_X3_openWays_6_0 {p : Program} {l : Launch} {e : Env} {s : State} {m : MethodId} {args : Array Value} {below : List Frame} {meth : Method} {c : Code} {E : zE} {qn ql qv : Nat} {f_minute : Int32} {f_avalanches : Int32} {f_begun : Int32} {f_climbed : Int32} {f_seed : Int32} {a_huts : Nat → Int32} {a_known : Nat → Int32} {a_levels : Nat → Int32} {a_snow : Nat → Int32} {a_open : Nat → Int32} {lf_huts : Int32} {lf_singers : Int32} {lf_villages : Int32} {lf_dams : Int32} {lf_echoes : Int32} {lf_deep : Int32} {lf_slide : Int32} {la_heights : Nat → Int32} {la_ladders : Nat → Int32} {la_minutes : Nat → Int32} {la_echoFrom : Nat → Int32} {la_echoTo : Nat → Int32} {la_homes : Nat → Int32} {la_talls : Nat → Int32} {la_known : Nat → Int32} {vf_deeds : Int32} {va_kinds : Nat → Int32} {va_firsts : Nat → Int32} {va_seconds : Nat → Int32} {post : (Nat → Int32) → Prop} {ls : Array Slot} {H : Heap} {locs : List Loc}
    (zc : zC p s m args meth c cX3_openWays 4 RX3 none)
    (hK : zK E s)
    (hM : wnW E qn ql qv f_minute f_avalanches f_begun f_climbed f_seed a_huts a_known a_levels a_snow a_open lf_huts lf_singers lf_villages lf_dams lf_echoes lf_deep lf_slide la_heights la_ladders la_minutes la_echoFrom la_echoTo la_homes la_talls la_known vf_deeds va_kinds va_firsts va_seconds H)
    (hS : va_S (wnA qn ql qv) s.heap H locs)
    (hl : lv_has ls 4 [(0, .ref qn), (1, .ref ql)])
    (hw : q_wn_X3_openWays_6_0 a_snow a_open lf_huts lf_deep la_minutes post) :
    W p l e rm_wn_X3_openWays_6 s m args below meth c H locs 0 0 (MQ below (zQv (S := (Nat → Int32)) (fun u => post u) (fun u H => wnW E qn ql qv f_minute f_avalanches f_begun f_climbed f_seed a_huts a_known a_levels a_snow u lf_huts lf_singers lf_villages lf_dams lf_echoes lf_deep lf_slide la_heights la_ladders la_minutes la_echoFrom la_echoTo la_homes la_talls la_known vf_deeds va_kinds va_firsts va_seconds H) (wnA qn ql qv)) args s 0 0 (wnA qn ql qv)) (F0 m 0 ls []) := by
  have hx := zc.1
  have hb := zc.2.1
  refine lv_iconst (v := (0 : Int32)) hx hb dX3_openWays_0 (by decide) ?_
  refine lv_istore_n (lv' := [(2, .int (0 : Int32)), (0, .ref qn), (1, .ref ql)]) hx hb dX3_openWays_1 rfl hl (by decide) rfl (fun ls hl => ?_)
  exact t_wn_X3_openWays_6_2 zc hK hM hS  (lv_sub hl [1, 2, 0] rfl) hw
set_option maxRecDepth 20000 in
theorem c_wn_X3_openWays_6 (l : Launch) {E : zE} {qn ql qv : Nat} {f_minute : Int32} {f_avalanches : Int32} {f_begun : Int32} {f_climbed : Int32} {f_seed : Int32} {a_huts : Nat → Int32} {a_known : Nat → Int32} {a_levels : Nat → Int32} {a_snow : Nat → Int32} {a_open : Nat → Int32} {lf_huts : Int32} {lf_singers : Int32} {lf_villages : Int32} {lf_dams : Int32} {lf_echoes : Int32} {lf_deep : Int32} {lf_slide : Int32} {la_heights : Nat → Int32} {la_ladders : Nat → Int32} {la_minutes : Nat → Int32} {la_echoFrom : Nat → Int32} {la_echoTo : Nat → Int32} {la_homes : Nat → Int32} {la_talls : Nat → Int32} {la_known : Nat → Int32} {vf_deeds : Int32} {va_kinds : Nat → Int32} {va_firsts : Nat → Int32} {va_seconds : Nat → Int32} {post : (Nat → Int32) → Prop} (hw : q_wn_X3_openWays_6_0 a_snow a_open lf_huts lf_deep la_minutes post) : Met l yX3_openWays (Cond.code yX3_openWays cX3_openWays 4 none :: zb) rm_wn_X3_openWays_6 (va_Pc [.ref qn, .ref ql] (fun U => wnW E qn ql qv f_minute f_avalanches f_begun f_climbed f_seed a_huts a_known a_levels a_snow a_open lf_huts lf_singers lf_villages lf_dams lf_echoes lf_deep lf_slide la_heights la_ladders la_minutes la_echoFrom la_echoTo la_homes la_talls la_known vf_deeds va_kinds va_firsts va_seconds U.heap ∧ zK E U)) (zQv (S := (Nat → Int32)) (fun u => post u) (fun u H => wnW E qn ql qv f_minute f_avalanches f_begun f_climbed f_seed a_huts a_known a_levels a_snow u lf_huts lf_singers lf_villages lf_dams lf_echoes lf_deep lf_slide la_heights la_ladders la_minutes la_echoFrom la_echoTo la_homes la_talls la_known vf_deeds va_kinds va_firsts va_seconds H) (wnA qn ql qv)) 0 0 (wnA qn ql qv) := by
  refine Met.ofW (cc := cX3_openWays) (maxL := 4) (ret := none) (by decide) rfl ?_
  intro p e s m args below meth c s₁ B hml hv
  obtain ⟨rfl, hM, hK⟩ := hv
  have zc := zc_of B hml
  have hl := lv_entry ([.ref qn, .ref ql]) (n := 4) (Nat.le_of_ble_eq_true rfl)
  rw [lg_entry_eq]
  generalize (lg_sl ([.ref qn, .ref ql]) ++ List.replicate (4 - (lg_sl ([.ref qn, .ref ql])).length) Slot.unset).toArray = ls at hl ⊢
  have hl : lv_has ls 4 [(0, .ref qn), (1, .ref ql)] := hl
  exact t_wn_X3_openWays_6_0 zc hK hM va_S.rf (lv_sub hl [0, 1] rfl) hw
-- wn_X7_reach_5
abbrev rm_wn_X7_reach_5 : Room := { frames := 1, cells := 0, slots := 0, locals := 21 }
def q_wn_X7_reach_5_49 (P7 : Int32 → Int32 → Prop) (P20 : Int32 → Int32 → Prop) (a_open : Nat → Int32) (x2 : Int32) (x3 : Int32) (x4 : Int32) (x5 : Int32) (x6 : Int32) (post : Int32 → Prop) : Prop :=
  ∀ v_1 : Int32, v_1 = x6 + (1 : Int32) → (P20 x5 v_1)
def q_wn_X7_reach_5_20 (P7 : Int32 → Int32 → Prop) (a_open : Nat → Int32) (x2 : Int32) (x3 : Int32) (x4 : Int32) (x5 : Int32) (x6 : Int32) (post : Int32 → Prop) : Prop :=
  ∀ P20 : Int32 → Int32 → Prop, (∀ (x5 : Int32) (x6 : Int32), (((9 : Int32) ≤ x6 → ((¬ x5 = x3 → (∀ v_1 : Int32, v_1 = x4 + (1 : Int32) → (P7 x5 v_1))) ∧ (x5 = x3 → (post x3)))) ∧ (¬ (9 : Int32) ≤ x6 → (q_z_X10_has_0 x3 x6 (fun r_1 => (r_1 = 0 → (q_wn_X7_reach_5_49 P7 P20 a_open x2 x3 x4 x5 x6 post)) ∧ (¬ r_1 = 0 → (vp_in x6 9 ∧ (∀ v_2 : Int32, v_2 = (x5 ||| ((a_open (Int32.toNatClampNeg x6)) &&& (x2 ^^^ (-1 : Int32)))) → (q_wn_X7_reach_5_49 P7 P20 a_open x2 x3 x4 v_2 x6 post)))))))) → P20 x5 x6) → P20 x5 x6
def q_wn_X7_reach_5_7 (a_open : Nat → Int32) (x2 : Int32) (x3 : Int32) (x4 : Int32) (post : Int32 → Prop) : Prop :=
  ∀ P7 : Int32 → Int32 → Prop, (∀ (x3 : Int32) (x4 : Int32), (((9 : Int32) ≤ x4 → (post x3)) ∧ (¬ (9 : Int32) ≤ x4 → (q_wn_X7_reach_5_20 P7 a_open x2 x3 x4 x3 (0 : Int32) post))) → P7 x3 x4) → P7 x3 x4
def q_wn_X7_reach_5_0 (a_open : Nat → Int32) (x0 : Int32) (x2 : Int32) (post : Int32 → Prop) : Prop :=
  ∀ v_1 : Int32, v_1 = ((1 : Int32) <<< (x0 &&& 31)) → (q_wn_X7_reach_5_7 a_open x2 v_1 (0 : Int32) post)
set_option maxRecDepth 20000 in
theorem t_wn_X7_reach_5_49 {p : Program} {l : Launch} {e : Env} {s : State} {m : MethodId} {args : Array Value} {below : List Frame} {meth : Method} {c : Code} {E : zE} {qn ql qv : Nat} {f_minute : Int32} {f_avalanches : Int32} {f_begun : Int32} {f_climbed : Int32} {f_seed : Int32} {a_huts : Nat → Int32} {a_known : Nat → Int32} {a_levels : Nat → Int32} {a_snow : Nat → Int32} {a_open : Nat → Int32} {lf_huts : Int32} {lf_singers : Int32} {lf_villages : Int32} {lf_dams : Int32} {lf_echoes : Int32} {lf_deep : Int32} {lf_slide : Int32} {la_heights : Nat → Int32} {la_ladders : Nat → Int32} {la_minutes : Nat → Int32} {la_echoFrom : Nat → Int32} {la_echoTo : Nat → Int32} {la_homes : Nat → Int32} {la_talls : Nat → Int32} {la_known : Nat → Int32} {vf_deeds : Int32} {va_kinds : Nat → Int32} {va_firsts : Nat → Int32} {va_seconds : Nat → Int32} {P7 : Int32 → Int32 → Prop} {P20 : Int32 → Int32 → Prop} {post : Int32 → Prop} {x2 : Int32} {x3 : Int32} {x4 : Int32} {x5 : Int32} {x6 : Int32} {ls : Array Slot}
    (zc : zC p s m args meth c cX7_reach 7 RX7 (some .int))
    (hK : zK E s)
    (hM : wnW E qn ql qv f_minute f_avalanches f_begun f_climbed f_seed a_huts a_known a_levels a_snow a_open lf_huts lf_singers lf_villages lf_dams lf_echoes lf_deep lf_slide la_heights la_ladders la_minutes la_echoFrom la_echoTo la_homes la_talls la_known vf_deeds va_kinds va_firsts va_seconds s.heap)
    (hP7 : ∀ (x3 : Int32) (x4 : Int32) (ls : Array Slot), P7 x3 x4 → lv_has ls 7 [(1, .ref (qn + 5)), (2, .int x2), (3, .int x3), (4, .int x4)] → W p l e rm_wn_X7_reach_5 s m args below meth c s.heap [] 0 0 (MQ below (vp_Si post) args s 0 0 (fun _ => False)) (F0 m 7 ls []))
    (hP20 : ∀ (x5 : Int32) (x6 : Int32) (ls : Array Slot), P20 x5 x6 → lv_has ls 7 [(1, .ref (qn + 5)), (2, .int x2), (3, .int x3), (4, .int x4), (5, .int x5), (6, .int x6)] → W p l e rm_wn_X7_reach_5 s m args below meth c s.heap [] 0 0 (MQ below (vp_Si post) args s 0 0 (fun _ => False)) (F0 m 20 ls []))
    (hl : lv_has ls 7 [(1, .ref (qn + 5)), (2, .int x2), (3, .int x3), (4, .int x4), (5, .int x5), (6, .int x6)])
    (hw : q_wn_X7_reach_5_49 P7 P20 a_open x2 x3 x4 x5 x6 post) :
    W p l e rm_wn_X7_reach_5 s m args below meth c s.heap [] 0 0 (MQ below (vp_Si post) args s 0 0 (fun _ => False)) (F0 m 49 ls []) := by
  have hx := zc.1
  have hb := zc.2.1
  obtain ⟨v_1, ev_1⟩ : ∃ y : Int32, y = x6 + (1 : Int32) := ⟨_, rfl⟩
  have hw := hw v_1 ev_1
  refine lv_iinc (v := v_1) (k := 5) (lv' := [(6, .int v_1), (1, .ref (qn + 5)), (2, .int x2), (3, .int x3), (4, .int x4), (5, .int x5)]) hx hb dX7_reach_49 hl rfl (by rw [ev_1]; rfl) (by decide) rfl (fun ls hl => ?_)
  refine lv_goto (tgt := 20) hx hb dX7_reach_52 (by decide) ?_
  exact hP20 _ _ _ hw (lv_sub hl [1, 2, 3, 4, 5, 0] rfl)
set_option maxRecDepth 20000 in
theorem t_wn_X7_reach_5_20 {p : Program} {l : Launch} {e : Env} {s : State} {m : MethodId} {args : Array Value} {below : List Frame} {meth : Method} {c : Code} {E : zE} {qn ql qv : Nat} {f_minute : Int32} {f_avalanches : Int32} {f_begun : Int32} {f_climbed : Int32} {f_seed : Int32} {a_huts : Nat → Int32} {a_known : Nat → Int32} {a_levels : Nat → Int32} {a_snow : Nat → Int32} {a_open : Nat → Int32} {lf_huts : Int32} {lf_singers : Int32} {lf_villages : Int32} {lf_dams : Int32} {lf_echoes : Int32} {lf_deep : Int32} {lf_slide : Int32} {la_heights : Nat → Int32} {la_ladders : Nat → Int32} {la_minutes : Nat → Int32} {la_echoFrom : Nat → Int32} {la_echoTo : Nat → Int32} {la_homes : Nat → Int32} {la_talls : Nat → Int32} {la_known : Nat → Int32} {vf_deeds : Int32} {va_kinds : Nat → Int32} {va_firsts : Nat → Int32} {va_seconds : Nat → Int32} {P7 : Int32 → Int32 → Prop} {post : Int32 → Prop} {x2 : Int32} {x3 : Int32} {x4 : Int32} {x5 : Int32} {x6 : Int32} {ls : Array Slot}
    (zc : zC p s m args meth c cX7_reach 7 RX7 (some .int))
    (hK : zK E s)
    (hM : wnW E qn ql qv f_minute f_avalanches f_begun f_climbed f_seed a_huts a_known a_levels a_snow a_open lf_huts lf_singers lf_villages lf_dams lf_echoes lf_deep lf_slide la_heights la_ladders la_minutes la_echoFrom la_echoTo la_homes la_talls la_known vf_deeds va_kinds va_firsts va_seconds s.heap)
    (hP7 : ∀ (x3 : Int32) (x4 : Int32) (ls : Array Slot), P7 x3 x4 → lv_has ls 7 [(1, .ref (qn + 5)), (2, .int x2), (3, .int x3), (4, .int x4)] → W p l e rm_wn_X7_reach_5 s m args below meth c s.heap [] 0 0 (MQ below (vp_Si post) args s 0 0 (fun _ => False)) (F0 m 7 ls []))
    (hl : lv_has ls 7 [(1, .ref (qn + 5)), (2, .int x2), (3, .int x3), (4, .int x4), (5, .int x5), (6, .int x6)])
    (hw : q_wn_X7_reach_5_20 P7 a_open x2 x3 x4 x5 x6 post) :
    W p l e rm_wn_X7_reach_5 s m args below meth c s.heap [] 0 0 (MQ below (vp_Si post) args s 0 0 (fun _ => False)) (F0 m 20 ls []) := by
  have hx := zc.1
  have hb := zc.2.1
  refine hw (fun x5 x6 => ∀ (ls : Array Slot), lv_has ls 7 [(1, .ref (qn + 5)), (2, .int x2), (3, .int x3), (4, .int x4), (5, .int x5), (6, .int x6)] → W p l e rm_wn_X7_reach_5 s m args below meth c s.heap [] 0 0 (MQ below (vp_Si post) args s 0 0 (fun _ => False)) (F0 m 20 ls [])) ?_ _ hl
  intro x5 x6 hw ls hl
  refine lv_iload hx hb dX7_reach_20 (lv_at hl 5 rfl) ?_
  refine lv_bipush (v := (9 : Int32)) hx hb dX7_reach_22 (by decide) ?_
  refine lv_icmp_ge (tgt := 55) hx hb dX7_reach_24 (by decide) (fun hc => ?_) (fun hc => ?_)
  · have hw := hw.1 hc
    refine lv_iload hx hb dX7_reach_55 (lv_at hl 4 rfl) ?_
    refine lv_iload_n hx hb dX7_reach_57 rfl (lv_at hl 2 rfl) ?_
    refine lv_icmp_ne (tgt := 63) hx hb dX7_reach_58 (by decide) (fun hc => ?_) (fun hc => ?_)
    · have hw := hw.1 hc
      refine lv_iload hx hb dX7_reach_63 (lv_at hl 4 rfl) ?_
      refine lv_istore_n (lv' := [(3, .int x5), (1, .ref (qn + 5)), (2, .int x2), (4, .int x4), (5, .int x5), (6, .int x6)]) hx hb dX7_reach_65 rfl hl (by decide) rfl (fun ls hl => ?_)
      obtain ⟨v_1, ev_1⟩ : ∃ y : Int32, y = x4 + (1 : Int32) := ⟨_, rfl⟩
      have hw := hw v_1 ev_1
      refine lv_iinc (v := v_1) (k := 3) (lv' := [(4, .int v_1), (3, .int x5), (1, .ref (qn + 5)), (2, .int x2), (5, .int x5), (6, .int x6)]) hx hb dX7_reach_66 hl rfl (by rw [ev_1]; rfl) (by decide) rfl (fun ls hl => ?_)
      refine lv_goto (tgt := 7) hx hb dX7_reach_69 (by decide) ?_
      exact hP7 _ _ _ hw (lv_sub hl [2, 3, 1, 0] rfl)
    · have hw := hw.2 hc
      refine lv_iload_n hx hb dX7_reach_61 rfl (lv_at hl 2 rfl) ?_
      exact zret_i zc hw dX7_reach_62
  · have hw := hw.2 hc
    refine lv_iload_n hx hb dX7_reach_27 rfl (lv_at hl 2 rfl) ?_
    refine lv_iload hx hb dX7_reach_28 (lv_at hl 5 rfl) ?_
    refine zSN_i [.int x3, .int x6] [] zc ky_X10_has kz_X10_has (hK.2 _ kn_7_70) (c_z_X10_has l hw) (zPre0 _) rfl rfl hl.1 (Nat.le_of_ble_eq_true rfl) ⟨rfl, rfl⟩ ⟨Nat.le_of_ble_eq_true rfl, Nat.le_of_ble_eq_true rfl⟩ ⟨(Nat.zero_le _), (Nat.zero_le _)⟩ dX7_reach_30 (fun r_1 hw => ?_)
    refine lv_if_eq (tgt := 49) hx hb dX7_reach_33 (by decide) (fun hc => ?_) (fun hc => ?_)
    · have hw := hw.1 hc
      exact t_wn_X7_reach_5_49 zc hK hM hP7 (fun _ _ ls h hl => h ls hl) (lv_sub hl [0, 1, 2, 3, 4, 5] rfl) hw
    · have hw := hw.2 hc
      refine lv_iload hx hb dX7_reach_36 (lv_at hl 4 rfl) ?_
      refine lv_aload_n hx hb dX7_reach_38 rfl (lv_at hl 0 rfl) ?_
      refine lv_iload hx hb dX7_reach_39 (lv_at hl 5 rfl) ?_
      refine wnld_5 zc hK hM hw.1 dX7_reach_41 ?_
      have hw := hw.2
      refine lv_iload_n hx hb dX7_reach_42 rfl (lv_at hl 1 rfl) ?_
      refine lv_iconst (v := (-1 : Int32)) hx hb dX7_reach_43 (by decide) ?_
      refine lv_ixor hx hb dX7_reach_44 ?_
      refine lv_iand hx hb dX7_reach_45 ?_
      refine lv_ior hx hb dX7_reach_46 ?_
      refine lv_topi (fun v_2 ev_2 => ?_)
      have hw := hw v_2 ev_2
      refine lv_istore (lv' := [(5, .int v_2), (1, .ref (qn + 5)), (2, .int x2), (3, .int x3), (4, .int x4), (6, .int x6)]) hx hb dX7_reach_47 hl (by decide) rfl (fun ls hl => ?_)
      exact t_wn_X7_reach_5_49 zc hK hM hP7 (fun _ _ ls h hl => h ls hl) (lv_sub hl [1, 2, 3, 4, 0, 5] rfl) hw
set_option maxRecDepth 20000 in
theorem t_wn_X7_reach_5_7 {p : Program} {l : Launch} {e : Env} {s : State} {m : MethodId} {args : Array Value} {below : List Frame} {meth : Method} {c : Code} {E : zE} {qn ql qv : Nat} {f_minute : Int32} {f_avalanches : Int32} {f_begun : Int32} {f_climbed : Int32} {f_seed : Int32} {a_huts : Nat → Int32} {a_known : Nat → Int32} {a_levels : Nat → Int32} {a_snow : Nat → Int32} {a_open : Nat → Int32} {lf_huts : Int32} {lf_singers : Int32} {lf_villages : Int32} {lf_dams : Int32} {lf_echoes : Int32} {lf_deep : Int32} {lf_slide : Int32} {la_heights : Nat → Int32} {la_ladders : Nat → Int32} {la_minutes : Nat → Int32} {la_echoFrom : Nat → Int32} {la_echoTo : Nat → Int32} {la_homes : Nat → Int32} {la_talls : Nat → Int32} {la_known : Nat → Int32} {vf_deeds : Int32} {va_kinds : Nat → Int32} {va_firsts : Nat → Int32} {va_seconds : Nat → Int32} {post : Int32 → Prop} {x2 : Int32} {x3 : Int32} {x4 : Int32} {ls : Array Slot}
    (zc : zC p s m args meth c cX7_reach 7 RX7 (some .int))
    (hK : zK E s)
    (hM : wnW E qn ql qv f_minute f_avalanches f_begun f_climbed f_seed a_huts a_known a_levels a_snow a_open lf_huts lf_singers lf_villages lf_dams lf_echoes lf_deep lf_slide la_heights la_ladders la_minutes la_echoFrom la_echoTo la_homes la_talls la_known vf_deeds va_kinds va_firsts va_seconds s.heap)
    (hl : lv_has ls 7 [(1, .ref (qn + 5)), (2, .int x2), (3, .int x3), (4, .int x4)])
    (hw : q_wn_X7_reach_5_7 a_open x2 x3 x4 post) :
    W p l e rm_wn_X7_reach_5 s m args below meth c s.heap [] 0 0 (MQ below (vp_Si post) args s 0 0 (fun _ => False)) (F0 m 7 ls []) := by
  have hx := zc.1
  have hb := zc.2.1
  refine hw (fun x3 x4 => ∀ (ls : Array Slot), lv_has ls 7 [(1, .ref (qn + 5)), (2, .int x2), (3, .int x3), (4, .int x4)] → W p l e rm_wn_X7_reach_5 s m args below meth c s.heap [] 0 0 (MQ below (vp_Si post) args s 0 0 (fun _ => False)) (F0 m 7 ls [])) ?_ _ hl
  intro x3 x4 hw ls hl
  refine lv_iload hx hb dX7_reach_7 (lv_at hl 3 rfl) ?_
  refine lv_bipush (v := (9 : Int32)) hx hb dX7_reach_9 (by decide) ?_
  refine lv_icmp_ge (tgt := 72) hx hb dX7_reach_11 (by decide) (fun hc => ?_) (fun hc => ?_)
  · have hw := hw.1 hc
    refine lv_iload_n hx hb dX7_reach_72 rfl (lv_at hl 2 rfl) ?_
    exact zret_i zc hw dX7_reach_73
  · have hw := hw.2 hc
    refine lv_iload_n hx hb dX7_reach_14 rfl (lv_at hl 2 rfl) ?_
    refine lv_istore (lv' := [(5, .int x3), (1, .ref (qn + 5)), (2, .int x2), (3, .int x3), (4, .int x4)]) hx hb dX7_reach_15 hl (by decide) rfl (fun ls hl => ?_)
    refine lv_iconst (v := (0 : Int32)) hx hb dX7_reach_17 (by decide) ?_
    refine lv_istore (lv' := [(6, .int (0 : Int32)), (5, .int x3), (1, .ref (qn + 5)), (2, .int x2), (3, .int x3), (4, .int x4)]) hx hb dX7_reach_18 hl (by decide) rfl (fun ls hl => ?_)
    exact t_wn_X7_reach_5_20 zc hK hM (fun _ _ ls h hl => h ls hl) (lv_sub hl [2, 3, 4, 5, 1, 0] rfl) hw
set_option maxRecDepth 20000 in
theorem t_wn_X7_reach_5_0 {p : Program} {l : Launch} {e : Env} {s : State} {m : MethodId} {args : Array Value} {below : List Frame} {meth : Method} {c : Code} {E : zE} {qn ql qv : Nat} {f_minute : Int32} {f_avalanches : Int32} {f_begun : Int32} {f_climbed : Int32} {f_seed : Int32} {a_huts : Nat → Int32} {a_known : Nat → Int32} {a_levels : Nat → Int32} {a_snow : Nat → Int32} {a_open : Nat → Int32} {lf_huts : Int32} {lf_singers : Int32} {lf_villages : Int32} {lf_dams : Int32} {lf_echoes : Int32} {lf_deep : Int32} {lf_slide : Int32} {la_heights : Nat → Int32} {la_ladders : Nat → Int32} {la_minutes : Nat → Int32} {la_echoFrom : Nat → Int32} {la_echoTo : Nat → Int32} {la_homes : Nat → Int32} {la_talls : Nat → Int32} {la_known : Nat → Int32} {vf_deeds : Int32} {va_kinds : Nat → Int32} {va_firsts : Nat → Int32} {va_seconds : Nat → Int32} {post : Int32 → Prop} {x0 : Int32} {x2 : Int32} {ls : Array Slot}
    (zc : zC p s m args meth c cX7_reach 7 RX7 (some .int))
    (hK : zK E s)
    (hM : wnW E qn ql qv f_minute f_avalanches f_begun f_climbed f_seed a_huts a_known a_levels a_snow a_open lf_huts lf_singers lf_villages lf_dams lf_echoes lf_deep lf_slide la_heights la_ladders la_minutes la_echoFrom la_echoTo la_homes la_talls la_known vf_deeds va_kinds va_firsts va_seconds s.heap)
    (hl : lv_has ls 7 [(0, .int x0), (1, .ref (qn + 5)), (2, .int x2)])
    (hw : q_wn_X7_reach_5_0 a_open x0 x2 post) :
    W p l e rm_wn_X7_reach_5 s m args below meth c s.heap [] 0 0 (MQ below (vp_Si post) args s 0 0 (fun _ => False)) (F0 m 0 ls []) := by
  have hx := zc.1
  have hb := zc.2.1
  refine lv_iconst (v := (1 : Int32)) hx hb dX7_reach_0 (by decide) ?_
  refine lv_iload_n hx hb dX7_reach_1 rfl (lv_at hl 0 rfl) ?_
  refine lv_ishl hx hb dX7_reach_2 ?_
  refine lv_topi (fun v_1 ev_1 => ?_)
  have hw := hw v_1 ev_1
  refine lv_istore_n (lv' := [(3, .int v_1), (0, .int x0), (1, .ref (qn + 5)), (2, .int x2)]) hx hb dX7_reach_3 rfl hl (by decide) rfl (fun ls hl => ?_)
  refine lv_iconst (v := (0 : Int32)) hx hb dX7_reach_4 (by decide) ?_
  refine lv_istore (lv' := [(4, .int (0 : Int32)), (3, .int v_1), (0, .int x0), (1, .ref (qn + 5)), (2, .int x2)]) hx hb dX7_reach_5 hl (by decide) rfl (fun ls hl => ?_)
  exact t_wn_X7_reach_5_7 zc hK hM  (lv_sub hl [3, 4, 1, 0] rfl) hw
set_option maxRecDepth 20000 in
theorem c_wn_X7_reach_5 (l : Launch) {E : zE} {qn ql qv : Nat} {f_minute : Int32} {f_avalanches : Int32} {f_begun : Int32} {f_climbed : Int32} {f_seed : Int32} {a_huts : Nat → Int32} {a_known : Nat → Int32} {a_levels : Nat → Int32} {a_snow : Nat → Int32} {a_open : Nat → Int32} {lf_huts : Int32} {lf_singers : Int32} {lf_villages : Int32} {lf_dams : Int32} {lf_echoes : Int32} {lf_deep : Int32} {lf_slide : Int32} {la_heights : Nat → Int32} {la_ladders : Nat → Int32} {la_minutes : Nat → Int32} {la_echoFrom : Nat → Int32} {la_echoTo : Nat → Int32} {la_homes : Nat → Int32} {la_talls : Nat → Int32} {la_known : Nat → Int32} {vf_deeds : Int32} {va_kinds : Nat → Int32} {va_firsts : Nat → Int32} {va_seconds : Nat → Int32} {x0 : Int32} {x2 : Int32} {post : Int32 → Prop} (hw : q_wn_X7_reach_5_0 a_open x0 x2 post) : Met l yX7_reach (Cond.code yX7_reach cX7_reach 7 (some .int) :: zb) rm_wn_X7_reach_5 (va_Pc [.int x0, .ref (qn + 5), .int x2] (fun U => wnW E qn ql qv f_minute f_avalanches f_begun f_climbed f_seed a_huts a_known a_levels a_snow a_open lf_huts lf_singers lf_villages lf_dams lf_echoes lf_deep lf_slide la_heights la_ladders la_minutes la_echoFrom la_echoTo la_homes la_talls la_known vf_deeds va_kinds va_firsts va_seconds U.heap ∧ zK E U)) (vp_Si post) 0 0 (fun _ => False) := by
  refine Met.ofW (cc := cX7_reach) (maxL := 7) (ret := (some .int)) (by decide) rfl ?_
  intro p e s m args below meth c s₁ B hml hv
  obtain ⟨rfl, hM, hK⟩ := hv
  have zc := zc_of B hml
  have hl := lv_entry ([.int x0, .ref (qn + 5), .int x2]) (n := 7) (Nat.le_of_ble_eq_true rfl)
  rw [lg_entry_eq]
  generalize (lg_sl ([.int x0, .ref (qn + 5), .int x2]) ++ List.replicate (7 - (lg_sl ([.int x0, .ref (qn + 5), .int x2])).length) Slot.unset).toArray = ls at hl ⊢
  have hl : lv_has ls 7 [(0, .int x0), (1, .ref (qn + 5)), (2, .int x2)] := hl
  exact t_wn_X7_reach_5_0 zc hK hM (lv_sub hl [0, 1, 2] rfl) hw
-- wn_X3_lowest_6
abbrev rm_wn_X3_lowest_6 : Room := { frames := 2, cells := 0, slots := 0, locals := 47 }
def q_wn_X3_lowest_6_71 (P23 : Int32 → Int32 → Prop) (a_huts : Nat → Int32) (a_open : Nat → Int32) (lf_huts : Int32) (lf_dams : Int32) (la_heights : Nat → Int32) (la_talls : Nat → Int32) (x2 : Int32) (x3 : Int32) (x4 : Int32) (x5 : Int32) (post : Int32 → Prop) : Prop :=
  ∀ v_1 : Int32, v_1 = x5 + (1 : Int32) → (P23 x4 v_1)
def q_wn_X3_lowest_6_23 (a_huts : Nat → Int32) (a_open : Nat → Int32) (lf_huts : Int32) (lf_dams : Int32) (la_heights : Nat → Int32) (la_talls : Nat → Int32) (x2 : Int32) (x3 : Int32) (x4 : Int32) (x5 : Int32) (post : Int32 → Prop) : Prop :=
  ∀ P23 : Int32 → Int32 → Prop, (∀ (x4 : Int32) (x5 : Int32), ((lf_huts ≤ x5 → (post x4)) ∧ (¬ lf_huts ≤ x5 → (q_z_X10_has_0 x3 x5 (fun r_1 => (r_1 = 0 → (q_wn_X3_lowest_6_71 P23 a_huts a_open lf_huts lf_dams la_heights la_talls x2 x3 x4 x5 post)) ∧ (¬ r_1 = 0 → (q_wl_X2_isDam_0 lf_dams x5 (fun r_2 => (¬ r_2 = 0 → (q_wn_X3_lowest_6_71 P23 a_huts a_open lf_huts lf_dams la_heights la_talls x2 x3 x4 x5 post)) ∧ (r_2 = 0 → (vp_in x5 9 ∧ (vp_in x2 6 ∧ (∀ v_1 : Int32, v_1 = (if ((la_heights (Int32.toNatClampNeg x5)) - (la_talls (Int32.toNatClampNeg x2))) < x4 then ((la_heights (Int32.toNatClampNeg x5)) - (la_talls (Int32.toNatClampNeg x2))) else x4) → (q_wn_X3_lowest_6_71 P23 a_huts a_open lf_huts lf_dams la_heights la_talls x2 x3 v_1 x5 post)))))))))))) → P23 x4 x5) → P23 x4 x5
def q_wn_X3_lowest_6_0 (a_huts : Nat → Int32) (a_open : Nat → Int32) (lf_huts : Int32) (lf_dams : Int32) (la_heights : Nat → Int32) (la_talls : Nat → Int32) (x2 : Int32) (post : Int32 → Prop) : Prop :=
  vp_in x2 6 ∧ (q_wn_X7_reach_5_0 a_open (a_huts (Int32.toNatClampNeg x2)) (0 : Int32) (fun r_1 => q_wn_X3_lowest_6_23 a_huts a_open lf_huts lf_dams la_heights la_talls x2 r_1 (1000 : Int32) (0 : Int32) post))
set_option maxRecDepth 20000 in
theorem t_wn_X3_lowest_6_71 {p : Program} {l : Launch} {e : Env} {s : State} {m : MethodId} {args : Array Value} {below : List Frame} {meth : Method} {c : Code} {E : zE} {qn ql qv : Nat} {f_minute : Int32} {f_avalanches : Int32} {f_begun : Int32} {f_climbed : Int32} {f_seed : Int32} {a_huts : Nat → Int32} {a_known : Nat → Int32} {a_levels : Nat → Int32} {a_snow : Nat → Int32} {a_open : Nat → Int32} {lf_huts : Int32} {lf_singers : Int32} {lf_villages : Int32} {lf_dams : Int32} {lf_echoes : Int32} {lf_deep : Int32} {lf_slide : Int32} {la_heights : Nat → Int32} {la_ladders : Nat → Int32} {la_minutes : Nat → Int32} {la_echoFrom : Nat → Int32} {la_echoTo : Nat → Int32} {la_homes : Nat → Int32} {la_talls : Nat → Int32} {la_known : Nat → Int32} {vf_deeds : Int32} {va_kinds : Nat → Int32} {va_firsts : Nat → Int32} {va_seconds : Nat → Int32} {P23 : Int32 → Int32 → Prop} {post : Int32 → Prop} {x2 : Int32} {x3 : Int32} {x4 : Int32} {x5 : Int32} {ls : Array Slot}
    (zc : zC p s m args meth c cX3_lowest 6 RX3 (some .int))
    (hK : zK E s)
    (hM : wnW E qn ql qv f_minute f_avalanches f_begun f_climbed f_seed a_huts a_known a_levels a_snow a_open lf_huts lf_singers lf_villages lf_dams lf_echoes lf_deep lf_slide la_heights la_ladders la_minutes la_echoFrom la_echoTo la_homes la_talls la_known vf_deeds va_kinds va_firsts va_seconds s.heap)
    (hP23 : ∀ (x4 : Int32) (x5 : Int32) (ls : Array Slot), P23 x4 x5 → lv_has ls 6 [(1, .ref ql), (2, .int x2), (3, .int x3), (4, .int x4), (5, .int x5)] → W p l e rm_wn_X3_lowest_6 s m args below meth c s.heap [] 0 0 (MQ below (vp_Si post) args s 0 0 (fun _ => False)) (F0 m 23 ls []))
    (hl : lv_has ls 6 [(1, .ref ql), (2, .int x2), (3, .int x3), (4, .int x4), (5, .int x5)])
    (hw : q_wn_X3_lowest_6_71 P23 a_huts a_open lf_huts lf_dams la_heights la_talls x2 x3 x4 x5 post) :
    W p l e rm_wn_X3_lowest_6 s m args below meth c s.heap [] 0 0 (MQ below (vp_Si post) args s 0 0 (fun _ => False)) (F0 m 71 ls []) := by
  have hx := zc.1
  have hb := zc.2.1
  obtain ⟨v_1, ev_1⟩ : ∃ y : Int32, y = x5 + (1 : Int32) := ⟨_, rfl⟩
  have hw := hw v_1 ev_1
  refine lv_iinc (v := v_1) (k := 4) (lv' := [(5, .int v_1), (1, .ref ql), (2, .int x2), (3, .int x3), (4, .int x4)]) hx hb dX3_lowest_71 hl rfl (by rw [ev_1]; rfl) (by decide) rfl (fun ls hl => ?_)
  refine lv_goto (tgt := 23) hx hb dX3_lowest_74 (by decide) ?_
  exact hP23 _ _ _ hw (lv_sub hl [1, 2, 3, 4, 0] rfl)
set_option maxRecDepth 20000 in
theorem t_wn_X3_lowest_6_23 {p : Program} {l : Launch} {e : Env} {s : State} {m : MethodId} {args : Array Value} {below : List Frame} {meth : Method} {c : Code} {E : zE} {qn ql qv : Nat} {f_minute : Int32} {f_avalanches : Int32} {f_begun : Int32} {f_climbed : Int32} {f_seed : Int32} {a_huts : Nat → Int32} {a_known : Nat → Int32} {a_levels : Nat → Int32} {a_snow : Nat → Int32} {a_open : Nat → Int32} {lf_huts : Int32} {lf_singers : Int32} {lf_villages : Int32} {lf_dams : Int32} {lf_echoes : Int32} {lf_deep : Int32} {lf_slide : Int32} {la_heights : Nat → Int32} {la_ladders : Nat → Int32} {la_minutes : Nat → Int32} {la_echoFrom : Nat → Int32} {la_echoTo : Nat → Int32} {la_homes : Nat → Int32} {la_talls : Nat → Int32} {la_known : Nat → Int32} {vf_deeds : Int32} {va_kinds : Nat → Int32} {va_firsts : Nat → Int32} {va_seconds : Nat → Int32} {post : Int32 → Prop} {x2 : Int32} {x3 : Int32} {x4 : Int32} {x5 : Int32} {ls : Array Slot}
    (zc : zC p s m args meth c cX3_lowest 6 RX3 (some .int))
    (hK : zK E s)
    (hM : wnW E qn ql qv f_minute f_avalanches f_begun f_climbed f_seed a_huts a_known a_levels a_snow a_open lf_huts lf_singers lf_villages lf_dams lf_echoes lf_deep lf_slide la_heights la_ladders la_minutes la_echoFrom la_echoTo la_homes la_talls la_known vf_deeds va_kinds va_firsts va_seconds s.heap)
    (hl : lv_has ls 6 [(1, .ref ql), (2, .int x2), (3, .int x3), (4, .int x4), (5, .int x5)])
    (hw : q_wn_X3_lowest_6_23 a_huts a_open lf_huts lf_dams la_heights la_talls x2 x3 x4 x5 post) :
    W p l e rm_wn_X3_lowest_6 s m args below meth c s.heap [] 0 0 (MQ below (vp_Si post) args s 0 0 (fun _ => False)) (F0 m 23 ls []) := by
  have hx := zc.1
  have hb := zc.2.1
  refine hw (fun x4 x5 => ∀ (ls : Array Slot), lv_has ls 6 [(1, .ref ql), (2, .int x2), (3, .int x3), (4, .int x4), (5, .int x5)] → W p l e rm_wn_X3_lowest_6 s m args below meth c s.heap [] 0 0 (MQ below (vp_Si post) args s 0 0 (fun _ => False)) (F0 m 23 ls [])) ?_ _ hl
  intro x4 x5 hw ls hl
  refine lv_iload hx hb dX3_lowest_23 (lv_at hl 4 rfl) ?_
  refine lv_aload_n hx hb dX3_lowest_25 rfl (lv_at hl 0 rfl) ?_
  refine wng_3_62_6 zc hK hM dX3_lowest_26 ?_
  refine lv_icmp_ge (tgt := 77) hx hb dX3_lowest_29 (by decide) (fun hc => ?_) (fun hc => ?_)
  · have hw := hw.1 hc
    refine lv_iload hx hb dX3_lowest_77 (lv_at hl 3 rfl) ?_
    exact zret_i zc hw dX3_lowest_79
  · have hw := hw.2 hc
    refine lv_iload_n hx hb dX3_lowest_32 rfl (lv_at hl 2 rfl) ?_
    refine lv_iload hx hb dX3_lowest_33 (lv_at hl 4 rfl) ?_
    refine zSN_i [.int x3, .int x5] [] zc ky_X10_has kz_X10_has (hK.2 _ kn_3_67) (c_z_X10_has l hw) (zPre0 _) rfl rfl hl.1 (Nat.le_of_ble_eq_true rfl) ⟨rfl, rfl⟩ ⟨Nat.le_of_ble_eq_true rfl, Nat.le_of_ble_eq_true rfl⟩ ⟨(Nat.zero_le _), (Nat.zero_le _)⟩ dX3_lowest_35 (fun r_1 hw => ?_)
    refine lv_if_eq (tgt := 71) hx hb dX3_lowest_38 (by decide) (fun hc => ?_) (fun hc => ?_)
    · have hw := hw.1 hc
      exact t_wn_X3_lowest_6_71 zc hK hM (fun _ _ ls h hl => h ls hl) (lv_sub hl [0, 1, 2, 3, 4] rfl) hw
    · have hw := hw.2 hc
      refine lv_aload_n hx hb dX3_lowest_41 rfl (lv_at hl 0 rfl) ?_
      refine lv_iload hx hb dX3_lowest_42 (lv_at hl 4 rfl) ?_
      refine zV_i [.int x5] [] zc ky_X2_isDam kz_X2_isDam km_3_127 (c_wl_X2_isDam l hw) (wlPreV0 hK (pj_wn_wl_6 hM)) rfl rfl hl.1 (Nat.le_of_ble_eq_true rfl) ⟨rfl, rfl⟩ ⟨Nat.le_of_ble_eq_true rfl, Nat.le_of_ble_eq_true rfl⟩ ⟨(Nat.zero_le _), (Nat.zero_le _)⟩ dX3_lowest_44 (fun r_2 hw => ?_)
      refine lv_if_ne (tgt := 71) hx hb dX3_lowest_47 (by decide) (fun hc => ?_) (fun hc => ?_)
      · have hw := hw.1 hc
        exact t_wn_X3_lowest_6_71 zc hK hM (fun _ _ ls h hl => h ls hl) (lv_sub hl [0, 1, 2, 3, 4] rfl) hw
      · have hw := hw.2 hc
        refine lv_iload hx hb dX3_lowest_50 (lv_at hl 3 rfl) ?_
        refine lv_aload_n hx hb dX3_lowest_52 rfl (lv_at hl 0 rfl) ?_
        refine wng_3_147_6 zc hK hM dX3_lowest_53 ?_
        refine lv_iload hx hb dX3_lowest_56 (lv_at hl 4 rfl) ?_
        refine wnld_7 zc hK hM hw.1 dX3_lowest_58 ?_
        have hw := hw.2
        refine lv_aload_n hx hb dX3_lowest_59 rfl (lv_at hl 0 rfl) ?_
        refine wng_3_150_6 zc hK hM dX3_lowest_60 ?_
        refine lv_iload_n hx hb dX3_lowest_63 rfl (lv_at hl 1 rfl) ?_
        refine wnld_13 zc hK hM hw.1 dX3_lowest_64 ?_
        have hw := hw.2
        refine lv_isub hx hb dX3_lowest_65 ?_
        refine va_mmin hx hb (zc.2.2.1.trans hl.1.symm) zc.2.2.2.1 (zc.2.2.2.2.1 _ km_3_187) (zc.2.2.2.2.1 _ k_mmins) (zc.2.2.2.2.1 _ k_mini) (zc.2.2.2.2.1 _ k_mminc) (Nat.le_of_ble_eq_true rfl) (Nat.le_of_ble_eq_true rfl) (Nat.zero_le _) (Nat.zero_le _) dX3_lowest_66 ?_
        refine lv_topi (fun v_1 ev_1 => ?_)
        have hw := hw v_1 ev_1
        refine lv_istore (lv' := [(4, .int v_1), (1, .ref ql), (2, .int x2), (3, .int x3), (5, .int x5)]) hx hb dX3_lowest_69 hl (by decide) rfl (fun ls hl => ?_)
        exact t_wn_X3_lowest_6_71 zc hK hM (fun _ _ ls h hl => h ls hl) (lv_sub hl [1, 2, 3, 0, 4] rfl) hw
set_option maxRecDepth 20000 in
theorem t_wn_X3_lowest_6_0 {p : Program} {l : Launch} {e : Env} {s : State} {m : MethodId} {args : Array Value} {below : List Frame} {meth : Method} {c : Code} {E : zE} {qn ql qv : Nat} {f_minute : Int32} {f_avalanches : Int32} {f_begun : Int32} {f_climbed : Int32} {f_seed : Int32} {a_huts : Nat → Int32} {a_known : Nat → Int32} {a_levels : Nat → Int32} {a_snow : Nat → Int32} {a_open : Nat → Int32} {lf_huts : Int32} {lf_singers : Int32} {lf_villages : Int32} {lf_dams : Int32} {lf_echoes : Int32} {lf_deep : Int32} {lf_slide : Int32} {la_heights : Nat → Int32} {la_ladders : Nat → Int32} {la_minutes : Nat → Int32} {la_echoFrom : Nat → Int32} {la_echoTo : Nat → Int32} {la_homes : Nat → Int32} {la_talls : Nat → Int32} {la_known : Nat → Int32} {vf_deeds : Int32} {va_kinds : Nat → Int32} {va_firsts : Nat → Int32} {va_seconds : Nat → Int32} {post : Int32 → Prop} {x2 : Int32} {ls : Array Slot}
    (zc : zC p s m args meth c cX3_lowest 6 RX3 (some .int))
    (hK : zK E s)
    (hM : wnW E qn ql qv f_minute f_avalanches f_begun f_climbed f_seed a_huts a_known a_levels a_snow a_open lf_huts lf_singers lf_villages lf_dams lf_echoes lf_deep lf_slide la_heights la_ladders la_minutes la_echoFrom la_echoTo la_homes la_talls la_known vf_deeds va_kinds va_firsts va_seconds s.heap)
    (hl : lv_has ls 6 [(0, .ref qn), (1, .ref ql), (2, .int x2)])
    (hw : q_wn_X3_lowest_6_0 a_huts a_open lf_huts lf_dams la_heights la_talls x2 post) :
    W p l e rm_wn_X3_lowest_6 s m args below meth c s.heap [] 0 0 (MQ below (vp_Si post) args s 0 0 (fun _ => False)) (F0 m 0 ls []) := by
  have hx := zc.1
  have hb := zc.2.1
  refine lv_aload_n hx hb dX3_lowest_0 rfl (lv_at hl 0 rfl) ?_
  refine wng_3_9_0 zc hK hM dX3_lowest_1 ?_
  refine lv_iload_n hx hb dX3_lowest_4 rfl (lv_at hl 2 rfl) ?_
  refine wnld_1 zc hK hM hw.1 dX3_lowest_5 ?_
  have hw := hw.2
  refine lv_aload_n hx hb dX3_lowest_6 rfl (lv_at hl 0 rfl) ?_
  refine wng_3_24_0 zc hK hM dX3_lowest_7 ?_
  refine lv_iconst (v := (0 : Int32)) hx hb dX3_lowest_10 (by decide) ?_
  refine zS_i [.int (a_huts (Int32.toNatClampNeg x2)), .ref (qn + 5), .int (0 : Int32)] [] zc ky_X7_reach kz_X7_reach km_3_181 (c_wn_X7_reach_5 l hw) (wnPreS hK hM) rfl rfl hl.1 (Nat.le_of_ble_eq_true rfl) ⟨rfl, rfl⟩ ⟨Nat.le_of_ble_eq_true rfl, Nat.le_of_ble_eq_true rfl⟩ ⟨(Nat.zero_le _), (Nat.zero_le _)⟩ dX3_lowest_11 (fun r_1 hw => ?_)
  refine lv_istore_n (lv' := [(3, .int r_1), (0, .ref qn), (1, .ref ql), (2, .int x2)]) hx hb dX3_lowest_14 rfl hl (by decide) rfl (fun ls hl => ?_)
  refine lv_sipush (v := (1000 : Int32)) hx hb dX3_lowest_15 (by decide) ?_
  refine lv_istore (lv' := [(4, .int (1000 : Int32)), (3, .int r_1), (0, .ref qn), (1, .ref ql), (2, .int x2)]) hx hb dX3_lowest_18 hl (by decide) rfl (fun ls hl => ?_)
  refine lv_iconst (v := (0 : Int32)) hx hb dX3_lowest_20 (by decide) ?_
  refine lv_istore (lv' := [(5, .int (0 : Int32)), (4, .int (1000 : Int32)), (3, .int r_1), (0, .ref qn), (1, .ref ql), (2, .int x2)]) hx hb dX3_lowest_21 hl (by decide) rfl (fun ls hl => ?_)
  exact t_wn_X3_lowest_6_23 zc hK hM  (lv_sub hl [4, 5, 2, 1, 0] rfl) hw
set_option maxRecDepth 20000 in
theorem c_wn_X3_lowest_6 (l : Launch) {E : zE} {qn ql qv : Nat} {f_minute : Int32} {f_avalanches : Int32} {f_begun : Int32} {f_climbed : Int32} {f_seed : Int32} {a_huts : Nat → Int32} {a_known : Nat → Int32} {a_levels : Nat → Int32} {a_snow : Nat → Int32} {a_open : Nat → Int32} {lf_huts : Int32} {lf_singers : Int32} {lf_villages : Int32} {lf_dams : Int32} {lf_echoes : Int32} {lf_deep : Int32} {lf_slide : Int32} {la_heights : Nat → Int32} {la_ladders : Nat → Int32} {la_minutes : Nat → Int32} {la_echoFrom : Nat → Int32} {la_echoTo : Nat → Int32} {la_homes : Nat → Int32} {la_talls : Nat → Int32} {la_known : Nat → Int32} {vf_deeds : Int32} {va_kinds : Nat → Int32} {va_firsts : Nat → Int32} {va_seconds : Nat → Int32} {x2 : Int32} {post : Int32 → Prop} (hw : q_wn_X3_lowest_6_0 a_huts a_open lf_huts lf_dams la_heights la_talls x2 post) : Met l yX3_lowest (Cond.code yX3_lowest cX3_lowest 6 (some .int) :: zb) rm_wn_X3_lowest_6 (va_Pc [.ref qn, .ref ql, .int x2] (fun U => wnW E qn ql qv f_minute f_avalanches f_begun f_climbed f_seed a_huts a_known a_levels a_snow a_open lf_huts lf_singers lf_villages lf_dams lf_echoes lf_deep lf_slide la_heights la_ladders la_minutes la_echoFrom la_echoTo la_homes la_talls la_known vf_deeds va_kinds va_firsts va_seconds U.heap ∧ zK E U)) (vp_Si post) 0 0 (fun _ => False) := by
  refine Met.ofW (cc := cX3_lowest) (maxL := 6) (ret := (some .int)) (by decide) rfl ?_
  intro p e s m args below meth c s₁ B hml hv
  obtain ⟨rfl, hM, hK⟩ := hv
  have zc := zc_of B hml
  have hl := lv_entry ([.ref qn, .ref ql, .int x2]) (n := 6) (Nat.le_of_ble_eq_true rfl)
  rw [lg_entry_eq]
  generalize (lg_sl ([.ref qn, .ref ql, .int x2]) ++ List.replicate (6 - (lg_sl ([.ref qn, .ref ql, .int x2])).length) Slot.unset).toArray = ls at hl ⊢
  have hl : lv_has ls 6 [(0, .ref qn), (1, .ref ql), (2, .int x2)] := hl
  exact t_wn_X3_lowest_6_0 zc hK hM (lv_sub hl [0, 1, 2] rfl) hw
-- wn_X3_doneFor_6
abbrev rm_wn_X3_doneFor_6 : Room := { frames := 3, cells := 0, slots := 0, locals := 72 }
def q_wn_X3_doneFor_6_72 (P12 : Int32 → Int32 → Prop) (P31 : Int32 → Int32 → Prop) (f_begun : Int32) (a_huts : Nat → Int32) (a_known : Nat → Int32) (a_levels : Nat → Int32) (a_snow : Nat → Int32) (a_open : Nat → Int32) (lf_huts : Int32) (lf_singers : Int32) (lf_dams : Int32) (lf_deep : Int32) (la_heights : Nat → Int32) (la_minutes : Nat → Int32) (la_talls : Nat → Int32) (x2 : Int32) (x3 : Int32) (x4 : Int32) (x5 : Int32) (post : Int32 → (Nat → Int32) → Prop) : Prop :=
  ∀ v_1 : Int32, v_1 = x5 + (1 : Int32) → (P31 x2 v_1)
def q_wn_X3_doneFor_6_31 (P12 : Int32 → Int32 → Prop) (f_begun : Int32) (a_huts : Nat → Int32) (a_known : Nat → Int32) (a_levels : Nat → Int32) (a_snow : Nat → Int32) (a_open : Nat → Int32) (lf_huts : Int32) (lf_singers : Int32) (lf_dams : Int32) (lf_deep : Int32) (la_heights : Nat → Int32) (la_minutes : Nat → Int32) (la_talls : Nat → Int32) (x2 : Int32) (x3 : Int32) (x4 : Int32) (x5 : Int32) (post : Int32 → (Nat → Int32) → Prop) : Prop :=
  ∀ P31 : Int32 → Int32 → Prop, (∀ (x2 : Int32) (x5 : Int32), (((5 : Int32) ≤ x5 → (∀ v_1 : Int32, v_1 = x3 + (1 : Int32) → (P12 x2 v_1))) ∧ (¬ (5 : Int32) ≤ x5 → (vp_in x3 6 ∧ (q_z_X10_has_0 (a_known (Int32.toNatClampNeg x3)) x5 (fun r_1 => (r_1 = 0 → (q_wn_X3_doneFor_6_72 P12 P31 f_begun a_huts a_known a_levels a_snow a_open lf_huts lf_singers lf_dams lf_deep la_heights la_minutes la_talls x2 x3 x4 x5 post)) ∧ (¬ r_1 = 0 → (vp_in x5 5 ∧ (((a_levels (Int32.toNatClampNeg x5)) ≤ x4 → (q_wn_X3_doneFor_6_72 P12 P31 f_begun a_huts a_known a_levels a_snow a_open lf_huts lf_singers lf_dams lf_deep la_heights la_minutes la_talls x2 x3 x4 x5 post)) ∧ (¬ (a_levels (Int32.toNatClampNeg x5)) ≤ x4 → (∀ v_2 : Int32, v_2 = (x2 &&& (((1 : Int32) <<< (x5 &&& 31)) ^^^ (-1 : Int32))) → (q_wn_X3_doneFor_6_72 P12 P31 f_begun a_huts a_known a_levels a_snow a_open lf_huts lf_singers lf_dams lf_deep la_heights la_minutes la_talls v_2 x3 x4 x5 post))))))))))) → P31 x2 x5) → P31 x2 x5
def q_wn_X3_doneFor_6_12 (f_begun : Int32) (a_huts : Nat → Int32) (a_known : Nat → Int32) (a_levels : Nat → Int32) (a_snow : Nat → Int32) (a_open : Nat → Int32) (lf_huts : Int32) (lf_singers : Int32) (lf_dams : Int32) (lf_deep : Int32) (la_heights : Nat → Int32) (la_minutes : Nat → Int32) (la_talls : Nat → Int32) (x2 : Int32) (x3 : Int32) (post : Int32 → (Nat → Int32) → Prop) : Prop :=
  ∀ P12 : Int32 → Int32 → Prop, (∀ (x2 : Int32) (x3 : Int32), ((lf_singers ≤ x3 → (post x2 a_open)) ∧ (¬ lf_singers ≤ x3 → (q_wn_X3_lowest_6_0 a_huts a_open lf_huts lf_dams la_heights la_talls x3 (fun r_1 => q_wn_X3_doneFor_6_31 P12 f_begun a_huts a_known a_levels a_snow a_open lf_huts lf_singers lf_dams lf_deep la_heights la_minutes la_talls x2 x3 r_1 (0 : Int32) post)))) → P12 x2 x3) → P12 x2 x3
def q_wn_X3_doneFor_6_0 (f_begun : Int32) (a_huts : Nat → Int32) (a_known : Nat → Int32) (a_levels : Nat → Int32) (a_snow : Nat → Int32) (a_open : Nat → Int32) (lf_huts : Int32) (lf_singers : Int32) (lf_dams : Int32) (lf_deep : Int32) (la_heights : Nat → Int32) (la_minutes : Nat → Int32) (la_talls : Nat → Int32) (post : Int32 → (Nat → Int32) → Prop) : Prop :=
  q_wn_X3_openWays_6_0 a_snow a_open lf_huts lf_deep la_minutes (fun a_open_1 => q_wn_X3_doneFor_6_12 f_begun a_huts a_known a_levels a_snow a_open_1 lf_huts lf_singers lf_dams lf_deep la_heights la_minutes la_talls f_begun (0 : Int32) post)
set_option maxRecDepth 20000 in
theorem t_wn_X3_doneFor_6_72 {p : Program} {l : Launch} {e : Env} {s : State} {m : MethodId} {args : Array Value} {below : List Frame} {meth : Method} {c : Code} {E : zE} {qn ql qv : Nat} {f_minute : Int32} {f_avalanches : Int32} {f_begun : Int32} {f_climbed : Int32} {f_seed : Int32} {a_huts : Nat → Int32} {a_known : Nat → Int32} {a_levels : Nat → Int32} {a_snow : Nat → Int32} {a_open : Nat → Int32} {lf_huts : Int32} {lf_singers : Int32} {lf_villages : Int32} {lf_dams : Int32} {lf_echoes : Int32} {lf_deep : Int32} {lf_slide : Int32} {la_heights : Nat → Int32} {la_ladders : Nat → Int32} {la_minutes : Nat → Int32} {la_echoFrom : Nat → Int32} {la_echoTo : Nat → Int32} {la_homes : Nat → Int32} {la_talls : Nat → Int32} {la_known : Nat → Int32} {vf_deeds : Int32} {va_kinds : Nat → Int32} {va_firsts : Nat → Int32} {va_seconds : Nat → Int32} {P12 : Int32 → Int32 → Prop} {P31 : Int32 → Int32 → Prop} {post : Int32 → (Nat → Int32) → Prop} {x2 : Int32} {x3 : Int32} {x4 : Int32} {x5 : Int32} {ls : Array Slot} {H : Heap} {locs : List Loc}
    (zc : zC p s m args meth c cX3_doneFor 6 RX3 (some .int))
    (hK : zK E s)
    (hM : wnW E qn ql qv f_minute f_avalanches f_begun f_climbed f_seed a_huts a_known a_levels a_snow a_open lf_huts lf_singers lf_villages lf_dams lf_echoes lf_deep lf_slide la_heights la_ladders la_minutes la_echoFrom la_echoTo la_homes la_talls la_known vf_deeds va_kinds va_firsts va_seconds H)
    (hS : va_S (wnA qn ql qv) s.heap H locs)
    (hP12 : ∀ (x2 : Int32) (x3 : Int32) (H : Heap) (locs : List Loc) (ls : Array Slot), P12 x2 x3 → lv_has ls 6 [(0, .ref qn), (1, .ref ql), (2, .int x2), (3, .int x3)] → wnW E qn ql qv f_minute f_avalanches f_begun f_climbed f_seed a_huts a_known a_levels a_snow a_open lf_huts lf_singers lf_villages lf_dams lf_echoes lf_deep lf_slide la_heights la_ladders la_minutes la_echoFrom la_echoTo la_homes la_talls la_known vf_deeds va_kinds va_firsts va_seconds H → va_S (wnA qn ql qv) s.heap H locs → W p l e rm_wn_X3_doneFor_6 s m args below meth c H locs 0 0 (MQ below (zQi (S := (Nat → Int32)) (fun r u => post r u) (fun u H => wnW E qn ql qv f_minute f_avalanches f_begun f_climbed f_seed a_huts a_known a_levels a_snow u lf_huts lf_singers lf_villages lf_dams lf_echoes lf_deep lf_slide la_heights la_ladders la_minutes la_echoFrom la_echoTo la_homes la_talls la_known vf_deeds va_kinds va_firsts va_seconds H) (wnA qn ql qv)) args s 0 0 (wnA qn ql qv)) (F0 m 12 ls []))
    (hP31 : ∀ (x2 : Int32) (x5 : Int32) (H : Heap) (locs : List Loc) (ls : Array Slot), P31 x2 x5 → lv_has ls 6 [(0, .ref qn), (1, .ref ql), (2, .int x2), (3, .int x3), (4, .int x4), (5, .int x5)] → wnW E qn ql qv f_minute f_avalanches f_begun f_climbed f_seed a_huts a_known a_levels a_snow a_open lf_huts lf_singers lf_villages lf_dams lf_echoes lf_deep lf_slide la_heights la_ladders la_minutes la_echoFrom la_echoTo la_homes la_talls la_known vf_deeds va_kinds va_firsts va_seconds H → va_S (wnA qn ql qv) s.heap H locs → W p l e rm_wn_X3_doneFor_6 s m args below meth c H locs 0 0 (MQ below (zQi (S := (Nat → Int32)) (fun r u => post r u) (fun u H => wnW E qn ql qv f_minute f_avalanches f_begun f_climbed f_seed a_huts a_known a_levels a_snow u lf_huts lf_singers lf_villages lf_dams lf_echoes lf_deep lf_slide la_heights la_ladders la_minutes la_echoFrom la_echoTo la_homes la_talls la_known vf_deeds va_kinds va_firsts va_seconds H) (wnA qn ql qv)) args s 0 0 (wnA qn ql qv)) (F0 m 31 ls []))
    (hl : lv_has ls 6 [(0, .ref qn), (1, .ref ql), (2, .int x2), (3, .int x3), (4, .int x4), (5, .int x5)])
    (hw : q_wn_X3_doneFor_6_72 P12 P31 f_begun a_huts a_known a_levels a_snow a_open lf_huts lf_singers lf_dams lf_deep la_heights la_minutes la_talls x2 x3 x4 x5 post) :
    W p l e rm_wn_X3_doneFor_6 s m args below meth c H locs 0 0 (MQ below (zQi (S := (Nat → Int32)) (fun r u => post r u) (fun u H => wnW E qn ql qv f_minute f_avalanches f_begun f_climbed f_seed a_huts a_known a_levels a_snow u lf_huts lf_singers lf_villages lf_dams lf_echoes lf_deep lf_slide la_heights la_ladders la_minutes la_echoFrom la_echoTo la_homes la_talls la_known vf_deeds va_kinds va_firsts va_seconds H) (wnA qn ql qv)) args s 0 0 (wnA qn ql qv)) (F0 m 72 ls []) := by
  have hx := zc.1
  have hb := zc.2.1
  obtain ⟨v_1, ev_1⟩ : ∃ y : Int32, y = x5 + (1 : Int32) := ⟨_, rfl⟩
  have hw := hw v_1 ev_1
  refine lv_iinc (v := v_1) (k := 5) (lv' := [(5, .int v_1), (0, .ref qn), (1, .ref ql), (2, .int x2), (3, .int x3), (4, .int x4)]) hx hb dX3_doneFor_72 hl rfl (by rw [ev_1]; rfl) (by decide) rfl (fun ls hl => ?_)
  refine lv_goto (tgt := 31) hx hb dX3_doneFor_75 (by decide) ?_
  exact hP31 _ _ _ _ _ hw (lv_sub hl [1, 2, 3, 4, 5, 0] rfl) hM hS
set_option maxRecDepth 20000 in
theorem t_wn_X3_doneFor_6_31 {p : Program} {l : Launch} {e : Env} {s : State} {m : MethodId} {args : Array Value} {below : List Frame} {meth : Method} {c : Code} {E : zE} {qn ql qv : Nat} {f_minute : Int32} {f_avalanches : Int32} {f_begun : Int32} {f_climbed : Int32} {f_seed : Int32} {a_huts : Nat → Int32} {a_known : Nat → Int32} {a_levels : Nat → Int32} {a_snow : Nat → Int32} {a_open : Nat → Int32} {lf_huts : Int32} {lf_singers : Int32} {lf_villages : Int32} {lf_dams : Int32} {lf_echoes : Int32} {lf_deep : Int32} {lf_slide : Int32} {la_heights : Nat → Int32} {la_ladders : Nat → Int32} {la_minutes : Nat → Int32} {la_echoFrom : Nat → Int32} {la_echoTo : Nat → Int32} {la_homes : Nat → Int32} {la_talls : Nat → Int32} {la_known : Nat → Int32} {vf_deeds : Int32} {va_kinds : Nat → Int32} {va_firsts : Nat → Int32} {va_seconds : Nat → Int32} {P12 : Int32 → Int32 → Prop} {post : Int32 → (Nat → Int32) → Prop} {x2 : Int32} {x3 : Int32} {x4 : Int32} {x5 : Int32} {ls : Array Slot} {H : Heap} {locs : List Loc}
    (zc : zC p s m args meth c cX3_doneFor 6 RX3 (some .int))
    (hK : zK E s)
    (hM : wnW E qn ql qv f_minute f_avalanches f_begun f_climbed f_seed a_huts a_known a_levels a_snow a_open lf_huts lf_singers lf_villages lf_dams lf_echoes lf_deep lf_slide la_heights la_ladders la_minutes la_echoFrom la_echoTo la_homes la_talls la_known vf_deeds va_kinds va_firsts va_seconds H)
    (hS : va_S (wnA qn ql qv) s.heap H locs)
    (hP12 : ∀ (x2 : Int32) (x3 : Int32) (H : Heap) (locs : List Loc) (ls : Array Slot), P12 x2 x3 → lv_has ls 6 [(0, .ref qn), (1, .ref ql), (2, .int x2), (3, .int x3)] → wnW E qn ql qv f_minute f_avalanches f_begun f_climbed f_seed a_huts a_known a_levels a_snow a_open lf_huts lf_singers lf_villages lf_dams lf_echoes lf_deep lf_slide la_heights la_ladders la_minutes la_echoFrom la_echoTo la_homes la_talls la_known vf_deeds va_kinds va_firsts va_seconds H → va_S (wnA qn ql qv) s.heap H locs → W p l e rm_wn_X3_doneFor_6 s m args below meth c H locs 0 0 (MQ below (zQi (S := (Nat → Int32)) (fun r u => post r u) (fun u H => wnW E qn ql qv f_minute f_avalanches f_begun f_climbed f_seed a_huts a_known a_levels a_snow u lf_huts lf_singers lf_villages lf_dams lf_echoes lf_deep lf_slide la_heights la_ladders la_minutes la_echoFrom la_echoTo la_homes la_talls la_known vf_deeds va_kinds va_firsts va_seconds H) (wnA qn ql qv)) args s 0 0 (wnA qn ql qv)) (F0 m 12 ls []))
    (hl : lv_has ls 6 [(0, .ref qn), (1, .ref ql), (2, .int x2), (3, .int x3), (4, .int x4), (5, .int x5)])
    (hw : q_wn_X3_doneFor_6_31 P12 f_begun a_huts a_known a_levels a_snow a_open lf_huts lf_singers lf_dams lf_deep la_heights la_minutes la_talls x2 x3 x4 x5 post) :
    W p l e rm_wn_X3_doneFor_6 s m args below meth c H locs 0 0 (MQ below (zQi (S := (Nat → Int32)) (fun r u => post r u) (fun u H => wnW E qn ql qv f_minute f_avalanches f_begun f_climbed f_seed a_huts a_known a_levels a_snow u lf_huts lf_singers lf_villages lf_dams lf_echoes lf_deep lf_slide la_heights la_ladders la_minutes la_echoFrom la_echoTo la_homes la_talls la_known vf_deeds va_kinds va_firsts va_seconds H) (wnA qn ql qv)) args s 0 0 (wnA qn ql qv)) (F0 m 31 ls []) := by
  have hx := zc.1
  have hb := zc.2.1
  refine hw (fun x2 x5 => ∀ (H : Heap) (locs : List Loc) (ls : Array Slot), lv_has ls 6 [(0, .ref qn), (1, .ref ql), (2, .int x2), (3, .int x3), (4, .int x4), (5, .int x5)] → wnW E qn ql qv f_minute f_avalanches f_begun f_climbed f_seed a_huts a_known a_levels a_snow a_open lf_huts lf_singers lf_villages lf_dams lf_echoes lf_deep lf_slide la_heights la_ladders la_minutes la_echoFrom la_echoTo la_homes la_talls la_known vf_deeds va_kinds va_firsts va_seconds H → va_S (wnA qn ql qv) s.heap H locs → W p l e rm_wn_X3_doneFor_6 s m args below meth c H locs 0 0 (MQ below (zQi (S := (Nat → Int32)) (fun r u => post r u) (fun u H => wnW E qn ql qv f_minute f_avalanches f_begun f_climbed f_seed a_huts a_known a_levels a_snow u lf_huts lf_singers lf_villages lf_dams lf_echoes lf_deep lf_slide la_heights la_ladders la_minutes la_echoFrom la_echoTo la_homes la_talls la_known vf_deeds va_kinds va_firsts va_seconds H) (wnA qn ql qv)) args s 0 0 (wnA qn ql qv)) (F0 m 31 ls [])) ?_ _ _ _ hl hM hS
  intro x2 x5 hw H locs ls hl hM hS
  refine lv_iload hx hb dX3_doneFor_31 (lv_at hl 5 rfl) ?_
  refine lv_iconst (v := (5 : Int32)) hx hb dX3_doneFor_33 (by decide) ?_
  refine lv_icmp_ge (tgt := 78) hx hb dX3_doneFor_34 (by decide) (fun hc => ?_) (fun hc => ?_)
  · have hw := hw.1 hc
    obtain ⟨v_1, ev_1⟩ : ∃ y : Int32, y = x3 + (1 : Int32) := ⟨_, rfl⟩
    have hw := hw v_1 ev_1
    refine lv_iinc (v := v_1) (k := 3) (lv' := [(3, .int v_1), (0, .ref qn), (1, .ref ql), (2, .int x2), (4, .int x4), (5, .int x5)]) hx hb dX3_doneFor_78 hl rfl (by rw [ev_1]; rfl) (by decide) rfl (fun ls hl => ?_)
    refine lv_goto (tgt := 12) hx hb dX3_doneFor_81 (by decide) ?_
    exact hP12 _ _ _ _ _ hw (lv_sub hl [1, 2, 3, 0] rfl) hM hS
  · have hw := hw.2 hc
    refine lv_aload_n hx hb dX3_doneFor_37 rfl (lv_at hl 0 rfl) ?_
    refine wng_3_15_0 zc hK hM dX3_doneFor_38 ?_
    refine lv_iload_n hx hb dX3_doneFor_41 rfl (lv_at hl 3 rfl) ?_
    refine wnld_2 zc hK hM hw.1 dX3_doneFor_42 ?_
    have hw := hw.2
    refine lv_iload hx hb dX3_doneFor_43 (lv_at hl 5 rfl) ?_
    refine zSN_i [.int (a_known (Int32.toNatClampNeg x3)), .int x5] [] zc ky_X10_has kz_X10_has (hK.2 _ kn_3_67) (c_z_X10_has l hw) (zPre0 _) rfl rfl hl.1 (Nat.le_of_ble_eq_true rfl) ⟨rfl, rfl⟩ ⟨Nat.le_of_ble_eq_true rfl, Nat.le_of_ble_eq_true rfl⟩ ⟨(Nat.zero_le _), (Nat.zero_le _)⟩ dX3_doneFor_45 (fun r_1 hw => ?_)
    refine lv_if_eq (tgt := 72) hx hb dX3_doneFor_48 (by decide) (fun hc => ?_) (fun hc => ?_)
    · have hw := hw.1 hc
      exact t_wn_X3_doneFor_6_72 zc hK hM hS hP12 (fun _ _ H locs ls h hl hM hS => h H locs ls hl hM hS) (lv_sub hl [0, 1, 2, 3, 4, 5] rfl) hw
    · have hw := hw.2 hc
      refine lv_iload hx hb dX3_doneFor_51 (lv_at hl 4 rfl) ?_
      refine lv_aload_n hx hb dX3_doneFor_53 rfl (lv_at hl 0 rfl) ?_
      refine wng_3_18_0 zc hK hM dX3_doneFor_54 ?_
      refine lv_iload hx hb dX3_doneFor_57 (lv_at hl 5 rfl) ?_
      refine wnld_3 zc hK hM hw.1 dX3_doneFor_59 ?_
      have hw := hw.2
      refine lv_icmp_ge (tgt := 72) hx hb dX3_doneFor_60 (by decide) (fun hc => ?_) (fun hc => ?_)
      · have hw := hw.1 hc
        exact t_wn_X3_doneFor_6_72 zc hK hM hS hP12 (fun _ _ H locs ls h hl hM hS => h H locs ls hl hM hS) (lv_sub hl [0, 1, 2, 3, 4, 5] rfl) hw
      · have hw := hw.2 hc
        refine lv_iload_n hx hb dX3_doneFor_63 rfl (lv_at hl 2 rfl) ?_
        refine lv_iconst (v := (1 : Int32)) hx hb dX3_doneFor_64 (by decide) ?_
        refine lv_iload hx hb dX3_doneFor_65 (lv_at hl 5 rfl) ?_
        refine lv_ishl hx hb dX3_doneFor_67 ?_
        refine lv_iconst (v := (-1 : Int32)) hx hb dX3_doneFor_68 (by decide) ?_
        refine lv_ixor hx hb dX3_doneFor_69 ?_
        refine lv_iand hx hb dX3_doneFor_70 ?_
        refine lv_topi (fun v_2 ev_2 => ?_)
        have hw := hw v_2 ev_2
        refine lv_istore_n (lv' := [(2, .int v_2), (0, .ref qn), (1, .ref ql), (3, .int x3), (4, .int x4), (5, .int x5)]) hx hb dX3_doneFor_71 rfl hl (by decide) rfl (fun ls hl => ?_)
        exact t_wn_X3_doneFor_6_72 zc hK hM hS hP12 (fun _ _ H locs ls h hl hM hS => h H locs ls hl hM hS) (lv_sub hl [1, 2, 0, 3, 4, 5] rfl) hw
set_option maxRecDepth 20000 in
theorem t_wn_X3_doneFor_6_12 {p : Program} {l : Launch} {e : Env} {s : State} {m : MethodId} {args : Array Value} {below : List Frame} {meth : Method} {c : Code} {E : zE} {qn ql qv : Nat} {f_minute : Int32} {f_avalanches : Int32} {f_begun : Int32} {f_climbed : Int32} {f_seed : Int32} {a_huts : Nat → Int32} {a_known : Nat → Int32} {a_levels : Nat → Int32} {a_snow : Nat → Int32} {a_open : Nat → Int32} {lf_huts : Int32} {lf_singers : Int32} {lf_villages : Int32} {lf_dams : Int32} {lf_echoes : Int32} {lf_deep : Int32} {lf_slide : Int32} {la_heights : Nat → Int32} {la_ladders : Nat → Int32} {la_minutes : Nat → Int32} {la_echoFrom : Nat → Int32} {la_echoTo : Nat → Int32} {la_homes : Nat → Int32} {la_talls : Nat → Int32} {la_known : Nat → Int32} {vf_deeds : Int32} {va_kinds : Nat → Int32} {va_firsts : Nat → Int32} {va_seconds : Nat → Int32} {post : Int32 → (Nat → Int32) → Prop} {x2 : Int32} {x3 : Int32} {ls : Array Slot} {H : Heap} {locs : List Loc}
    (zc : zC p s m args meth c cX3_doneFor 6 RX3 (some .int))
    (hK : zK E s)
    (hM : wnW E qn ql qv f_minute f_avalanches f_begun f_climbed f_seed a_huts a_known a_levels a_snow a_open lf_huts lf_singers lf_villages lf_dams lf_echoes lf_deep lf_slide la_heights la_ladders la_minutes la_echoFrom la_echoTo la_homes la_talls la_known vf_deeds va_kinds va_firsts va_seconds H)
    (hS : va_S (wnA qn ql qv) s.heap H locs)
    (hl : lv_has ls 6 [(0, .ref qn), (1, .ref ql), (2, .int x2), (3, .int x3)])
    (hw : q_wn_X3_doneFor_6_12 f_begun a_huts a_known a_levels a_snow a_open lf_huts lf_singers lf_dams lf_deep la_heights la_minutes la_talls x2 x3 post) :
    W p l e rm_wn_X3_doneFor_6 s m args below meth c H locs 0 0 (MQ below (zQi (S := (Nat → Int32)) (fun r u => post r u) (fun u H => wnW E qn ql qv f_minute f_avalanches f_begun f_climbed f_seed a_huts a_known a_levels a_snow u lf_huts lf_singers lf_villages lf_dams lf_echoes lf_deep lf_slide la_heights la_ladders la_minutes la_echoFrom la_echoTo la_homes la_talls la_known vf_deeds va_kinds va_firsts va_seconds H) (wnA qn ql qv)) args s 0 0 (wnA qn ql qv)) (F0 m 12 ls []) := by
  have hx := zc.1
  have hb := zc.2.1
  refine hw (fun x2 x3 => ∀ (H : Heap) (locs : List Loc) (ls : Array Slot), lv_has ls 6 [(0, .ref qn), (1, .ref ql), (2, .int x2), (3, .int x3)] → wnW E qn ql qv f_minute f_avalanches f_begun f_climbed f_seed a_huts a_known a_levels a_snow a_open lf_huts lf_singers lf_villages lf_dams lf_echoes lf_deep lf_slide la_heights la_ladders la_minutes la_echoFrom la_echoTo la_homes la_talls la_known vf_deeds va_kinds va_firsts va_seconds H → va_S (wnA qn ql qv) s.heap H locs → W p l e rm_wn_X3_doneFor_6 s m args below meth c H locs 0 0 (MQ below (zQi (S := (Nat → Int32)) (fun r u => post r u) (fun u H => wnW E qn ql qv f_minute f_avalanches f_begun f_climbed f_seed a_huts a_known a_levels a_snow u lf_huts lf_singers lf_villages lf_dams lf_echoes lf_deep lf_slide la_heights la_ladders la_minutes la_echoFrom la_echoTo la_homes la_talls la_known vf_deeds va_kinds va_firsts va_seconds H) (wnA qn ql qv)) args s 0 0 (wnA qn ql qv)) (F0 m 12 ls [])) ?_ _ _ _ hl hM hS
  intro x2 x3 hw H locs ls hl hM hS
  refine lv_iload_n hx hb dX3_doneFor_12 rfl (lv_at hl 3 rfl) ?_
  refine lv_aload_n hx hb dX3_doneFor_13 rfl (lv_at hl 1 rfl) ?_
  refine wng_3_53_6 zc hK hM dX3_doneFor_14 ?_
  refine lv_icmp_ge (tgt := 84) hx hb dX3_doneFor_17 (by decide) (fun hc => ?_) (fun hc => ?_)
  · have hw := hw.1 hc
    refine lv_iload_n hx hb dX3_doneFor_84 rfl (lv_at hl 2 rfl) ?_
    exact zret_iw a_open zc hS hw hM dX3_doneFor_85
  · have hw := hw.2 hc
    refine lv_aload_n hx hb dX3_doneFor_20 rfl (lv_at hl 0 rfl) ?_
    refine lv_aload_n hx hb dX3_doneFor_21 rfl (lv_at hl 1 rfl) ?_
    refine lv_iload_n hx hb dX3_doneFor_22 rfl (lv_at hl 3 rfl) ?_
    refine zV_i [.ref ql, .int x3] [] zc ky_X3_lowest kz_X3_lowest km_3_178 (c_wn_X3_lowest_6 l hw) (wnPreV0 hK hM) rfl rfl hl.1 (Nat.le_of_ble_eq_true rfl) ⟨rfl, rfl⟩ ⟨Nat.le_of_ble_eq_true rfl, Nat.le_of_ble_eq_true rfl⟩ ⟨(Nat.zero_le _), (Nat.zero_le _)⟩ dX3_doneFor_23 (fun r_1 hw => ?_)
    refine lv_istore (lv' := [(4, .int r_1), (0, .ref qn), (1, .ref ql), (2, .int x2), (3, .int x3)]) hx hb dX3_doneFor_26 hl (by decide) rfl (fun ls hl => ?_)
    refine lv_iconst (v := (0 : Int32)) hx hb dX3_doneFor_28 (by decide) ?_
    refine lv_istore (lv' := [(5, .int (0 : Int32)), (4, .int r_1), (0, .ref qn), (1, .ref ql), (2, .int x2), (3, .int x3)]) hx hb dX3_doneFor_29 hl (by decide) rfl (fun ls hl => ?_)
    exact t_wn_X3_doneFor_6_31 zc hK hM hS (fun _ _ H locs ls h hl hM hS => h H locs ls hl hM hS) (lv_sub hl [2, 3, 4, 5, 1, 0] rfl) hw
set_option maxRecDepth 20000 in
theorem t_wn_X3_doneFor_6_0 {p : Program} {l : Launch} {e : Env} {s : State} {m : MethodId} {args : Array Value} {below : List Frame} {meth : Method} {c : Code} {E : zE} {qn ql qv : Nat} {f_minute : Int32} {f_avalanches : Int32} {f_begun : Int32} {f_climbed : Int32} {f_seed : Int32} {a_huts : Nat → Int32} {a_known : Nat → Int32} {a_levels : Nat → Int32} {a_snow : Nat → Int32} {a_open : Nat → Int32} {lf_huts : Int32} {lf_singers : Int32} {lf_villages : Int32} {lf_dams : Int32} {lf_echoes : Int32} {lf_deep : Int32} {lf_slide : Int32} {la_heights : Nat → Int32} {la_ladders : Nat → Int32} {la_minutes : Nat → Int32} {la_echoFrom : Nat → Int32} {la_echoTo : Nat → Int32} {la_homes : Nat → Int32} {la_talls : Nat → Int32} {la_known : Nat → Int32} {vf_deeds : Int32} {va_kinds : Nat → Int32} {va_firsts : Nat → Int32} {va_seconds : Nat → Int32} {post : Int32 → (Nat → Int32) → Prop} {ls : Array Slot} {H : Heap} {locs : List Loc}
    (zc : zC p s m args meth c cX3_doneFor 6 RX3 (some .int))
    (hK : zK E s)
    (hM : wnW E qn ql qv f_minute f_avalanches f_begun f_climbed f_seed a_huts a_known a_levels a_snow a_open lf_huts lf_singers lf_villages lf_dams lf_echoes lf_deep lf_slide la_heights la_ladders la_minutes la_echoFrom la_echoTo la_homes la_talls la_known vf_deeds va_kinds va_firsts va_seconds H)
    (hS : va_S (wnA qn ql qv) s.heap H locs)
    (hl : lv_has ls 6 [(0, .ref qn), (1, .ref ql)])
    (hw : q_wn_X3_doneFor_6_0 f_begun a_huts a_known a_levels a_snow a_open lf_huts lf_singers lf_dams lf_deep la_heights la_minutes la_talls post) :
    W p l e rm_wn_X3_doneFor_6 s m args below meth c H locs 0 0 (MQ below (zQi (S := (Nat → Int32)) (fun r u => post r u) (fun u H => wnW E qn ql qv f_minute f_avalanches f_begun f_climbed f_seed a_huts a_known a_levels a_snow u lf_huts lf_singers lf_villages lf_dams lf_echoes lf_deep lf_slide la_heights la_ladders la_minutes la_echoFrom la_echoTo la_homes la_talls la_known vf_deeds va_kinds va_firsts va_seconds H) (wnA qn ql qv)) args s 0 0 (wnA qn ql qv)) (F0 m 0 ls []) := by
  have hx := zc.1
  have hb := zc.2.1
  refine lv_aload_n hx hb dX3_doneFor_0 rfl (lv_at hl 0 rfl) ?_
  refine lv_aload_n hx hb dX3_doneFor_1 rfl (lv_at hl 1 rfl) ?_
  refine zVw_v [.ref ql] [] zc ky_X3_openWays kz_X3_openWays km_3_175 (c_wn_X3_openWays_6 l hw) (wnPreV0 hK hM) hS rfl rfl hl.1 (Nat.le_of_ble_eq_true rfl) ⟨rfl, rfl⟩ ⟨Nat.le_of_ble_eq_true rfl, Nat.le_of_ble_eq_true rfl⟩ ⟨(Nat.zero_le _), (Nat.zero_le _)⟩ dX3_doneFor_2 (fun a_open_1 H locs hw hM hS => ?_)
  refine lv_aload_n hx hb dX3_doneFor_5 rfl (lv_at hl 0 rfl) ?_
  refine wng_3_64_0 zc hK hM dX3_doneFor_6 ?_
  refine lv_istore_n (lv' := [(2, .int f_begun), (0, .ref qn), (1, .ref ql)]) hx hb dX3_doneFor_9 rfl hl (by decide) rfl (fun ls hl => ?_)
  refine lv_iconst (v := (0 : Int32)) hx hb dX3_doneFor_10 (by decide) ?_
  refine lv_istore_n (lv' := [(3, .int (0 : Int32)), (2, .int f_begun), (0, .ref qn), (1, .ref ql)]) hx hb dX3_doneFor_11 rfl hl (by decide) rfl (fun ls hl => ?_)
  exact t_wn_X3_doneFor_6_12 zc hK hM hS  (lv_sub hl [2, 3, 1, 0] rfl) hw
set_option maxRecDepth 20000 in
theorem c_wn_X3_doneFor_6 (l : Launch) {E : zE} {qn ql qv : Nat} {f_minute : Int32} {f_avalanches : Int32} {f_begun : Int32} {f_climbed : Int32} {f_seed : Int32} {a_huts : Nat → Int32} {a_known : Nat → Int32} {a_levels : Nat → Int32} {a_snow : Nat → Int32} {a_open : Nat → Int32} {lf_huts : Int32} {lf_singers : Int32} {lf_villages : Int32} {lf_dams : Int32} {lf_echoes : Int32} {lf_deep : Int32} {lf_slide : Int32} {la_heights : Nat → Int32} {la_ladders : Nat → Int32} {la_minutes : Nat → Int32} {la_echoFrom : Nat → Int32} {la_echoTo : Nat → Int32} {la_homes : Nat → Int32} {la_talls : Nat → Int32} {la_known : Nat → Int32} {vf_deeds : Int32} {va_kinds : Nat → Int32} {va_firsts : Nat → Int32} {va_seconds : Nat → Int32} {post : Int32 → (Nat → Int32) → Prop} (hw : q_wn_X3_doneFor_6_0 f_begun a_huts a_known a_levels a_snow a_open lf_huts lf_singers lf_dams lf_deep la_heights la_minutes la_talls post) : Met l yX3_doneFor (Cond.code yX3_doneFor cX3_doneFor 6 (some .int) :: zb) rm_wn_X3_doneFor_6 (va_Pc [.ref qn, .ref ql] (fun U => wnW E qn ql qv f_minute f_avalanches f_begun f_climbed f_seed a_huts a_known a_levels a_snow a_open lf_huts lf_singers lf_villages lf_dams lf_echoes lf_deep lf_slide la_heights la_ladders la_minutes la_echoFrom la_echoTo la_homes la_talls la_known vf_deeds va_kinds va_firsts va_seconds U.heap ∧ zK E U)) (zQi (S := (Nat → Int32)) (fun r u => post r u) (fun u H => wnW E qn ql qv f_minute f_avalanches f_begun f_climbed f_seed a_huts a_known a_levels a_snow u lf_huts lf_singers lf_villages lf_dams lf_echoes lf_deep lf_slide la_heights la_ladders la_minutes la_echoFrom la_echoTo la_homes la_talls la_known vf_deeds va_kinds va_firsts va_seconds H) (wnA qn ql qv)) 0 0 (wnA qn ql qv) := by
  refine Met.ofW (cc := cX3_doneFor) (maxL := 6) (ret := (some .int)) (by decide) rfl ?_
  intro p e s m args below meth c s₁ B hml hv
  obtain ⟨rfl, hM, hK⟩ := hv
  have zc := zc_of B hml
  have hl := lv_entry ([.ref qn, .ref ql]) (n := 6) (Nat.le_of_ble_eq_true rfl)
  rw [lg_entry_eq]
  generalize (lg_sl ([.ref qn, .ref ql]) ++ List.replicate (6 - (lg_sl ([.ref qn, .ref ql])).length) Slot.unset).toArray = ls at hl ⊢
  have hl : lv_has ls 6 [(0, .ref qn), (1, .ref ql)] := hl
  exact t_wn_X3_doneFor_6_0 zc hK hM va_S.rf (lv_sub hl [0, 1] rfl) hw
-- wn_X3_seers_6
abbrev rm_wn_X3_seers_6 : Room := { frames := 0, cells := 0, slots := 0, locals := 0 }
def q_wn_X3_seers_6_34 (P4 : Int32 → Int32 → Prop) (f_begun : Int32) (a_known : Nat → Int32) (lf_singers : Int32) (x2 : Int32) (x3 : Int32) (post : Int32 → Prop) : Prop :=
  ∀ v_1 : Int32, v_1 = x3 + (1 : Int32) → (P4 x2 v_1)
def q_wn_X3_seers_6_4 (f_begun : Int32) (a_known : Nat → Int32) (lf_singers : Int32) (x2 : Int32) (x3 : Int32) (post : Int32 → Prop) : Prop :=
  ∀ P4 : Int32 → Int32 → Prop, (∀ (x2 : Int32) (x3 : Int32), ((lf_singers ≤ x3 → (post x2)) ∧ (¬ lf_singers ≤ x3 → (vp_in x3 6 ∧ ((¬ (f_begun &&& ((a_known (Int32.toNatClampNeg x3)) ^^^ (-1 : Int32))) = 0 → (q_wn_X3_seers_6_34 P4 f_begun a_known lf_singers x2 x3 post)) ∧ ((f_begun &&& ((a_known (Int32.toNatClampNeg x3)) ^^^ (-1 : Int32))) = 0 → (∀ v_1 : Int32, v_1 = (x2 ||| ((1 : Int32) <<< (x3 &&& 31))) → (q_wn_X3_seers_6_34 P4 f_begun a_known lf_singers v_1 x3 post))))))) → P4 x2 x3) → P4 x2 x3
def q_wn_X3_seers_6_0 (f_begun : Int32) (a_known : Nat → Int32) (lf_singers : Int32) (post : Int32 → Prop) : Prop :=
  q_wn_X3_seers_6_4 f_begun a_known lf_singers (0 : Int32) (0 : Int32) post
set_option maxRecDepth 20000 in
theorem t_wn_X3_seers_6_34 {p : Program} {l : Launch} {e : Env} {s : State} {m : MethodId} {args : Array Value} {below : List Frame} {meth : Method} {c : Code} {E : zE} {qn ql qv : Nat} {f_minute : Int32} {f_avalanches : Int32} {f_begun : Int32} {f_climbed : Int32} {f_seed : Int32} {a_huts : Nat → Int32} {a_known : Nat → Int32} {a_levels : Nat → Int32} {a_snow : Nat → Int32} {a_open : Nat → Int32} {lf_huts : Int32} {lf_singers : Int32} {lf_villages : Int32} {lf_dams : Int32} {lf_echoes : Int32} {lf_deep : Int32} {lf_slide : Int32} {la_heights : Nat → Int32} {la_ladders : Nat → Int32} {la_minutes : Nat → Int32} {la_echoFrom : Nat → Int32} {la_echoTo : Nat → Int32} {la_homes : Nat → Int32} {la_talls : Nat → Int32} {la_known : Nat → Int32} {vf_deeds : Int32} {va_kinds : Nat → Int32} {va_firsts : Nat → Int32} {va_seconds : Nat → Int32} {P4 : Int32 → Int32 → Prop} {post : Int32 → Prop} {x2 : Int32} {x3 : Int32} {ls : Array Slot}
    (zc : zC p s m args meth c cX3_seers 4 RX3 (some .int))
    (hK : zK E s)
    (hM : wnW E qn ql qv f_minute f_avalanches f_begun f_climbed f_seed a_huts a_known a_levels a_snow a_open lf_huts lf_singers lf_villages lf_dams lf_echoes lf_deep lf_slide la_heights la_ladders la_minutes la_echoFrom la_echoTo la_homes la_talls la_known vf_deeds va_kinds va_firsts va_seconds s.heap)
    (hP4 : ∀ (x2 : Int32) (x3 : Int32) (ls : Array Slot), P4 x2 x3 → lv_has ls 4 [(0, .ref qn), (1, .ref ql), (2, .int x2), (3, .int x3)] → W p l e rm_wn_X3_seers_6 s m args below meth c s.heap [] 0 0 (MQ below (vp_Si post) args s 0 0 (fun _ => False)) (F0 m 4 ls []))
    (hl : lv_has ls 4 [(0, .ref qn), (1, .ref ql), (2, .int x2), (3, .int x3)])
    (hw : q_wn_X3_seers_6_34 P4 f_begun a_known lf_singers x2 x3 post) :
    W p l e rm_wn_X3_seers_6 s m args below meth c s.heap [] 0 0 (MQ below (vp_Si post) args s 0 0 (fun _ => False)) (F0 m 34 ls []) := by
  have hx := zc.1
  have hb := zc.2.1
  obtain ⟨v_1, ev_1⟩ : ∃ y : Int32, y = x3 + (1 : Int32) := ⟨_, rfl⟩
  have hw := hw v_1 ev_1
  refine lv_iinc (v := v_1) (k := 3) (lv' := [(3, .int v_1), (0, .ref qn), (1, .ref ql), (2, .int x2)]) hx hb dX3_seers_34 hl rfl (by rw [ev_1]; rfl) (by decide) rfl (fun ls hl => ?_)
  refine lv_goto (tgt := 4) hx hb dX3_seers_37 (by decide) ?_
  exact hP4 _ _ _ hw (lv_sub hl [1, 2, 3, 0] rfl)
set_option maxRecDepth 20000 in
theorem t_wn_X3_seers_6_4 {p : Program} {l : Launch} {e : Env} {s : State} {m : MethodId} {args : Array Value} {below : List Frame} {meth : Method} {c : Code} {E : zE} {qn ql qv : Nat} {f_minute : Int32} {f_avalanches : Int32} {f_begun : Int32} {f_climbed : Int32} {f_seed : Int32} {a_huts : Nat → Int32} {a_known : Nat → Int32} {a_levels : Nat → Int32} {a_snow : Nat → Int32} {a_open : Nat → Int32} {lf_huts : Int32} {lf_singers : Int32} {lf_villages : Int32} {lf_dams : Int32} {lf_echoes : Int32} {lf_deep : Int32} {lf_slide : Int32} {la_heights : Nat → Int32} {la_ladders : Nat → Int32} {la_minutes : Nat → Int32} {la_echoFrom : Nat → Int32} {la_echoTo : Nat → Int32} {la_homes : Nat → Int32} {la_talls : Nat → Int32} {la_known : Nat → Int32} {vf_deeds : Int32} {va_kinds : Nat → Int32} {va_firsts : Nat → Int32} {va_seconds : Nat → Int32} {post : Int32 → Prop} {x2 : Int32} {x3 : Int32} {ls : Array Slot}
    (zc : zC p s m args meth c cX3_seers 4 RX3 (some .int))
    (hK : zK E s)
    (hM : wnW E qn ql qv f_minute f_avalanches f_begun f_climbed f_seed a_huts a_known a_levels a_snow a_open lf_huts lf_singers lf_villages lf_dams lf_echoes lf_deep lf_slide la_heights la_ladders la_minutes la_echoFrom la_echoTo la_homes la_talls la_known vf_deeds va_kinds va_firsts va_seconds s.heap)
    (hl : lv_has ls 4 [(0, .ref qn), (1, .ref ql), (2, .int x2), (3, .int x3)])
    (hw : q_wn_X3_seers_6_4 f_begun a_known lf_singers x2 x3 post) :
    W p l e rm_wn_X3_seers_6 s m args below meth c s.heap [] 0 0 (MQ below (vp_Si post) args s 0 0 (fun _ => False)) (F0 m 4 ls []) := by
  have hx := zc.1
  have hb := zc.2.1
  refine hw (fun x2 x3 => ∀ (ls : Array Slot), lv_has ls 4 [(0, .ref qn), (1, .ref ql), (2, .int x2), (3, .int x3)] → W p l e rm_wn_X3_seers_6 s m args below meth c s.heap [] 0 0 (MQ below (vp_Si post) args s 0 0 (fun _ => False)) (F0 m 4 ls [])) ?_ _ hl
  intro x2 x3 hw ls hl
  refine lv_iload_n hx hb dX3_seers_4 rfl (lv_at hl 3 rfl) ?_
  refine lv_aload_n hx hb dX3_seers_5 rfl (lv_at hl 1 rfl) ?_
  refine wng_3_53_6 zc hK hM dX3_seers_6 ?_
  refine lv_icmp_ge (tgt := 40) hx hb dX3_seers_9 (by decide) (fun hc => ?_) (fun hc => ?_)
  · have hw := hw.1 hc
    refine lv_iload_n hx hb dX3_seers_40 rfl (lv_at hl 2 rfl) ?_
    exact zret_i zc hw dX3_seers_41
  · have hw := hw.2 hc
    refine lv_aload_n hx hb dX3_seers_12 rfl (lv_at hl 0 rfl) ?_
    refine wng_3_64_0 zc hK hM dX3_seers_13 ?_
    refine lv_aload_n hx hb dX3_seers_16 rfl (lv_at hl 0 rfl) ?_
    refine wng_3_15_0 zc hK hM dX3_seers_17 ?_
    refine lv_iload_n hx hb dX3_seers_20 rfl (lv_at hl 3 rfl) ?_
    refine wnld_2 zc hK hM hw.1 dX3_seers_21 ?_
    have hw := hw.2
    refine lv_iconst (v := (-1 : Int32)) hx hb dX3_seers_22 (by decide) ?_
    refine lv_ixor hx hb dX3_seers_23 ?_
    refine lv_iand hx hb dX3_seers_24 ?_
    refine lv_if_ne (tgt := 34) hx hb dX3_seers_25 (by decide) (fun hc => ?_) (fun hc => ?_)
    · have hw := hw.1 hc
      exact t_wn_X3_seers_6_34 zc hK hM (fun _ _ ls h hl => h ls hl) (lv_sub hl [0, 1, 2, 3] rfl) hw
    · have hw := hw.2 hc
      refine lv_iload_n hx hb dX3_seers_28 rfl (lv_at hl 2 rfl) ?_
      refine lv_iconst (v := (1 : Int32)) hx hb dX3_seers_29 (by decide) ?_
      refine lv_iload_n hx hb dX3_seers_30 rfl (lv_at hl 3 rfl) ?_
      refine lv_ishl hx hb dX3_seers_31 ?_
      refine lv_ior hx hb dX3_seers_32 ?_
      refine lv_topi (fun v_1 ev_1 => ?_)
      have hw := hw v_1 ev_1
      refine lv_istore_n (lv' := [(2, .int v_1), (0, .ref qn), (1, .ref ql), (3, .int x3)]) hx hb dX3_seers_33 rfl hl (by decide) rfl (fun ls hl => ?_)
      exact t_wn_X3_seers_6_34 zc hK hM (fun _ _ ls h hl => h ls hl) (lv_sub hl [1, 2, 0, 3] rfl) hw
set_option maxRecDepth 20000 in
theorem t_wn_X3_seers_6_0 {p : Program} {l : Launch} {e : Env} {s : State} {m : MethodId} {args : Array Value} {below : List Frame} {meth : Method} {c : Code} {E : zE} {qn ql qv : Nat} {f_minute : Int32} {f_avalanches : Int32} {f_begun : Int32} {f_climbed : Int32} {f_seed : Int32} {a_huts : Nat → Int32} {a_known : Nat → Int32} {a_levels : Nat → Int32} {a_snow : Nat → Int32} {a_open : Nat → Int32} {lf_huts : Int32} {lf_singers : Int32} {lf_villages : Int32} {lf_dams : Int32} {lf_echoes : Int32} {lf_deep : Int32} {lf_slide : Int32} {la_heights : Nat → Int32} {la_ladders : Nat → Int32} {la_minutes : Nat → Int32} {la_echoFrom : Nat → Int32} {la_echoTo : Nat → Int32} {la_homes : Nat → Int32} {la_talls : Nat → Int32} {la_known : Nat → Int32} {vf_deeds : Int32} {va_kinds : Nat → Int32} {va_firsts : Nat → Int32} {va_seconds : Nat → Int32} {post : Int32 → Prop} {ls : Array Slot}
    (zc : zC p s m args meth c cX3_seers 4 RX3 (some .int))
    (hK : zK E s)
    (hM : wnW E qn ql qv f_minute f_avalanches f_begun f_climbed f_seed a_huts a_known a_levels a_snow a_open lf_huts lf_singers lf_villages lf_dams lf_echoes lf_deep lf_slide la_heights la_ladders la_minutes la_echoFrom la_echoTo la_homes la_talls la_known vf_deeds va_kinds va_firsts va_seconds s.heap)
    (hl : lv_has ls 4 [(0, .ref qn), (1, .ref ql)])
    (hw : q_wn_X3_seers_6_0 f_begun a_known lf_singers post) :
    W p l e rm_wn_X3_seers_6 s m args below meth c s.heap [] 0 0 (MQ below (vp_Si post) args s 0 0 (fun _ => False)) (F0 m 0 ls []) := by
  have hx := zc.1
  have hb := zc.2.1
  refine lv_iconst (v := (0 : Int32)) hx hb dX3_seers_0 (by decide) ?_
  refine lv_istore_n (lv' := [(2, .int (0 : Int32)), (0, .ref qn), (1, .ref ql)]) hx hb dX3_seers_1 rfl hl (by decide) rfl (fun ls hl => ?_)
  refine lv_iconst (v := (0 : Int32)) hx hb dX3_seers_2 (by decide) ?_
  refine lv_istore_n (lv' := [(3, .int (0 : Int32)), (2, .int (0 : Int32)), (0, .ref qn), (1, .ref ql)]) hx hb dX3_seers_3 rfl hl (by decide) rfl (fun ls hl => ?_)
  exact t_wn_X3_seers_6_4 zc hK hM  (lv_sub hl [2, 3, 1, 0] rfl) hw
set_option maxRecDepth 20000 in
theorem c_wn_X3_seers_6 (l : Launch) {E : zE} {qn ql qv : Nat} {f_minute : Int32} {f_avalanches : Int32} {f_begun : Int32} {f_climbed : Int32} {f_seed : Int32} {a_huts : Nat → Int32} {a_known : Nat → Int32} {a_levels : Nat → Int32} {a_snow : Nat → Int32} {a_open : Nat → Int32} {lf_huts : Int32} {lf_singers : Int32} {lf_villages : Int32} {lf_dams : Int32} {lf_echoes : Int32} {lf_deep : Int32} {lf_slide : Int32} {la_heights : Nat → Int32} {la_ladders : Nat → Int32} {la_minutes : Nat → Int32} {la_echoFrom : Nat → Int32} {la_echoTo : Nat → Int32} {la_homes : Nat → Int32} {la_talls : Nat → Int32} {la_known : Nat → Int32} {vf_deeds : Int32} {va_kinds : Nat → Int32} {va_firsts : Nat → Int32} {va_seconds : Nat → Int32} {post : Int32 → Prop} (hw : q_wn_X3_seers_6_0 f_begun a_known lf_singers post) : Met l yX3_seers (Cond.code yX3_seers cX3_seers 4 (some .int) :: zb) rm_wn_X3_seers_6 (va_Pc [.ref qn, .ref ql] (fun U => wnW E qn ql qv f_minute f_avalanches f_begun f_climbed f_seed a_huts a_known a_levels a_snow a_open lf_huts lf_singers lf_villages lf_dams lf_echoes lf_deep lf_slide la_heights la_ladders la_minutes la_echoFrom la_echoTo la_homes la_talls la_known vf_deeds va_kinds va_firsts va_seconds U.heap ∧ zK E U)) (vp_Si post) 0 0 (fun _ => False) := by
  refine Met.ofW (cc := cX3_seers) (maxL := 4) (ret := (some .int)) (by decide) rfl ?_
  intro p e s m args below meth c s₁ B hml hv
  obtain ⟨rfl, hM, hK⟩ := hv
  have zc := zc_of B hml
  have hl := lv_entry ([.ref qn, .ref ql]) (n := 4) (Nat.le_of_ble_eq_true rfl)
  rw [lg_entry_eq]
  generalize (lg_sl ([.ref qn, .ref ql]) ++ List.replicate (4 - (lg_sl ([.ref qn, .ref ql])).length) Slot.unset).toArray = ls at hl ⊢
  have hl : lv_has ls 4 [(0, .ref qn), (1, .ref ql)] := hl
  exact t_wn_X3_seers_6_0 zc hK hM (lv_sub hl [0, 1] rfl) hw
end
section
-- wn_X3_lookWhole_6
abbrev rm_wn_X3_lookWhole_6 : Room := { frames := 4, cells := 0, slots := 0, locals := 97 }
def q_wn_X3_lookWhole_6_0 (f_minute : Int32) (f_avalanches : Int32) (f_begun : Int32) (a_huts : Nat → Int32) (a_known : Nat → Int32) (a_levels : Nat → Int32) (a_snow : Nat → Int32) (a_open : Nat → Int32) (lf_huts : Int32) (lf_singers : Int32) (lf_dams : Int32) (lf_deep : Int32) (la_heights : Nat → Int32) (la_minutes : Nat → Int32) (la_talls : Nat → Int32) (x2 : Int32) (post : Int32 → (Nat → Int32) → Prop) : Prop :=
  (x2.toInt < 0 ∨ 4 < x2.toInt → (post (-1000 : Int32) a_open)) ∧ (x2 = (0 : Int32) → (post f_minute a_open)) ∧ (x2 = (1 : Int32) → (post f_avalanches a_open)) ∧ (x2 = (2 : Int32) → (q_wn_X3_seers_6_0 f_begun a_known lf_singers (fun r_1 => post r_1 a_open))) ∧ (x2 = (3 : Int32) → (post f_begun a_open)) ∧ (x2 = (4 : Int32) → (q_wn_X3_doneFor_6_0 f_begun a_huts a_known a_levels a_snow a_open lf_huts lf_singers lf_dams lf_deep la_heights la_minutes la_talls (fun r_2 a_open_1 => post r_2 a_open_1)))
set_option maxRecDepth 20000 in
theorem t_wn_X3_lookWhole_6_0 {p : Program} {l : Launch} {e : Env} {s : State} {m : MethodId} {args : Array Value} {below : List Frame} {meth : Method} {c : Code} {E : zE} {qn ql qv : Nat} {f_minute : Int32} {f_avalanches : Int32} {f_begun : Int32} {f_climbed : Int32} {f_seed : Int32} {a_huts : Nat → Int32} {a_known : Nat → Int32} {a_levels : Nat → Int32} {a_snow : Nat → Int32} {a_open : Nat → Int32} {lf_huts : Int32} {lf_singers : Int32} {lf_villages : Int32} {lf_dams : Int32} {lf_echoes : Int32} {lf_deep : Int32} {lf_slide : Int32} {la_heights : Nat → Int32} {la_ladders : Nat → Int32} {la_minutes : Nat → Int32} {la_echoFrom : Nat → Int32} {la_echoTo : Nat → Int32} {la_homes : Nat → Int32} {la_talls : Nat → Int32} {la_known : Nat → Int32} {vf_deeds : Int32} {va_kinds : Nat → Int32} {va_firsts : Nat → Int32} {va_seconds : Nat → Int32} {post : Int32 → (Nat → Int32) → Prop} {x2 : Int32} {ls : Array Slot} {H : Heap} {locs : List Loc}
    (zc : zC p s m args meth c cX3_lookWhole 3 RX3 (some .int))
    (hK : zK E s)
    (hM : wnW E qn ql qv f_minute f_avalanches f_begun f_climbed f_seed a_huts a_known a_levels a_snow a_open lf_huts lf_singers lf_villages lf_dams lf_echoes lf_deep lf_slide la_heights la_ladders la_minutes la_echoFrom la_echoTo la_homes la_talls la_known vf_deeds va_kinds va_firsts va_seconds H)
    (hS : va_S (wnA qn ql qv) s.heap H locs)
    (hl : lv_has ls 3 [(0, .ref qn), (1, .ref ql), (2, .int x2)])
    (hw : q_wn_X3_lookWhole_6_0 f_minute f_avalanches f_begun a_huts a_known a_levels a_snow a_open lf_huts lf_singers lf_dams lf_deep la_heights la_minutes la_talls x2 post) :
    W p l e rm_wn_X3_lookWhole_6 s m args below meth c H locs 0 0 (MQ below (zQi (S := (Nat → Int32)) (fun r u => post r u) (fun u H => wnW E qn ql qv f_minute f_avalanches f_begun f_climbed f_seed a_huts a_known a_levels a_snow u lf_huts lf_singers lf_villages lf_dams lf_echoes lf_deep lf_slide la_heights la_ladders la_minutes la_echoFrom la_echoTo la_homes la_talls la_known vf_deeds va_kinds va_firsts va_seconds H) (wnA qn ql qv)) args s 0 0 (wnA qn ql qv)) (F0 m 0 ls []) := by
  have hx := zc.1
  have hb := zc.2.1
  refine lv_iload_n hx hb dX3_lookWhole_0 rfl (lv_at hl 2 rfl) ?_
  by_cases hc : x2.toInt < 0 ∨ 4 < x2.toInt
  · have hw := hw.1 hc
    refine lv_tableOut (tgt := 63) hx hb dX3_lookWhole_1 hc (by decide) ?_
    refine lv_sipush (v := (-1000 : Int32)) hx hb dX3_lookWhole_63 (by decide) ?_
    exact zret_iw a_open zc hS hw hM dX3_lookWhole_66
  have hin := zsw hc
  by_cases hc0 : x2 = (0 : Int32)
  · have hw := hw.2.1 hc0
    refine lv_tableIn (tgt := 36) hx hb dX3_lookWhole_1 (by rw [hc0]; decide) (by rw [hc0]; decide) (by rw [hc0]; rfl) (by decide) ?_
    refine lv_aload_n hx hb dX3_lookWhole_36 rfl (lv_at hl 0 rfl) ?_
    refine wng_3_72_0 zc hK hM dX3_lookWhole_37 ?_
    exact zret_iw a_open zc hS hw hM dX3_lookWhole_40
  by_cases hc1 : x2 = (1 : Int32)
  · have hw := hw.2.2.1 hc1
    refine lv_tableIn (tgt := 41) hx hb dX3_lookWhole_1 (by rw [hc1]; decide) (by rw [hc1]; decide) (by rw [hc1]; rfl) (by decide) ?_
    refine lv_aload_n hx hb dX3_lookWhole_41 rfl (lv_at hl 0 rfl) ?_
    refine wng_3_75_0 zc hK hM dX3_lookWhole_42 ?_
    exact zret_iw a_open zc hS hw hM dX3_lookWhole_45
  by_cases hc2 : x2 = (2 : Int32)
  · have hw := hw.2.2.2.1 hc2
    refine lv_tableIn (tgt := 46) hx hb dX3_lookWhole_1 (by rw [hc2]; decide) (by rw [hc2]; decide) (by rw [hc2]; rfl) (by decide) ?_
    refine lv_aload_n hx hb dX3_lookWhole_46 rfl (lv_at hl 0 rfl) ?_
    refine lv_aload_n hx hb dX3_lookWhole_47 rfl (lv_at hl 1 rfl) ?_
    refine zV_i [.ref ql] [] zc ky_X3_seers kz_X3_seers km_3_168 (c_wn_X3_seers_6 l hw) (wnPreV0 hK hM) rfl rfl hl.1 (Nat.le_of_ble_eq_true rfl) ⟨rfl, rfl⟩ ⟨Nat.le_of_ble_eq_true rfl, Nat.le_of_ble_eq_true rfl⟩ ⟨(Nat.zero_le _), (Nat.zero_le _)⟩ dX3_lookWhole_48 (fun r_1 hw => ?_)
    exact zret_iw a_open zc hS hw hM dX3_lookWhole_51
  by_cases hc3 : x2 = (3 : Int32)
  · have hw := hw.2.2.2.2.1 hc3
    refine lv_tableIn (tgt := 52) hx hb dX3_lookWhole_1 (by rw [hc3]; decide) (by rw [hc3]; decide) (by rw [hc3]; rfl) (by decide) ?_
    refine lv_aload_n hx hb dX3_lookWhole_52 rfl (lv_at hl 0 rfl) ?_
    refine wng_3_64_0 zc hK hM dX3_lookWhole_53 ?_
    exact zret_iw a_open zc hS hw hM dX3_lookWhole_56
  by_cases hc4 : x2 = (4 : Int32)
  · have hw := hw.2.2.2.2.2 hc4
    refine lv_tableIn (tgt := 57) hx hb dX3_lookWhole_1 (by rw [hc4]; decide) (by rw [hc4]; decide) (by rw [hc4]; rfl) (by decide) ?_
    refine lv_aload_n hx hb dX3_lookWhole_57 rfl (lv_at hl 0 rfl) ?_
    refine lv_aload_n hx hb dX3_lookWhole_58 rfl (lv_at hl 1 rfl) ?_
    refine zVw_i [.ref ql] [] zc ky_X3_doneFor kz_X3_doneFor km_3_172 (c_wn_X3_doneFor_6 l hw) (wnPreV0 hK hM) hS rfl rfl hl.1 (Nat.le_of_ble_eq_true rfl) ⟨rfl, rfl⟩ ⟨Nat.le_of_ble_eq_true rfl, Nat.le_of_ble_eq_true rfl⟩ ⟨(Nat.zero_le _), (Nat.zero_le _)⟩ dX3_lookWhole_59 (fun r_2 a_open_1 H locs hw hM hS => ?_)
    exact zret_iw a_open_1 zc hS hw hM dX3_lookWhole_62
  exact absurd hin (by have h0 := zne hc0; have h1 := zne hc1; have h2 := zne hc2; have h3 := zne hc3; have h4 := zne hc4; simp at *; omega)
set_option maxRecDepth 20000 in
theorem c_wn_X3_lookWhole_6 (l : Launch) {E : zE} {qn ql qv : Nat} {f_minute : Int32} {f_avalanches : Int32} {f_begun : Int32} {f_climbed : Int32} {f_seed : Int32} {a_huts : Nat → Int32} {a_known : Nat → Int32} {a_levels : Nat → Int32} {a_snow : Nat → Int32} {a_open : Nat → Int32} {lf_huts : Int32} {lf_singers : Int32} {lf_villages : Int32} {lf_dams : Int32} {lf_echoes : Int32} {lf_deep : Int32} {lf_slide : Int32} {la_heights : Nat → Int32} {la_ladders : Nat → Int32} {la_minutes : Nat → Int32} {la_echoFrom : Nat → Int32} {la_echoTo : Nat → Int32} {la_homes : Nat → Int32} {la_talls : Nat → Int32} {la_known : Nat → Int32} {vf_deeds : Int32} {va_kinds : Nat → Int32} {va_firsts : Nat → Int32} {va_seconds : Nat → Int32} {x2 : Int32} {post : Int32 → (Nat → Int32) → Prop} (hw : q_wn_X3_lookWhole_6_0 f_minute f_avalanches f_begun a_huts a_known a_levels a_snow a_open lf_huts lf_singers lf_dams lf_deep la_heights la_minutes la_talls x2 post) : Met l yX3_lookWhole (Cond.code yX3_lookWhole cX3_lookWhole 3 (some .int) :: zb) rm_wn_X3_lookWhole_6 (va_Pc [.ref qn, .ref ql, .int x2] (fun U => wnW E qn ql qv f_minute f_avalanches f_begun f_climbed f_seed a_huts a_known a_levels a_snow a_open lf_huts lf_singers lf_villages lf_dams lf_echoes lf_deep lf_slide la_heights la_ladders la_minutes la_echoFrom la_echoTo la_homes la_talls la_known vf_deeds va_kinds va_firsts va_seconds U.heap ∧ zK E U)) (zQi (S := (Nat → Int32)) (fun r u => post r u) (fun u H => wnW E qn ql qv f_minute f_avalanches f_begun f_climbed f_seed a_huts a_known a_levels a_snow u lf_huts lf_singers lf_villages lf_dams lf_echoes lf_deep lf_slide la_heights la_ladders la_minutes la_echoFrom la_echoTo la_homes la_talls la_known vf_deeds va_kinds va_firsts va_seconds H) (wnA qn ql qv)) 0 0 (wnA qn ql qv) := by
  refine Met.ofW (cc := cX3_lookWhole) (maxL := 3) (ret := (some .int)) (by decide) rfl ?_
  intro p e s m args below meth c s₁ B hml hv
  obtain ⟨rfl, hM, hK⟩ := hv
  have zc := zc_of B hml
  have hl := lv_entry ([.ref qn, .ref ql, .int x2]) (n := 3) (Nat.le_of_ble_eq_true rfl)
  rw [lg_entry_eq]
  generalize (lg_sl ([.ref qn, .ref ql, .int x2]) ++ List.replicate (3 - (lg_sl ([.ref qn, .ref ql, .int x2])).length) Slot.unset).toArray = ls at hl ⊢
  have hl : lv_has ls 3 [(0, .ref qn), (1, .ref ql), (2, .int x2)] := hl
  exact t_wn_X3_lookWhole_6_0 zc hK hM va_S.rf (lv_sub hl [0, 1, 2] rfl) hw
-- wn_X3_look_6
abbrev rm_wn_X3_look_6 : Room := { frames := 5, cells := 0, slots := 0, locals := 119 }
def q_wn_X3_look_6_135 (f_minute : Int32) (f_avalanches : Int32) (f_begun : Int32) (f_climbed : Int32) (a_huts : Nat → Int32) (a_known : Nat → Int32) (a_levels : Nat → Int32) (a_snow : Nat → Int32) (a_open : Nat → Int32) (lf_huts : Int32) (lf_singers : Int32) (lf_dams : Int32) (lf_deep : Int32) (la_heights : Nat → Int32) (la_ladders : Nat → Int32) (la_minutes : Nat → Int32) (la_talls : Nat → Int32) (x2 : Int32) (x3 : Int32) (post : Int32 → (Nat → Int32) → Prop) : Prop :=
  q_wl_X2_hasSinger_0 lf_singers x3 (fun r_1 => (r_1 = 0 → (post (-1000 : Int32) a_open)) ∧ (¬ r_1 = 0 → (q_wn_X3_lookSinger_6_0 f_climbed a_huts a_known la_heights la_ladders la_talls (x2 / (10 : Int32)) x3 (fun r_2 => post r_2 a_open))))
def q_wn_X3_look_6_0 (f_minute : Int32) (f_avalanches : Int32) (f_begun : Int32) (f_climbed : Int32) (a_huts : Nat → Int32) (a_known : Nat → Int32) (a_levels : Nat → Int32) (a_snow : Nat → Int32) (a_open : Nat → Int32) (lf_huts : Int32) (lf_singers : Int32) (lf_dams : Int32) (lf_deep : Int32) (la_heights : Nat → Int32) (la_ladders : Nat → Int32) (la_minutes : Nat → Int32) (la_talls : Nat → Int32) (x2 : Int32) (post : Int32 → (Nat → Int32) → Prop) : Prop :=
  (x2 < 0 → (post (-1000 : Int32) a_open)) ∧ (¬ x2 < 0 → ((x2 ≤ (79 : Int32) → (∀ v_1 : Int32, v_1 = (x2 - x2 / (10 : Int32) * (10 : Int32)) → (((x2 / (10 : Int32)).toInt < 0 ∨ 7 < (x2 / (10 : Int32)).toInt → (q_wn_X3_look_6_135 f_minute f_avalanches f_begun f_climbed a_huts a_known a_levels a_snow a_open lf_huts lf_singers lf_dams lf_deep la_heights la_ladders la_minutes la_talls x2 v_1 post)) ∧ ((x2 / (10 : Int32)) = (0 : Int32) → (q_wn_X3_lookWhole_6_0 f_minute f_avalanches f_begun a_huts a_known a_levels a_snow a_open lf_huts lf_singers lf_dams lf_deep la_heights la_minutes la_talls v_1 (fun r_1 a_open_1 => post r_1 a_open_1))) ∧ ((x2 / (10 : Int32)) = (1 : Int32) → (((5 : Int32) ≤ v_1 → (post (-1000 : Int32) a_open)) ∧ (¬ (5 : Int32) ≤ v_1 → (vp_in v_1 5 ∧ (post (a_levels (Int32.toNatClampNeg v_1)) a_open))))) ∧ ((x2 / (10 : Int32)) = (2 : Int32) → (((5 : Int32) ≤ v_1 → (post (-1000 : Int32) a_open)) ∧ (¬ (5 : Int32) ≤ v_1 → (q_wn_X3_knowers_6_0 a_known lf_singers v_1 (fun r_2 => q_z_J6_bitCount_0f7a4_0 r_2 (fun r_3 => post r_3 a_open)))))) ∧ ((x2 / (10 : Int32)) = (3 : Int32) → (q_wn_X3_look_6_135 f_minute f_avalanches f_begun f_climbed a_huts a_known a_levels a_snow a_open lf_huts lf_singers lf_dams lf_deep la_heights la_ladders la_minutes la_talls x2 v_1 post)) ∧ ((x2 / (10 : Int32)) = (4 : Int32) → (q_wn_X3_look_6_135 f_minute f_avalanches f_begun f_climbed a_huts a_known a_levels a_snow a_open lf_huts lf_singers lf_dams lf_deep la_heights la_ladders la_minutes la_talls x2 v_1 post)) ∧ ((x2 / (10 : Int32)) = (5 : Int32) → (q_wn_X3_look_6_135 f_minute f_avalanches f_begun f_climbed a_huts a_known a_levels a_snow a_open lf_huts lf_singers lf_dams lf_deep la_heights la_ladders la_minutes la_talls x2 v_1 post)) ∧ ((x2 / (10 : Int32)) = (6 : Int32) → (q_wn_X3_look_6_135 f_minute f_avalanches f_begun f_climbed a_huts a_known a_levels a_snow a_open lf_huts lf_singers lf_dams lf_deep la_heights la_ladders la_minutes la_talls x2 v_1 post)) ∧ ((x2 / (10 : Int32)) = (7 : Int32) → (q_wl_X2_hasHut_0 lf_huts v_1 (fun r_4 => (r_4 = 0 → (post (-1000 : Int32) a_open)) ∧ (¬ r_4 = 0 → (vp_in v_1 9 ∧ (post (a_snow (Int32.toNatClampNeg v_1)) a_open))))))))) ∧ (¬ x2 ≤ (79 : Int32) → (post (-1000 : Int32) a_open))))
set_option maxRecDepth 20000 in
theorem t_wn_X3_look_6_135 {p : Program} {l : Launch} {e : Env} {s : State} {m : MethodId} {args : Array Value} {below : List Frame} {meth : Method} {c : Code} {E : zE} {qn ql qv : Nat} {f_minute : Int32} {f_avalanches : Int32} {f_begun : Int32} {f_climbed : Int32} {f_seed : Int32} {a_huts : Nat → Int32} {a_known : Nat → Int32} {a_levels : Nat → Int32} {a_snow : Nat → Int32} {a_open : Nat → Int32} {lf_huts : Int32} {lf_singers : Int32} {lf_villages : Int32} {lf_dams : Int32} {lf_echoes : Int32} {lf_deep : Int32} {lf_slide : Int32} {la_heights : Nat → Int32} {la_ladders : Nat → Int32} {la_minutes : Nat → Int32} {la_echoFrom : Nat → Int32} {la_echoTo : Nat → Int32} {la_homes : Nat → Int32} {la_talls : Nat → Int32} {la_known : Nat → Int32} {vf_deeds : Int32} {va_kinds : Nat → Int32} {va_firsts : Nat → Int32} {va_seconds : Nat → Int32} {post : Int32 → (Nat → Int32) → Prop} {x2 : Int32} {x3 : Int32} {ls : Array Slot} {H : Heap} {locs : List Loc}
    (zc : zC p s m args meth c cX3_look 4 RX3 (some .int))
    (hK : zK E s)
    (hM : wnW E qn ql qv f_minute f_avalanches f_begun f_climbed f_seed a_huts a_known a_levels a_snow a_open lf_huts lf_singers lf_villages lf_dams lf_echoes lf_deep lf_slide la_heights la_ladders la_minutes la_echoFrom la_echoTo la_homes la_talls la_known vf_deeds va_kinds va_firsts va_seconds H)
    (hS : va_S (wnA qn ql qv) s.heap H locs)
    (hl : lv_has ls 4 [(0, .ref qn), (1, .ref ql), (2, .int x2), (3, .int x3)])
    (hw : q_wn_X3_look_6_135 f_minute f_avalanches f_begun f_climbed a_huts a_known a_levels a_snow a_open lf_huts lf_singers lf_dams lf_deep la_heights la_ladders la_minutes la_talls x2 x3 post) :
    W p l e rm_wn_X3_look_6 s m args below meth c H locs 0 0 (MQ below (zQi (S := (Nat → Int32)) (fun r u => post r u) (fun u H => wnW E qn ql qv f_minute f_avalanches f_begun f_climbed f_seed a_huts a_known a_levels a_snow u lf_huts lf_singers lf_villages lf_dams lf_echoes lf_deep lf_slide la_heights la_ladders la_minutes la_echoFrom la_echoTo la_homes la_talls la_known vf_deeds va_kinds va_firsts va_seconds H) (wnA qn ql qv)) args s 0 0 (wnA qn ql qv)) (F0 m 135 ls []) := by
  have hx := zc.1
  have hb := zc.2.1
  refine lv_aload_n hx hb dX3_look_135 rfl (lv_at hl 1 rfl) ?_
  refine lv_iload_n hx hb dX3_look_136 rfl (lv_at hl 3 rfl) ?_
  refine zV_i [.int x3] [] zc ky_X2_hasSinger kz_X2_hasSinger km_3_97 (c_wl_X2_hasSinger l hw) (wlPreV0 hK (pj_wn_wl_6 hM)) rfl rfl hl.1 (Nat.le_of_ble_eq_true rfl) ⟨rfl, rfl⟩ ⟨Nat.le_of_ble_eq_true rfl, Nat.le_of_ble_eq_true rfl⟩ ⟨(Nat.zero_le _), (Nat.zero_le _)⟩ dX3_look_137 (fun r_1 hw => ?_)
  refine lv_if_eq (tgt := 156) hx hb dX3_look_140 (by decide) (fun hc => ?_) (fun hc => ?_)
  · have hw := hw.1 hc
    refine lv_sipush (v := (-1000 : Int32)) hx hb dX3_look_156 (by decide) ?_
    exact zret_iw a_open zc hS hw hM dX3_look_159
  · have hw := hw.2 hc
    refine lv_aload_n hx hb dX3_look_143 rfl (lv_at hl 0 rfl) ?_
    refine lv_aload_n hx hb dX3_look_144 rfl (lv_at hl 1 rfl) ?_
    refine lv_iload_n hx hb dX3_look_145 rfl (lv_at hl 2 rfl) ?_
    refine lv_bipush (v := (10 : Int32)) hx hb dX3_look_146 (by decide) ?_
    refine lv_idiv hx hb dX3_look_148 (by decide) ?_
    refine lv_iload_n hx hb dX3_look_149 rfl (lv_at hl 3 rfl) ?_
    refine zV_i [.ref ql, .int (x2 / (10 : Int32)), .int x3] [] zc ky_X3_lookSinger kz_X3_lookSinger km_3_164 (c_wn_X3_lookSinger_6 l hw) (wnPreV0 hK hM) rfl rfl hl.1 (Nat.le_of_ble_eq_true rfl) ⟨rfl, rfl⟩ ⟨Nat.le_of_ble_eq_true rfl, Nat.le_of_ble_eq_true rfl⟩ ⟨(Nat.zero_le _), (Nat.zero_le _)⟩ dX3_look_150 (fun r_2 hw => ?_)
    refine lv_goto (tgt := 159) hx hb dX3_look_153 (by decide) ?_
    exact zret_iw a_open zc hS hw hM dX3_look_159
set_option maxRecDepth 20000 in
theorem t_wn_X3_look_6_0 {p : Program} {l : Launch} {e : Env} {s : State} {m : MethodId} {args : Array Value} {below : List Frame} {meth : Method} {c : Code} {E : zE} {qn ql qv : Nat} {f_minute : Int32} {f_avalanches : Int32} {f_begun : Int32} {f_climbed : Int32} {f_seed : Int32} {a_huts : Nat → Int32} {a_known : Nat → Int32} {a_levels : Nat → Int32} {a_snow : Nat → Int32} {a_open : Nat → Int32} {lf_huts : Int32} {lf_singers : Int32} {lf_villages : Int32} {lf_dams : Int32} {lf_echoes : Int32} {lf_deep : Int32} {lf_slide : Int32} {la_heights : Nat → Int32} {la_ladders : Nat → Int32} {la_minutes : Nat → Int32} {la_echoFrom : Nat → Int32} {la_echoTo : Nat → Int32} {la_homes : Nat → Int32} {la_talls : Nat → Int32} {la_known : Nat → Int32} {vf_deeds : Int32} {va_kinds : Nat → Int32} {va_firsts : Nat → Int32} {va_seconds : Nat → Int32} {post : Int32 → (Nat → Int32) → Prop} {x2 : Int32} {ls : Array Slot} {H : Heap} {locs : List Loc}
    (zc : zC p s m args meth c cX3_look 4 RX3 (some .int))
    (hK : zK E s)
    (hM : wnW E qn ql qv f_minute f_avalanches f_begun f_climbed f_seed a_huts a_known a_levels a_snow a_open lf_huts lf_singers lf_villages lf_dams lf_echoes lf_deep lf_slide la_heights la_ladders la_minutes la_echoFrom la_echoTo la_homes la_talls la_known vf_deeds va_kinds va_firsts va_seconds H)
    (hS : va_S (wnA qn ql qv) s.heap H locs)
    (hl : lv_has ls 4 [(0, .ref qn), (1, .ref ql), (2, .int x2)])
    (hw : q_wn_X3_look_6_0 f_minute f_avalanches f_begun f_climbed a_huts a_known a_levels a_snow a_open lf_huts lf_singers lf_dams lf_deep la_heights la_ladders la_minutes la_talls x2 post) :
    W p l e rm_wn_X3_look_6 s m args below meth c H locs 0 0 (MQ below (zQi (S := (Nat → Int32)) (fun r u => post r u) (fun u H => wnW E qn ql qv f_minute f_avalanches f_begun f_climbed f_seed a_huts a_known a_levels a_snow u lf_huts lf_singers lf_villages lf_dams lf_echoes lf_deep lf_slide la_heights la_ladders la_minutes la_echoFrom la_echoTo la_homes la_talls la_known vf_deeds va_kinds va_firsts va_seconds H) (wnA qn ql qv)) args s 0 0 (wnA qn ql qv)) (F0 m 0 ls []) := by
  have hx := zc.1
  have hb := zc.2.1
  refine lv_iload_n hx hb dX3_look_0 rfl (lv_at hl 2 rfl) ?_
  refine lv_if_lt (tgt := 10) hx hb dX3_look_1 (by decide) (fun hc => ?_) (fun hc => ?_)
  · have hw := hw.1 hc
    refine lv_sipush (v := (-1000 : Int32)) hx hb dX3_look_10 (by decide) ?_
    exact zret_iw a_open zc hS hw hM dX3_look_13
  · have hw := hw.2 hc
    refine lv_iload_n hx hb dX3_look_4 rfl (lv_at hl 2 rfl) ?_
    refine lv_bipush (v := (79 : Int32)) hx hb dX3_look_5 (by decide) ?_
    refine lv_icmp_le (tgt := 14) hx hb dX3_look_7 (by decide) (fun hc => ?_) (fun hc => ?_)
    · have hw := hw.1 hc
      refine lv_iload_n hx hb dX3_look_14 rfl (lv_at hl 2 rfl) ?_
      refine lv_bipush (v := (10 : Int32)) hx hb dX3_look_15 (by decide) ?_
      refine lv_irem hx hb dX3_look_17 (by decide) ?_
      refine lv_topi (fun v_1 ev_1 => ?_)
      have hw := hw v_1 ev_1
      refine lv_istore_n (lv' := [(3, .int v_1), (0, .ref qn), (1, .ref ql), (2, .int x2)]) hx hb dX3_look_18 rfl hl (by decide) rfl (fun ls hl => ?_)
      refine lv_iload_n hx hb dX3_look_19 rfl (lv_at hl 3 rfl) ?_
      refine lv_bipush (v := (10 : Int32)) hx hb dX3_look_20 (by decide) ?_
      refine lv_idiv hx hb dX3_look_22 (by decide) ?_
      by_cases hc : (x2 / (10 : Int32)).toInt < 0 ∨ 7 < (x2 / (10 : Int32)).toInt
      · have hw := hw.1 hc
        refine lv_tableOut (tgt := 135) hx hb dX3_look_23 hc (by decide) ?_
        exact t_wn_X3_look_6_135 zc hK hM hS  (lv_sub hl [1, 2, 3, 0] rfl) hw
      have hin := zsw hc
      by_cases hc0 : (x2 / (10 : Int32)) = (0 : Int32)
      · have hw := hw.2.1 hc0
        refine lv_tableIn (tgt := 68) hx hb dX3_look_23 (by rw [hc0]; decide) (by rw [hc0]; decide) (by rw [hc0]; rfl) (by decide) ?_
        refine lv_aload_n hx hb dX3_look_68 rfl (lv_at hl 1 rfl) ?_
        refine lv_aload_n hx hb dX3_look_69 rfl (lv_at hl 2 rfl) ?_
        refine lv_iload_n hx hb dX3_look_70 rfl (lv_at hl 0 rfl) ?_
        refine zVw_i [.ref ql, .int v_1] [] zc ky_X3_lookWhole kz_X3_lookWhole km_3_153 (c_wn_X3_lookWhole_6 l hw) (wnPreV0 hK hM) hS rfl rfl hl.1 (Nat.le_of_ble_eq_true rfl) ⟨rfl, rfl⟩ ⟨Nat.le_of_ble_eq_true rfl, Nat.le_of_ble_eq_true rfl⟩ ⟨(Nat.zero_le _), (Nat.zero_le _)⟩ dX3_look_71 (fun r_1 a_open_1 H locs hw hM hS => ?_)
        exact zret_iw a_open_1 zc hS hw hM dX3_look_74
      by_cases hc1 : (x2 / (10 : Int32)) = (1 : Int32)
      · have hw := hw.2.2.1 hc1
        refine lv_tableIn (tgt := 75) hx hb dX3_look_23 (by rw [hc1]; decide) (by rw [hc1]; decide) (by rw [hc1]; rfl) (by decide) ?_
        refine lv_iload_n hx hb dX3_look_75 rfl (lv_at hl 0 rfl) ?_
        refine lv_iconst (v := (5 : Int32)) hx hb dX3_look_76 (by decide) ?_
        refine lv_icmp_ge (tgt := 89) hx hb dX3_look_77 (by decide) (fun hc => ?_) (fun hc => ?_)
        · have hw := hw.1 hc
          refine lv_sipush (v := (-1000 : Int32)) hx hb dX3_look_89 (by decide) ?_
          exact zret_iw a_open zc hS hw hM dX3_look_92
        · have hw := hw.2 hc
          refine lv_aload_n hx hb dX3_look_80 rfl (lv_at hl 1 rfl) ?_
          refine wng_3_18_0 zc hK hM dX3_look_81 ?_
          refine lv_iload_n hx hb dX3_look_84 rfl (lv_at hl 0 rfl) ?_
          refine wnld_3 zc hK hM hw.1 dX3_look_85 ?_
          have hw := hw.2
          refine lv_goto (tgt := 92) hx hb dX3_look_86 (by decide) ?_
          exact zret_iw a_open zc hS hw hM dX3_look_92
      by_cases hc2 : (x2 / (10 : Int32)) = (2 : Int32)
      · have hw := hw.2.2.2.1 hc2
        refine lv_tableIn (tgt := 93) hx hb dX3_look_23 (by rw [hc2]; decide) (by rw [hc2]; decide) (by rw [hc2]; rfl) (by decide) ?_
        refine lv_iload_n hx hb dX3_look_93 rfl (lv_at hl 0 rfl) ?_
        refine lv_iconst (v := (5 : Int32)) hx hb dX3_look_94 (by decide) ?_
        refine lv_icmp_ge (tgt := 110) hx hb dX3_look_95 (by decide) (fun hc => ?_) (fun hc => ?_)
        · have hw := hw.1 hc
          refine lv_sipush (v := (-1000 : Int32)) hx hb dX3_look_110 (by decide) ?_
          exact zret_iw a_open zc hS hw hM dX3_look_113
        · have hw := hw.2 hc
          refine lv_aload_n hx hb dX3_look_98 rfl (lv_at hl 1 rfl) ?_
          refine lv_aload_n hx hb dX3_look_99 rfl (lv_at hl 2 rfl) ?_
          refine lv_iload_n hx hb dX3_look_100 rfl (lv_at hl 0 rfl) ?_
          refine zV_i [.ref ql, .int v_1] [] zc ky_X3_knowers kz_X3_knowers km_3_156 (c_wn_X3_knowers_6 l hw) (wnPreV0 hK hM) rfl rfl hl.1 (Nat.le_of_ble_eq_true rfl) ⟨rfl, rfl⟩ ⟨Nat.le_of_ble_eq_true rfl, Nat.le_of_ble_eq_true rfl⟩ ⟨(Nat.zero_le _), (Nat.zero_le _)⟩ dX3_look_101 (fun r_2 hw => ?_)
          refine zS_i [.int r_2] [] zc ky_J6_bitCount_0f7a4 kz_J6_bitCount_0f7a4 km_3_159 (c_z_J6_bitCount_0f7a4 l hw) (zPre0 _) rfl rfl hl.1 (Nat.le_of_ble_eq_true rfl) ⟨rfl, rfl⟩ ⟨Nat.le_of_ble_eq_true rfl, Nat.le_of_ble_eq_true rfl⟩ ⟨(Nat.zero_le _), (Nat.zero_le _)⟩ dX3_look_104 (fun r_3 hw => ?_)
          refine lv_goto (tgt := 113) hx hb dX3_look_107 (by decide) ?_
          exact zret_iw a_open zc hS hw hM dX3_look_113
      by_cases hc3 : (x2 / (10 : Int32)) = (3 : Int32)
      · have hw := hw.2.2.2.2.1 hc3
        refine lv_tableIn (tgt := 135) hx hb dX3_look_23 (by rw [hc3]; decide) (by rw [hc3]; decide) (by rw [hc3]; rfl) (by decide) ?_
        exact t_wn_X3_look_6_135 zc hK hM hS  (lv_sub hl [1, 2, 3, 0] rfl) hw
      by_cases hc4 : (x2 / (10 : Int32)) = (4 : Int32)
      · have hw := hw.2.2.2.2.2.1 hc4
        refine lv_tableIn (tgt := 135) hx hb dX3_look_23 (by rw [hc4]; decide) (by rw [hc4]; decide) (by rw [hc4]; rfl) (by decide) ?_
        exact t_wn_X3_look_6_135 zc hK hM hS  (lv_sub hl [1, 2, 3, 0] rfl) hw
      by_cases hc5 : (x2 / (10 : Int32)) = (5 : Int32)
      · have hw := hw.2.2.2.2.2.2.1 hc5
        refine lv_tableIn (tgt := 135) hx hb dX3_look_23 (by rw [hc5]; decide) (by rw [hc5]; decide) (by rw [hc5]; rfl) (by decide) ?_
        exact t_wn_X3_look_6_135 zc hK hM hS  (lv_sub hl [1, 2, 3, 0] rfl) hw
      by_cases hc6 : (x2 / (10 : Int32)) = (6 : Int32)
      · have hw := hw.2.2.2.2.2.2.2.1 hc6
        refine lv_tableIn (tgt := 135) hx hb dX3_look_23 (by rw [hc6]; decide) (by rw [hc6]; decide) (by rw [hc6]; rfl) (by decide) ?_
        exact t_wn_X3_look_6_135 zc hK hM hS  (lv_sub hl [1, 2, 3, 0] rfl) hw
      by_cases hc7 : (x2 / (10 : Int32)) = (7 : Int32)
      · have hw := hw.2.2.2.2.2.2.2.2 hc7
        refine lv_tableIn (tgt := 114) hx hb dX3_look_23 (by rw [hc7]; decide) (by rw [hc7]; decide) (by rw [hc7]; rfl) (by decide) ?_
        refine lv_aload_n hx hb dX3_look_114 rfl (lv_at hl 2 rfl) ?_
        refine lv_iload_n hx hb dX3_look_115 rfl (lv_at hl 0 rfl) ?_
        refine zV_i [.int v_1] [] zc ky_X2_hasHut kz_X2_hasHut km_3_115 (c_wl_X2_hasHut l hw) (wlPreV0 hK (pj_wn_wl_6 hM)) rfl rfl hl.1 (Nat.le_of_ble_eq_true rfl) ⟨rfl, rfl⟩ ⟨Nat.le_of_ble_eq_true rfl, Nat.le_of_ble_eq_true rfl⟩ ⟨(Nat.zero_le _), (Nat.zero_le _)⟩ dX3_look_116 (fun r_4 hw => ?_)
        refine lv_if_eq (tgt := 131) hx hb dX3_look_119 (by decide) (fun hc => ?_) (fun hc => ?_)
        · have hw := hw.1 hc
          refine lv_sipush (v := (-1000 : Int32)) hx hb dX3_look_131 (by decide) ?_
          exact zret_iw a_open zc hS hw hM dX3_look_134
        · have hw := hw.2 hc
          refine lv_aload_n hx hb dX3_look_122 rfl (lv_at hl 1 rfl) ?_
          refine wng_3_21_0 zc hK hM dX3_look_123 ?_
          refine lv_iload_n hx hb dX3_look_126 rfl (lv_at hl 0 rfl) ?_
          refine wnld_4 zc hK hM hw.1 dX3_look_127 ?_
          have hw := hw.2
          refine lv_goto (tgt := 134) hx hb dX3_look_128 (by decide) ?_
          exact zret_iw a_open zc hS hw hM dX3_look_134
      exact absurd hin (by have h0 := zne hc0; have h1 := zne hc1; have h2 := zne hc2; have h3 := zne hc3; have h4 := zne hc4; have h5 := zne hc5; have h6 := zne hc6; have h7 := zne hc7; simp at *; omega)
    · have hw := hw.2 hc
      refine lv_sipush (v := (-1000 : Int32)) hx hb dX3_look_10 (by decide) ?_
      exact zret_iw a_open zc hS hw hM dX3_look_13
set_option maxRecDepth 20000 in
theorem c_wn_X3_look_6 (l : Launch) {E : zE} {qn ql qv : Nat} {f_minute : Int32} {f_avalanches : Int32} {f_begun : Int32} {f_climbed : Int32} {f_seed : Int32} {a_huts : Nat → Int32} {a_known : Nat → Int32} {a_levels : Nat → Int32} {a_snow : Nat → Int32} {a_open : Nat → Int32} {lf_huts : Int32} {lf_singers : Int32} {lf_villages : Int32} {lf_dams : Int32} {lf_echoes : Int32} {lf_deep : Int32} {lf_slide : Int32} {la_heights : Nat → Int32} {la_ladders : Nat → Int32} {la_minutes : Nat → Int32} {la_echoFrom : Nat → Int32} {la_echoTo : Nat → Int32} {la_homes : Nat → Int32} {la_talls : Nat → Int32} {la_known : Nat → Int32} {vf_deeds : Int32} {va_kinds : Nat → Int32} {va_firsts : Nat → Int32} {va_seconds : Nat → Int32} {x2 : Int32} {post : Int32 → (Nat → Int32) → Prop} (hw : q_wn_X3_look_6_0 f_minute f_avalanches f_begun f_climbed a_huts a_known a_levels a_snow a_open lf_huts lf_singers lf_dams lf_deep la_heights la_ladders la_minutes la_talls x2 post) : Met l yX3_look (Cond.code yX3_look cX3_look 4 (some .int) :: zb) rm_wn_X3_look_6 (va_Pc [.ref qn, .ref ql, .int x2] (fun U => wnW E qn ql qv f_minute f_avalanches f_begun f_climbed f_seed a_huts a_known a_levels a_snow a_open lf_huts lf_singers lf_villages lf_dams lf_echoes lf_deep lf_slide la_heights la_ladders la_minutes la_echoFrom la_echoTo la_homes la_talls la_known vf_deeds va_kinds va_firsts va_seconds U.heap ∧ zK E U)) (zQi (S := (Nat → Int32)) (fun r u => post r u) (fun u H => wnW E qn ql qv f_minute f_avalanches f_begun f_climbed f_seed a_huts a_known a_levels a_snow u lf_huts lf_singers lf_villages lf_dams lf_echoes lf_deep lf_slide la_heights la_ladders la_minutes la_echoFrom la_echoTo la_homes la_talls la_known vf_deeds va_kinds va_firsts va_seconds H) (wnA qn ql qv)) 0 0 (wnA qn ql qv) := by
  refine Met.ofW (cc := cX3_look) (maxL := 4) (ret := (some .int)) (by decide) rfl ?_
  intro p e s m args below meth c s₁ B hml hv
  obtain ⟨rfl, hM, hK⟩ := hv
  have zc := zc_of B hml
  have hl := lv_entry ([.ref qn, .ref ql, .int x2]) (n := 4) (Nat.le_of_ble_eq_true rfl)
  rw [lg_entry_eq]
  generalize (lg_sl ([.ref qn, .ref ql, .int x2]) ++ List.replicate (4 - (lg_sl ([.ref qn, .ref ql, .int x2])).length) Slot.unset).toArray = ls at hl ⊢
  have hl : lv_has ls 4 [(0, .ref qn), (1, .ref ql), (2, .int x2)] := hl
  exact t_wn_X3_look_6_0 zc hK hM va_S.rf (lv_sub hl [0, 1, 2] rfl) hw
-- wn_X3_highestOf_6
abbrev rm_wn_X3_highestOf_6 : Room := { frames := 2, cells := 0, slots := 0, locals := 45 }
def q_wn_X3_highestOf_6_52 (P10 : Int32 → Int32 → Int32 → Prop) (f_climbed : Int32) (a_huts : Nat → Int32) (lf_singers : Int32) (la_heights : Nat → Int32) (la_ladders : Nat → Int32) (la_talls : Nat → Int32) (x2 : Int32) (x3 : Int32) (x4 : Int32) (x5 : Int32) (post : Int32 → Prop) : Prop :=
  ∀ v_1 : Int32, v_1 = x5 + (1 : Int32) → (P10 x3 x4 v_1)
def q_wn_X3_highestOf_6_10 (f_climbed : Int32) (a_huts : Nat → Int32) (lf_singers : Int32) (la_heights : Nat → Int32) (la_ladders : Nat → Int32) (la_talls : Nat → Int32) (x2 : Int32) (x3 : Int32) (x4 : Int32) (x5 : Int32) (post : Int32 → Prop) : Prop :=
  ∀ P10 : Int32 → Int32 → Int32 → Prop, (∀ (x3 : Int32) (x4 : Int32) (x5 : Int32), ((lf_singers ≤ x5 → (post x3)) ∧ (¬ lf_singers ≤ x5 → (q_z_X10_has_0 x2 x5 (fun r_1 => (r_1 = 0 → (q_wn_X3_highestOf_6_52 P10 f_climbed a_huts lf_singers la_heights la_ladders la_talls x2 x3 x4 x5 post)) ∧ (¬ r_1 = 0 → (q_wn_X3_high_6_0 f_climbed a_huts la_heights la_ladders la_talls x5 (fun r_2 => (r_2 ≤ x4 → (q_wn_X3_highestOf_6_52 P10 f_climbed a_huts lf_singers la_heights la_ladders la_talls x2 x3 x4 x5 post)) ∧ (¬ r_2 ≤ x4 → (q_wn_X3_high_6_0 f_climbed a_huts la_heights la_ladders la_talls x5 (fun r_3 => q_wn_X3_highestOf_6_52 P10 f_climbed a_huts lf_singers la_heights la_ladders la_talls x2 x5 r_3 x5 post)))))))))) → P10 x3 x4 x5) → P10 x3 x4 x5
def q_wn_X3_highestOf_6_0 (f_climbed : Int32) (a_huts : Nat → Int32) (lf_singers : Int32) (la_heights : Nat → Int32) (la_ladders : Nat → Int32) (la_talls : Nat → Int32) (x2 : Int32) (post : Int32 → Prop) : Prop :=
  q_wn_X3_highestOf_6_10 f_climbed a_huts lf_singers la_heights la_ladders la_talls x2 (0 : Int32) (-1000 : Int32) (0 : Int32) post
set_option maxRecDepth 20000 in
theorem t_wn_X3_highestOf_6_52 {p : Program} {l : Launch} {e : Env} {s : State} {m : MethodId} {args : Array Value} {below : List Frame} {meth : Method} {c : Code} {E : zE} {qn ql qv : Nat} {f_minute : Int32} {f_avalanches : Int32} {f_begun : Int32} {f_climbed : Int32} {f_seed : Int32} {a_huts : Nat → Int32} {a_known : Nat → Int32} {a_levels : Nat → Int32} {a_snow : Nat → Int32} {a_open : Nat → Int32} {lf_huts : Int32} {lf_singers : Int32} {lf_villages : Int32} {lf_dams : Int32} {lf_echoes : Int32} {lf_deep : Int32} {lf_slide : Int32} {la_heights : Nat → Int32} {la_ladders : Nat → Int32} {la_minutes : Nat → Int32} {la_echoFrom : Nat → Int32} {la_echoTo : Nat → Int32} {la_homes : Nat → Int32} {la_talls : Nat → Int32} {la_known : Nat → Int32} {vf_deeds : Int32} {va_kinds : Nat → Int32} {va_firsts : Nat → Int32} {va_seconds : Nat → Int32} {P10 : Int32 → Int32 → Int32 → Prop} {post : Int32 → Prop} {x2 : Int32} {x3 : Int32} {x4 : Int32} {x5 : Int32} {ls : Array Slot}
    (zc : zC p s m args meth c cX3_highestOf 6 RX3 (some .int))
    (hK : zK E s)
    (hM : wnW E qn ql qv f_minute f_avalanches f_begun f_climbed f_seed a_huts a_known a_levels a_snow a_open lf_huts lf_singers lf_villages lf_dams lf_echoes lf_deep lf_slide la_heights la_ladders la_minutes la_echoFrom la_echoTo la_homes la_talls la_known vf_deeds va_kinds va_firsts va_seconds s.heap)
    (hP10 : ∀ (x3 : Int32) (x4 : Int32) (x5 : Int32) (ls : Array Slot), P10 x3 x4 x5 → lv_has ls 6 [(0, .ref qn), (1, .ref ql), (2, .int x2), (3, .int x3), (4, .int x4), (5, .int x5)] → W p l e rm_wn_X3_highestOf_6 s m args below meth c s.heap [] 0 0 (MQ below (vp_Si post) args s 0 0 (fun _ => False)) (F0 m 10 ls []))
    (hl : lv_has ls 6 [(0, .ref qn), (1, .ref ql), (2, .int x2), (3, .int x3), (4, .int x4), (5, .int x5)])
    (hw : q_wn_X3_highestOf_6_52 P10 f_climbed a_huts lf_singers la_heights la_ladders la_talls x2 x3 x4 x5 post) :
    W p l e rm_wn_X3_highestOf_6 s m args below meth c s.heap [] 0 0 (MQ below (vp_Si post) args s 0 0 (fun _ => False)) (F0 m 52 ls []) := by
  have hx := zc.1
  have hb := zc.2.1
  obtain ⟨v_1, ev_1⟩ : ∃ y : Int32, y = x5 + (1 : Int32) := ⟨_, rfl⟩
  have hw := hw v_1 ev_1
  refine lv_iinc (v := v_1) (k := 5) (lv' := [(5, .int v_1), (0, .ref qn), (1, .ref ql), (2, .int x2), (3, .int x3), (4, .int x4)]) hx hb dX3_highestOf_52 hl rfl (by rw [ev_1]; rfl) (by decide) rfl (fun ls hl => ?_)
  refine lv_goto (tgt := 10) hx hb dX3_highestOf_55 (by decide) ?_
  exact hP10 _ _ _ _ hw (lv_sub hl [1, 2, 3, 4, 5, 0] rfl)
set_option maxRecDepth 20000 in
theorem t_wn_X3_highestOf_6_10 {p : Program} {l : Launch} {e : Env} {s : State} {m : MethodId} {args : Array Value} {below : List Frame} {meth : Method} {c : Code} {E : zE} {qn ql qv : Nat} {f_minute : Int32} {f_avalanches : Int32} {f_begun : Int32} {f_climbed : Int32} {f_seed : Int32} {a_huts : Nat → Int32} {a_known : Nat → Int32} {a_levels : Nat → Int32} {a_snow : Nat → Int32} {a_open : Nat → Int32} {lf_huts : Int32} {lf_singers : Int32} {lf_villages : Int32} {lf_dams : Int32} {lf_echoes : Int32} {lf_deep : Int32} {lf_slide : Int32} {la_heights : Nat → Int32} {la_ladders : Nat → Int32} {la_minutes : Nat → Int32} {la_echoFrom : Nat → Int32} {la_echoTo : Nat → Int32} {la_homes : Nat → Int32} {la_talls : Nat → Int32} {la_known : Nat → Int32} {vf_deeds : Int32} {va_kinds : Nat → Int32} {va_firsts : Nat → Int32} {va_seconds : Nat → Int32} {post : Int32 → Prop} {x2 : Int32} {x3 : Int32} {x4 : Int32} {x5 : Int32} {ls : Array Slot}
    (zc : zC p s m args meth c cX3_highestOf 6 RX3 (some .int))
    (hK : zK E s)
    (hM : wnW E qn ql qv f_minute f_avalanches f_begun f_climbed f_seed a_huts a_known a_levels a_snow a_open lf_huts lf_singers lf_villages lf_dams lf_echoes lf_deep lf_slide la_heights la_ladders la_minutes la_echoFrom la_echoTo la_homes la_talls la_known vf_deeds va_kinds va_firsts va_seconds s.heap)
    (hl : lv_has ls 6 [(0, .ref qn), (1, .ref ql), (2, .int x2), (3, .int x3), (4, .int x4), (5, .int x5)])
    (hw : q_wn_X3_highestOf_6_10 f_climbed a_huts lf_singers la_heights la_ladders la_talls x2 x3 x4 x5 post) :
    W p l e rm_wn_X3_highestOf_6 s m args below meth c s.heap [] 0 0 (MQ below (vp_Si post) args s 0 0 (fun _ => False)) (F0 m 10 ls []) := by
  have hx := zc.1
  have hb := zc.2.1
  refine hw (fun x3 x4 x5 => ∀ (ls : Array Slot), lv_has ls 6 [(0, .ref qn), (1, .ref ql), (2, .int x2), (3, .int x3), (4, .int x4), (5, .int x5)] → W p l e rm_wn_X3_highestOf_6 s m args below meth c s.heap [] 0 0 (MQ below (vp_Si post) args s 0 0 (fun _ => False)) (F0 m 10 ls [])) ?_ _ hl
  intro x3 x4 x5 hw ls hl
  refine lv_iload hx hb dX3_highestOf_10 (lv_at hl 5 rfl) ?_
  refine lv_aload_n hx hb dX3_highestOf_12 rfl (lv_at hl 1 rfl) ?_
  refine wng_3_53_6 zc hK hM dX3_highestOf_13 ?_
  refine lv_icmp_ge (tgt := 58) hx hb dX3_highestOf_16 (by decide) (fun hc => ?_) (fun hc => ?_)
  · have hw := hw.1 hc
    refine lv_iload_n hx hb dX3_highestOf_58 rfl (lv_at hl 3 rfl) ?_
    exact zret_i zc hw dX3_highestOf_59
  · have hw := hw.2 hc
    refine lv_iload_n hx hb dX3_highestOf_19 rfl (lv_at hl 2 rfl) ?_
    refine lv_iload hx hb dX3_highestOf_20 (lv_at hl 5 rfl) ?_
    refine zSN_i [.int x2, .int x5] [] zc ky_X10_has kz_X10_has (hK.2 _ kn_3_67) (c_z_X10_has l hw) (zPre0 _) rfl rfl hl.1 (Nat.le_of_ble_eq_true rfl) ⟨rfl, rfl⟩ ⟨Nat.le_of_ble_eq_true rfl, Nat.le_of_ble_eq_true rfl⟩ ⟨(Nat.zero_le _), (Nat.zero_le _)⟩ dX3_highestOf_22 (fun r_1 hw => ?_)
    refine lv_if_eq (tgt := 52) hx hb dX3_highestOf_25 (by decide) (fun hc => ?_) (fun hc => ?_)
    · have hw := hw.1 hc
      exact t_wn_X3_highestOf_6_52 zc hK hM (fun _ _ _ ls h hl => h ls hl) (lv_sub hl [0, 1, 2, 3, 4, 5] rfl) hw
    · have hw := hw.2 hc
      refine lv_aload_n hx hb dX3_highestOf_28 rfl (lv_at hl 0 rfl) ?_
      refine lv_aload_n hx hb dX3_highestOf_29 rfl (lv_at hl 1 rfl) ?_
      refine lv_iload hx hb dX3_highestOf_30 (lv_at hl 5 rfl) ?_
      refine zV_i [.ref ql, .int x5] [] zc ky_X3_high kz_X3_high km_3_130 (c_wn_X3_high_6 l hw) (wnPreV0 hK hM) rfl rfl hl.1 (Nat.le_of_ble_eq_true rfl) ⟨rfl, rfl⟩ ⟨Nat.le_of_ble_eq_true rfl, Nat.le_of_ble_eq_true rfl⟩ ⟨(Nat.zero_le _), (Nat.zero_le _)⟩ dX3_highestOf_32 (fun r_2 hw => ?_)
      refine lv_iload hx hb dX3_highestOf_35 (lv_at hl 4 rfl) ?_
      refine lv_icmp_le (tgt := 52) hx hb dX3_highestOf_37 (by decide) (fun hc => ?_) (fun hc => ?_)
      · have hw := hw.1 hc
        exact t_wn_X3_highestOf_6_52 zc hK hM (fun _ _ _ ls h hl => h ls hl) (lv_sub hl [0, 1, 2, 3, 4, 5] rfl) hw
      · have hw := hw.2 hc
        refine lv_iload hx hb dX3_highestOf_40 (lv_at hl 5 rfl) ?_
        refine lv_istore_n (lv' := [(3, .int x5), (0, .ref qn), (1, .ref ql), (2, .int x2), (4, .int x4), (5, .int x5)]) hx hb dX3_highestOf_42 rfl hl (by decide) rfl (fun ls hl => ?_)
        refine lv_aload_n hx hb dX3_highestOf_43 rfl (lv_at hl 1 rfl) ?_
        refine lv_aload_n hx hb dX3_highestOf_44 rfl (lv_at hl 2 rfl) ?_
        refine lv_iload hx hb dX3_highestOf_45 (lv_at hl 5 rfl) ?_
        refine zV_i [.ref ql, .int x5] [] zc ky_X3_high kz_X3_high km_3_130 (c_wn_X3_high_6 l hw) (wnPreV0 hK hM) rfl rfl hl.1 (Nat.le_of_ble_eq_true rfl) ⟨rfl, rfl⟩ ⟨Nat.le_of_ble_eq_true rfl, Nat.le_of_ble_eq_true rfl⟩ ⟨(Nat.zero_le _), (Nat.zero_le _)⟩ dX3_highestOf_47 (fun r_3 hw => ?_)
        refine lv_istore (lv' := [(4, .int r_3), (3, .int x5), (0, .ref qn), (1, .ref ql), (2, .int x2), (5, .int x5)]) hx hb dX3_highestOf_50 hl (by decide) rfl (fun ls hl => ?_)
        exact t_wn_X3_highestOf_6_52 zc hK hM (fun _ _ _ ls h hl => h ls hl) (lv_sub hl [2, 3, 4, 1, 0, 5] rfl) hw
set_option maxRecDepth 20000 in
theorem t_wn_X3_highestOf_6_0 {p : Program} {l : Launch} {e : Env} {s : State} {m : MethodId} {args : Array Value} {below : List Frame} {meth : Method} {c : Code} {E : zE} {qn ql qv : Nat} {f_minute : Int32} {f_avalanches : Int32} {f_begun : Int32} {f_climbed : Int32} {f_seed : Int32} {a_huts : Nat → Int32} {a_known : Nat → Int32} {a_levels : Nat → Int32} {a_snow : Nat → Int32} {a_open : Nat → Int32} {lf_huts : Int32} {lf_singers : Int32} {lf_villages : Int32} {lf_dams : Int32} {lf_echoes : Int32} {lf_deep : Int32} {lf_slide : Int32} {la_heights : Nat → Int32} {la_ladders : Nat → Int32} {la_minutes : Nat → Int32} {la_echoFrom : Nat → Int32} {la_echoTo : Nat → Int32} {la_homes : Nat → Int32} {la_talls : Nat → Int32} {la_known : Nat → Int32} {vf_deeds : Int32} {va_kinds : Nat → Int32} {va_firsts : Nat → Int32} {va_seconds : Nat → Int32} {post : Int32 → Prop} {x2 : Int32} {ls : Array Slot}
    (zc : zC p s m args meth c cX3_highestOf 6 RX3 (some .int))
    (hK : zK E s)
    (hM : wnW E qn ql qv f_minute f_avalanches f_begun f_climbed f_seed a_huts a_known a_levels a_snow a_open lf_huts lf_singers lf_villages lf_dams lf_echoes lf_deep lf_slide la_heights la_ladders la_minutes la_echoFrom la_echoTo la_homes la_talls la_known vf_deeds va_kinds va_firsts va_seconds s.heap)
    (hl : lv_has ls 6 [(0, .ref qn), (1, .ref ql), (2, .int x2)])
    (hw : q_wn_X3_highestOf_6_0 f_climbed a_huts lf_singers la_heights la_ladders la_talls x2 post) :
    W p l e rm_wn_X3_highestOf_6 s m args below meth c s.heap [] 0 0 (MQ below (vp_Si post) args s 0 0 (fun _ => False)) (F0 m 0 ls []) := by
  have hx := zc.1
  have hb := zc.2.1
  refine lv_iconst (v := (0 : Int32)) hx hb dX3_highestOf_0 (by decide) ?_
  refine lv_istore_n (lv' := [(3, .int (0 : Int32)), (0, .ref qn), (1, .ref ql), (2, .int x2)]) hx hb dX3_highestOf_1 rfl hl (by decide) rfl (fun ls hl => ?_)
  refine lv_sipush (v := (-1000 : Int32)) hx hb dX3_highestOf_2 (by decide) ?_
  refine lv_istore (lv' := [(4, .int (-1000 : Int32)), (3, .int (0 : Int32)), (0, .ref qn), (1, .ref ql), (2, .int x2)]) hx hb dX3_highestOf_5 hl (by decide) rfl (fun ls hl => ?_)
  refine lv_iconst (v := (0 : Int32)) hx hb dX3_highestOf_7 (by decide) ?_
  refine lv_istore (lv' := [(5, .int (0 : Int32)), (4, .int (-1000 : Int32)), (3, .int (0 : Int32)), (0, .ref qn), (1, .ref ql), (2, .int x2)]) hx hb dX3_highestOf_8 hl (by decide) rfl (fun ls hl => ?_)
  exact t_wn_X3_highestOf_6_10 zc hK hM  (lv_sub hl [3, 4, 5, 2, 1, 0] rfl) hw
set_option maxRecDepth 20000 in
theorem c_wn_X3_highestOf_6 (l : Launch) {E : zE} {qn ql qv : Nat} {f_minute : Int32} {f_avalanches : Int32} {f_begun : Int32} {f_climbed : Int32} {f_seed : Int32} {a_huts : Nat → Int32} {a_known : Nat → Int32} {a_levels : Nat → Int32} {a_snow : Nat → Int32} {a_open : Nat → Int32} {lf_huts : Int32} {lf_singers : Int32} {lf_villages : Int32} {lf_dams : Int32} {lf_echoes : Int32} {lf_deep : Int32} {lf_slide : Int32} {la_heights : Nat → Int32} {la_ladders : Nat → Int32} {la_minutes : Nat → Int32} {la_echoFrom : Nat → Int32} {la_echoTo : Nat → Int32} {la_homes : Nat → Int32} {la_talls : Nat → Int32} {la_known : Nat → Int32} {vf_deeds : Int32} {va_kinds : Nat → Int32} {va_firsts : Nat → Int32} {va_seconds : Nat → Int32} {x2 : Int32} {post : Int32 → Prop} (hw : q_wn_X3_highestOf_6_0 f_climbed a_huts lf_singers la_heights la_ladders la_talls x2 post) : Met l yX3_highestOf (Cond.code yX3_highestOf cX3_highestOf 6 (some .int) :: zb) rm_wn_X3_highestOf_6 (va_Pc [.ref qn, .ref ql, .int x2] (fun U => wnW E qn ql qv f_minute f_avalanches f_begun f_climbed f_seed a_huts a_known a_levels a_snow a_open lf_huts lf_singers lf_villages lf_dams lf_echoes lf_deep lf_slide la_heights la_ladders la_minutes la_echoFrom la_echoTo la_homes la_talls la_known vf_deeds va_kinds va_firsts va_seconds U.heap ∧ zK E U)) (vp_Si post) 0 0 (fun _ => False) := by
  refine Met.ofW (cc := cX3_highestOf) (maxL := 6) (ret := (some .int)) (by decide) rfl ?_
  intro p e s m args below meth c s₁ B hml hv
  obtain ⟨rfl, hM, hK⟩ := hv
  have zc := zc_of B hml
  have hl := lv_entry ([.ref qn, .ref ql, .int x2]) (n := 6) (Nat.le_of_ble_eq_true rfl)
  rw [lg_entry_eq]
  generalize (lg_sl ([.ref qn, .ref ql, .int x2]) ++ List.replicate (6 - (lg_sl ([.ref qn, .ref ql, .int x2])).length) Slot.unset).toArray = ls at hl ⊢
  have hl : lv_has ls 6 [(0, .ref qn), (1, .ref ql), (2, .int x2)] := hl
  exact t_wn_X3_highestOf_6_0 zc hK hM (lv_sub hl [0, 1, 2] rfl) hw
-- wn_X3_spreads_6
abbrev rm_wn_X3_spreads_6 : Room := { frames := 3, cells := 0, slots := 0, locals := 70 }
def q_wn_X3_spreads_6_144 (f_begun : Int32) (f_climbed : Int32) (a_huts : Nat → Int32) (a_known : Nat → Int32) (a_levels : Nat → Int32) (lf_singers : Int32) (lf_dams : Int32) (lf_echoes : Int32) (la_heights : Nat → Int32) (la_ladders : Nat → Int32) (la_echoFrom : Nat → Int32) (la_echoTo : Nat → Int32) (la_talls : Nat → Int32) (x4 : Int32) (post : Int32 → Prop) : Prop :=
  q_z_J6_bitCount_0f7a4_0 x4 (fun r_1 => (¬ r_1 = lf_singers → (post (0 : Int32))) ∧ (r_1 = lf_singers → (post (1 : Int32))))
def q_wn_X3_spreads_6_39 (f_begun : Int32) (f_climbed : Int32) (a_huts : Nat → Int32) (a_known : Nat → Int32) (a_levels : Nat → Int32) (lf_singers : Int32) (lf_dams : Int32) (lf_echoes : Int32) (la_heights : Nat → Int32) (la_ladders : Nat → Int32) (la_echoFrom : Nat → Int32) (la_echoTo : Nat → Int32) (la_talls : Nat → Int32) (x4 : Int32) (x5 : Int32) (x6 : Int32) (x7 : Int32) (post : Int32 → Prop) : Prop :=
  ∀ P39 : Int32 → Int32 → Int32 → Int32 → Prop, (∀ (x4 : Int32) (x5 : Int32) (x6 : Int32) (x7 : Int32), (((6 : Int32) ≤ x7 → (q_wn_X3_spreads_6_144 f_begun f_climbed a_huts a_known a_levels lf_singers lf_dams lf_echoes la_heights la_ladders la_echoFrom la_echoTo la_talls x4 post)) ∧ (¬ (6 : Int32) ≤ x7 → ((x6 = 0 → (q_wn_X3_spreads_6_144 f_begun f_climbed a_huts a_known a_levels lf_singers lf_dams lf_echoes la_heights la_ladders la_echoFrom la_echoTo la_talls x4 post)) ∧ (¬ x6 = 0 → (q_wn_X3_highestOf_6_0 f_climbed a_huts lf_singers la_heights la_ladders la_talls x6 (fun r_1 => q_wn_X3_high_6_0 f_climbed a_huts la_heights la_ladders la_talls r_1 (fun r_2 => q_z_X10_has_0 x4 r_1 (fun r_3 => (r_3 = 0 → (post (0 : Int32))) ∧ (¬ r_3 = 0 → ((x5 ≤ r_2 → (post (0 : Int32))) ∧ (¬ x5 ≤ r_2 → (vp_in r_1 6 ∧ (q_wl_X2_isDam_0 lf_dams (a_huts (Int32.toNatClampNeg r_1)) (fun r_4 => (r_4 = 0 → (vp_in r_1 6 ∧ (q_wl_X2_earshot_0 lf_dams lf_echoes la_echoFrom la_echoTo (a_huts (Int32.toNatClampNeg r_1)) (fun r_5 => q_wn_X3_singersIn_6_0 a_huts lf_singers r_5 (fun r_6 => ∀ v_1 : Int32, v_1 = (x4 ||| r_6) → (∀ v_2 : Int32, v_2 = (x6 &&& (((1 : Int32) <<< (r_1 &&& 31)) ^^^ (-1 : Int32))) → (∀ v_3 : Int32, v_3 = x7 + (1 : Int32) → (P39 v_1 r_2 v_2 v_3)))))))) ∧ (¬ r_4 = 0 → (post (0 : Int32))))))))))))))))) → P39 x4 x5 x6 x7) → P39 x4 x5 x6 x7
def q_wn_X3_spreads_6_31 (f_begun : Int32) (f_climbed : Int32) (a_huts : Nat → Int32) (a_known : Nat → Int32) (a_levels : Nat → Int32) (lf_singers : Int32) (lf_dams : Int32) (lf_echoes : Int32) (la_heights : Nat → Int32) (la_ladders : Nat → Int32) (la_echoFrom : Nat → Int32) (la_echoTo : Nat → Int32) (la_talls : Nat → Int32) (x3 : Int32) (x4 : Int32) (y0 : Int32) (post : Int32 → Prop) : Prop :=
  q_wn_X3_spreads_6_39 f_begun f_climbed a_huts a_known a_levels lf_singers lf_dams lf_echoes la_heights la_ladders la_echoFrom la_echoTo la_talls x4 y0 x3 (0 : Int32) post
def q_wn_X3_spreads_6_0 (f_begun : Int32) (f_climbed : Int32) (a_huts : Nat → Int32) (a_known : Nat → Int32) (a_levels : Nat → Int32) (lf_singers : Int32) (lf_dams : Int32) (lf_echoes : Int32) (la_heights : Nat → Int32) (la_ladders : Nat → Int32) (la_echoFrom : Nat → Int32) (la_echoTo : Nat → Int32) (la_talls : Nat → Int32) (x2 : Int32) (x3 : Int32) (post : Int32 → Prop) : Prop :=
  q_wn_X3_knowers_6_0 a_known lf_singers x2 (fun r_1 => q_z_X10_has_0 f_begun x2 (fun r_2 => (r_2 = 0 → (q_wn_X3_spreads_6_31 f_begun f_climbed a_huts a_known a_levels lf_singers lf_dams lf_echoes la_heights la_ladders la_echoFrom la_echoTo la_talls x3 r_1 (1000 : Int32) post)) ∧ (¬ r_2 = 0 → (vp_in x2 5 ∧ (q_wn_X3_spreads_6_31 f_begun f_climbed a_huts a_known a_levels lf_singers lf_dams lf_echoes la_heights la_ladders la_echoFrom la_echoTo la_talls x3 r_1 (a_levels (Int32.toNatClampNeg x2)) post)))))
set_option maxRecDepth 20000 in
theorem t_wn_X3_spreads_6_144 {p : Program} {l : Launch} {e : Env} {s : State} {m : MethodId} {args : Array Value} {below : List Frame} {meth : Method} {c : Code} {E : zE} {qn ql qv : Nat} {f_minute : Int32} {f_avalanches : Int32} {f_begun : Int32} {f_climbed : Int32} {f_seed : Int32} {a_huts : Nat → Int32} {a_known : Nat → Int32} {a_levels : Nat → Int32} {a_snow : Nat → Int32} {a_open : Nat → Int32} {lf_huts : Int32} {lf_singers : Int32} {lf_villages : Int32} {lf_dams : Int32} {lf_echoes : Int32} {lf_deep : Int32} {lf_slide : Int32} {la_heights : Nat → Int32} {la_ladders : Nat → Int32} {la_minutes : Nat → Int32} {la_echoFrom : Nat → Int32} {la_echoTo : Nat → Int32} {la_homes : Nat → Int32} {la_talls : Nat → Int32} {la_known : Nat → Int32} {vf_deeds : Int32} {va_kinds : Nat → Int32} {va_firsts : Nat → Int32} {va_seconds : Nat → Int32} {post : Int32 → Prop} {x4 : Int32} {ls : Array Slot}
    (zc : zC p s m args meth c cX3_spreads 10 RX3 (some .boolean))
    (hK : zK E s)
    (hM : wnW E qn ql qv f_minute f_avalanches f_begun f_climbed f_seed a_huts a_known a_levels a_snow a_open lf_huts lf_singers lf_villages lf_dams lf_echoes lf_deep lf_slide la_heights la_ladders la_minutes la_echoFrom la_echoTo la_homes la_talls la_known vf_deeds va_kinds va_firsts va_seconds s.heap)
    (hl : lv_has ls 10 [(1, .ref ql), (4, .int x4)])
    (hw : q_wn_X3_spreads_6_144 f_begun f_climbed a_huts a_known a_levels lf_singers lf_dams lf_echoes la_heights la_ladders la_echoFrom la_echoTo la_talls x4 post) :
    W p l e rm_wn_X3_spreads_6 s m args below meth c s.heap [] 0 0 (MQ below (vp_Si post) args s 0 0 (fun _ => False)) (F0 m 144 ls []) := by
  have hx := zc.1
  have hb := zc.2.1
  refine lv_iload hx hb dX3_spreads_144 (lv_at hl 1 rfl) ?_
  refine zS_i [.int x4] [] zc ky_J6_bitCount_0f7a4 kz_J6_bitCount_0f7a4 km_3_159 (c_z_J6_bitCount_0f7a4 l hw) (zPre0 _) rfl rfl hl.1 (Nat.le_of_ble_eq_true rfl) ⟨rfl, rfl⟩ ⟨Nat.le_of_ble_eq_true rfl, Nat.le_of_ble_eq_true rfl⟩ ⟨(Nat.zero_le _), (Nat.zero_le _)⟩ dX3_spreads_146 (fun r_1 hw => ?_)
  refine lv_aload_n hx hb dX3_spreads_149 rfl (lv_at hl 0 rfl) ?_
  refine wng_3_53_6 zc hK hM dX3_spreads_150 ?_
  refine lv_icmp_ne (tgt := 160) hx hb dX3_spreads_153 (by decide) (fun hc => ?_) (fun hc => ?_)
  · have hw := hw.1 hc
    refine lv_iconst (v := (0 : Int32)) hx hb dX3_spreads_160 (by decide) ?_
    exact zret_z zc rfl hw dX3_spreads_161
  · have hw := hw.2 hc
    refine lv_iconst (v := (1 : Int32)) hx hb dX3_spreads_156 (by decide) ?_
    refine lv_goto (tgt := 161) hx hb dX3_spreads_157 (by decide) ?_
    exact zret_z zc rfl hw dX3_spreads_161
set_option maxRecDepth 20000 in
theorem t_wn_X3_spreads_6_39 {p : Program} {l : Launch} {e : Env} {s : State} {m : MethodId} {args : Array Value} {below : List Frame} {meth : Method} {c : Code} {E : zE} {qn ql qv : Nat} {f_minute : Int32} {f_avalanches : Int32} {f_begun : Int32} {f_climbed : Int32} {f_seed : Int32} {a_huts : Nat → Int32} {a_known : Nat → Int32} {a_levels : Nat → Int32} {a_snow : Nat → Int32} {a_open : Nat → Int32} {lf_huts : Int32} {lf_singers : Int32} {lf_villages : Int32} {lf_dams : Int32} {lf_echoes : Int32} {lf_deep : Int32} {lf_slide : Int32} {la_heights : Nat → Int32} {la_ladders : Nat → Int32} {la_minutes : Nat → Int32} {la_echoFrom : Nat → Int32} {la_echoTo : Nat → Int32} {la_homes : Nat → Int32} {la_talls : Nat → Int32} {la_known : Nat → Int32} {vf_deeds : Int32} {va_kinds : Nat → Int32} {va_firsts : Nat → Int32} {va_seconds : Nat → Int32} {post : Int32 → Prop} {x4 : Int32} {x5 : Int32} {x6 : Int32} {x7 : Int32} {ls : Array Slot}
    (zc : zC p s m args meth c cX3_spreads 10 RX3 (some .boolean))
    (hK : zK E s)
    (hM : wnW E qn ql qv f_minute f_avalanches f_begun f_climbed f_seed a_huts a_known a_levels a_snow a_open lf_huts lf_singers lf_villages lf_dams lf_echoes lf_deep lf_slide la_heights la_ladders la_minutes la_echoFrom la_echoTo la_homes la_talls la_known vf_deeds va_kinds va_firsts va_seconds s.heap)
    (hl : lv_has ls 10 [(0, .ref qn), (1, .ref ql), (4, .int x4), (5, .int x5), (6, .int x6), (7, .int x7)])
    (hw : q_wn_X3_spreads_6_39 f_begun f_climbed a_huts a_known a_levels lf_singers lf_dams lf_echoes la_heights la_ladders la_echoFrom la_echoTo la_talls x4 x5 x6 x7 post) :
    W p l e rm_wn_X3_spreads_6 s m args below meth c s.heap [] 0 0 (MQ below (vp_Si post) args s 0 0 (fun _ => False)) (F0 m 39 ls []) := by
  have hx := zc.1
  have hb := zc.2.1
  refine hw (fun x4 x5 x6 x7 => ∀ (ls : Array Slot), lv_has ls 10 [(0, .ref qn), (1, .ref ql), (4, .int x4), (5, .int x5), (6, .int x6), (7, .int x7)] → W p l e rm_wn_X3_spreads_6 s m args below meth c s.heap [] 0 0 (MQ below (vp_Si post) args s 0 0 (fun _ => False)) (F0 m 39 ls [])) ?_ _ hl
  intro x4 x5 x6 x7 hw ls hl
  refine lv_iload hx hb dX3_spreads_39 (lv_at hl 5 rfl) ?_
  refine lv_bipush (v := (6 : Int32)) hx hb dX3_spreads_41 (by decide) ?_
  refine lv_icmp_ge (tgt := 144) hx hb dX3_spreads_43 (by decide) (fun hc => ?_) (fun hc => ?_)
  · have hw := hw.1 hc
    exact t_wn_X3_spreads_6_144 zc hK hM  (lv_sub hl [1, 2] rfl) hw
  · have hw := hw.2 hc
    refine lv_iload hx hb dX3_spreads_46 (lv_at hl 4 rfl) ?_
    refine lv_if_eq (tgt := 144) hx hb dX3_spreads_48 (by decide) (fun hc => ?_) (fun hc => ?_)
    · have hw := hw.1 hc
      exact t_wn_X3_spreads_6_144 zc hK hM  (lv_sub hl [1, 2] rfl) hw
    · have hw := hw.2 hc
      refine lv_aload_n hx hb dX3_spreads_51 rfl (lv_at hl 0 rfl) ?_
      refine lv_aload_n hx hb dX3_spreads_52 rfl (lv_at hl 1 rfl) ?_
      refine lv_iload hx hb dX3_spreads_53 (lv_at hl 4 rfl) ?_
      refine zV_i [.ref ql, .int x6] [] zc ky_X3_highestOf kz_X3_highestOf km_3_196 (c_wn_X3_highestOf_6 l hw) (wnPreV0 hK hM) rfl rfl hl.1 (Nat.le_of_ble_eq_true rfl) ⟨rfl, rfl⟩ ⟨Nat.le_of_ble_eq_true rfl, Nat.le_of_ble_eq_true rfl⟩ ⟨(Nat.zero_le _), (Nat.zero_le _)⟩ dX3_spreads_55 (fun r_1 hw => ?_)
      refine lv_istore (lv' := [(8, .int r_1), (0, .ref qn), (1, .ref ql), (4, .int x4), (5, .int x5), (6, .int x6), (7, .int x7)]) hx hb dX3_spreads_58 hl (by decide) rfl (fun ls hl => ?_)
      refine lv_aload_n hx hb dX3_spreads_60 rfl (lv_at hl 1 rfl) ?_
      refine lv_aload_n hx hb dX3_spreads_61 rfl (lv_at hl 2 rfl) ?_
      refine lv_iload hx hb dX3_spreads_62 (lv_at hl 0 rfl) ?_
      refine zV_i [.ref ql, .int r_1] [] zc ky_X3_high kz_X3_high km_3_130 (c_wn_X3_high_6 l hw) (wnPreV0 hK hM) rfl rfl hl.1 (Nat.le_of_ble_eq_true rfl) ⟨rfl, rfl⟩ ⟨Nat.le_of_ble_eq_true rfl, Nat.le_of_ble_eq_true rfl⟩ ⟨(Nat.zero_le _), (Nat.zero_le _)⟩ dX3_spreads_64 (fun r_2 hw => ?_)
      refine lv_istore (lv' := [(9, .int r_2), (8, .int r_1), (0, .ref qn), (1, .ref ql), (4, .int x4), (5, .int x5), (6, .int x6), (7, .int x7)]) hx hb dX3_spreads_67 hl (by decide) rfl (fun ls hl => ?_)
      refine lv_iload hx hb dX3_spreads_69 (lv_at hl 4 rfl) ?_
      refine lv_iload hx hb dX3_spreads_71 (lv_at hl 1 rfl) ?_
      refine zSN_i [.int x4, .int r_1] [] zc ky_X10_has kz_X10_has (hK.2 _ kn_3_67) (c_z_X10_has l hw) (zPre0 _) rfl rfl hl.1 (Nat.le_of_ble_eq_true rfl) ⟨rfl, rfl⟩ ⟨Nat.le_of_ble_eq_true rfl, Nat.le_of_ble_eq_true rfl⟩ ⟨(Nat.zero_le _), (Nat.zero_le _)⟩ dX3_spreads_73 (fun r_3 hw => ?_)
      refine lv_if_eq (tgt := 100) hx hb dX3_spreads_76 (by decide) (fun hc => ?_) (fun hc => ?_)
      · have hw := hw.1 hc
        refine lv_iconst (v := (0 : Int32)) hx hb dX3_spreads_100 (by decide) ?_
        exact zret_z zc rfl hw dX3_spreads_101
      · have hw := hw.2 hc
        refine lv_iload hx hb dX3_spreads_79 (lv_at hl 0 rfl) ?_
        refine lv_iload hx hb dX3_spreads_81 (lv_at hl 5 rfl) ?_
        refine lv_icmp_ge (tgt := 100) hx hb dX3_spreads_83 (by decide) (fun hc => ?_) (fun hc => ?_)
        · have hw := hw.1 hc
          refine lv_iconst (v := (0 : Int32)) hx hb dX3_spreads_100 (by decide) ?_
          exact zret_z zc rfl hw dX3_spreads_101
        · have hw := hw.2 hc
          refine lv_aload_n hx hb dX3_spreads_86 rfl (lv_at hl 3 rfl) ?_
          refine lv_aload_n hx hb dX3_spreads_87 rfl (lv_at hl 2 rfl) ?_
          refine wng_3_9_0 zc hK hM dX3_spreads_88 ?_
          refine lv_iload hx hb dX3_spreads_91 (lv_at hl 1 rfl) ?_
          refine wnld_1 zc hK hM hw.1 dX3_spreads_93 ?_
          have hw := hw.2
          refine zV_i [.int (a_huts (Int32.toNatClampNeg r_1))] [] zc ky_X2_isDam kz_X2_isDam km_3_127 (c_wl_X2_isDam l hw) (wlPreV0 hK (pj_wn_wl_6 hM)) rfl rfl hl.1 (Nat.le_of_ble_eq_true rfl) ⟨rfl, rfl⟩ ⟨Nat.le_of_ble_eq_true rfl, Nat.le_of_ble_eq_true rfl⟩ ⟨(Nat.zero_le _), (Nat.zero_le _)⟩ dX3_spreads_94 (fun r_4 hw => ?_)
          refine lv_if_eq (tgt := 102) hx hb dX3_spreads_97 (by decide) (fun hc => ?_) (fun hc => ?_)
          · have hw := hw.1 hc
            refine lv_iload hx hb dX3_spreads_102 (lv_at hl 0 rfl) ?_
            refine lv_istore (lv' := [(5, .int r_2), (9, .int r_2), (8, .int r_1), (0, .ref qn), (1, .ref ql), (4, .int x4), (6, .int x6), (7, .int x7)]) hx hb dX3_spreads_104 hl (by decide) rfl (fun ls hl => ?_)
            refine lv_iload hx hb dX3_spreads_106 (lv_at hl 5 rfl) ?_
            refine lv_aload_n hx hb dX3_spreads_108 rfl (lv_at hl 3 rfl) ?_
            refine lv_aload_n hx hb dX3_spreads_109 rfl (lv_at hl 4 rfl) ?_
            refine lv_aload_n hx hb dX3_spreads_110 rfl (lv_at hl 4 rfl) ?_
            refine lv_aload_n hx hb dX3_spreads_111 rfl (lv_at hl 3 rfl) ?_
            refine wng_3_9_0 zc hK hM dX3_spreads_112 ?_
            refine lv_iload hx hb dX3_spreads_115 (lv_at hl 2 rfl) ?_
            refine wnld_1 zc hK hM hw.1 dX3_spreads_117 ?_
            have hw := hw.2
            refine zV_i [.int (a_huts (Int32.toNatClampNeg r_1))] [.ref ql, .ref qn, .int x4] zc ky_X2_earshot kz_X2_earshot km_3_138 (c_wl_X2_earshot l hw) (wlPreV0 hK (pj_wn_wl_6 hM)) rfl rfl hl.1 (Nat.le_of_ble_eq_true rfl) ⟨rfl, rfl⟩ ⟨Nat.le_of_ble_eq_true rfl, Nat.le_of_ble_eq_true rfl⟩ ⟨(Nat.zero_le _), (Nat.zero_le _)⟩ dX3_spreads_118 (fun r_5 hw => ?_)
            refine zV_i [.ref ql, .int r_5] [.int x4] zc ky_X3_singersIn kz_X3_singersIn km_3_141 (c_wn_X3_singersIn_6 l hw) (wnPreV0 hK hM) rfl rfl hl.1 (Nat.le_of_ble_eq_true rfl) ⟨rfl, rfl⟩ ⟨Nat.le_of_ble_eq_true rfl, Nat.le_of_ble_eq_true rfl⟩ ⟨(Nat.zero_le _), (Nat.zero_le _)⟩ dX3_spreads_121 (fun r_6 hw => ?_)
            refine lv_ior hx hb dX3_spreads_124 ?_
            refine lv_topi (fun v_1 ev_1 => ?_)
            have hw := hw v_1 ev_1
            refine lv_istore (lv' := [(4, .int v_1), (5, .int r_2), (9, .int r_2), (8, .int r_1), (0, .ref qn), (1, .ref ql), (6, .int x6), (7, .int x7)]) hx hb dX3_spreads_125 hl (by decide) rfl (fun ls hl => ?_)
            refine lv_iload hx hb dX3_spreads_127 (lv_at hl 6 rfl) ?_
            refine lv_iconst (v := (1 : Int32)) hx hb dX3_spreads_129 (by decide) ?_
            refine lv_iload hx hb dX3_spreads_130 (lv_at hl 3 rfl) ?_
            refine lv_ishl hx hb dX3_spreads_132 ?_
            refine lv_iconst (v := (-1 : Int32)) hx hb dX3_spreads_133 (by decide) ?_
            refine lv_ixor hx hb dX3_spreads_134 ?_
            refine lv_iand hx hb dX3_spreads_135 ?_
            refine lv_topi (fun v_2 ev_2 => ?_)
            have hw := hw v_2 ev_2
            refine lv_istore (lv' := [(6, .int v_2), (4, .int v_1), (5, .int r_2), (9, .int r_2), (8, .int r_1), (0, .ref qn), (1, .ref ql), (7, .int x7)]) hx hb dX3_spreads_136 hl (by decide) rfl (fun ls hl => ?_)
            obtain ⟨v_3, ev_3⟩ : ∃ y : Int32, y = x7 + (1 : Int32) := ⟨_, rfl⟩
            have hw := hw v_3 ev_3
            refine lv_iinc (v := v_3) (k := 7) (lv' := [(7, .int v_3), (6, .int v_2), (4, .int v_1), (5, .int r_2), (9, .int r_2), (8, .int r_1), (0, .ref qn), (1, .ref ql)]) hx hb dX3_spreads_138 hl rfl (by rw [ev_3]; rfl) (by decide) rfl (fun ls hl => ?_)
            refine lv_goto (tgt := 39) hx hb dX3_spreads_141 (by decide) ?_
            exact hw _ (lv_sub hl [6, 7, 2, 3, 1, 0] rfl)
          · have hw := hw.2 hc
            refine lv_iconst (v := (0 : Int32)) hx hb dX3_spreads_100 (by decide) ?_
            exact zret_z zc rfl hw dX3_spreads_101
set_option maxRecDepth 20000 in
theorem t_wn_X3_spreads_6_31 {p : Program} {l : Launch} {e : Env} {s : State} {m : MethodId} {args : Array Value} {below : List Frame} {meth : Method} {c : Code} {E : zE} {qn ql qv : Nat} {f_minute : Int32} {f_avalanches : Int32} {f_begun : Int32} {f_climbed : Int32} {f_seed : Int32} {a_huts : Nat → Int32} {a_known : Nat → Int32} {a_levels : Nat → Int32} {a_snow : Nat → Int32} {a_open : Nat → Int32} {lf_huts : Int32} {lf_singers : Int32} {lf_villages : Int32} {lf_dams : Int32} {lf_echoes : Int32} {lf_deep : Int32} {lf_slide : Int32} {la_heights : Nat → Int32} {la_ladders : Nat → Int32} {la_minutes : Nat → Int32} {la_echoFrom : Nat → Int32} {la_echoTo : Nat → Int32} {la_homes : Nat → Int32} {la_talls : Nat → Int32} {la_known : Nat → Int32} {vf_deeds : Int32} {va_kinds : Nat → Int32} {va_firsts : Nat → Int32} {va_seconds : Nat → Int32} {post : Int32 → Prop} {x3 : Int32} {x4 : Int32} {y0 : Int32} {ls : Array Slot}
    (zc : zC p s m args meth c cX3_spreads 10 RX3 (some .boolean))
    (hK : zK E s)
    (hM : wnW E qn ql qv f_minute f_avalanches f_begun f_climbed f_seed a_huts a_known a_levels a_snow a_open lf_huts lf_singers lf_villages lf_dams lf_echoes lf_deep lf_slide la_heights la_ladders la_minutes la_echoFrom la_echoTo la_homes la_talls la_known vf_deeds va_kinds va_firsts va_seconds s.heap)
    (hl : lv_has ls 10 [(0, .ref qn), (1, .ref ql), (3, .int x3), (4, .int x4)])
    (hw : q_wn_X3_spreads_6_31 f_begun f_climbed a_huts a_known a_levels lf_singers lf_dams lf_echoes la_heights la_ladders la_echoFrom la_echoTo la_talls x3 x4 y0 post) :
    W p l e rm_wn_X3_spreads_6 s m args below meth c s.heap [] 0 0 (MQ below (vp_Si post) args s 0 0 (fun _ => False)) (F0 m 31 ls [.int y0]) := by
  have hx := zc.1
  have hb := zc.2.1
  refine lv_istore (lv' := [(5, .int y0), (0, .ref qn), (1, .ref ql), (3, .int x3), (4, .int x4)]) hx hb dX3_spreads_31 hl (by decide) rfl (fun ls hl => ?_)
  refine lv_iload_n hx hb dX3_spreads_33 rfl (lv_at hl 3 rfl) ?_
  refine lv_istore (lv' := [(6, .int x3), (5, .int y0), (0, .ref qn), (1, .ref ql), (3, .int x3), (4, .int x4)]) hx hb dX3_spreads_34 hl (by decide) rfl (fun ls hl => ?_)
  refine lv_iconst (v := (0 : Int32)) hx hb dX3_spreads_36 (by decide) ?_
  refine lv_istore (lv' := [(7, .int (0 : Int32)), (6, .int x3), (5, .int y0), (0, .ref qn), (1, .ref ql), (3, .int x3), (4, .int x4)]) hx hb dX3_spreads_37 hl (by decide) rfl (fun ls hl => ?_)
  exact t_wn_X3_spreads_6_39 zc hK hM  (lv_sub hl [3, 4, 6, 2, 1, 0] rfl) hw
set_option maxRecDepth 20000 in
theorem t_wn_X3_spreads_6_0 {p : Program} {l : Launch} {e : Env} {s : State} {m : MethodId} {args : Array Value} {below : List Frame} {meth : Method} {c : Code} {E : zE} {qn ql qv : Nat} {f_minute : Int32} {f_avalanches : Int32} {f_begun : Int32} {f_climbed : Int32} {f_seed : Int32} {a_huts : Nat → Int32} {a_known : Nat → Int32} {a_levels : Nat → Int32} {a_snow : Nat → Int32} {a_open : Nat → Int32} {lf_huts : Int32} {lf_singers : Int32} {lf_villages : Int32} {lf_dams : Int32} {lf_echoes : Int32} {lf_deep : Int32} {lf_slide : Int32} {la_heights : Nat → Int32} {la_ladders : Nat → Int32} {la_minutes : Nat → Int32} {la_echoFrom : Nat → Int32} {la_echoTo : Nat → Int32} {la_homes : Nat → Int32} {la_talls : Nat → Int32} {la_known : Nat → Int32} {vf_deeds : Int32} {va_kinds : Nat → Int32} {va_firsts : Nat → Int32} {va_seconds : Nat → Int32} {post : Int32 → Prop} {x2 : Int32} {x3 : Int32} {ls : Array Slot}
    (zc : zC p s m args meth c cX3_spreads 10 RX3 (some .boolean))
    (hK : zK E s)
    (hM : wnW E qn ql qv f_minute f_avalanches f_begun f_climbed f_seed a_huts a_known a_levels a_snow a_open lf_huts lf_singers lf_villages lf_dams lf_echoes lf_deep lf_slide la_heights la_ladders la_minutes la_echoFrom la_echoTo la_homes la_talls la_known vf_deeds va_kinds va_firsts va_seconds s.heap)
    (hl : lv_has ls 10 [(0, .ref qn), (1, .ref ql), (2, .int x2), (3, .int x3)])
    (hw : q_wn_X3_spreads_6_0 f_begun f_climbed a_huts a_known a_levels lf_singers lf_dams lf_echoes la_heights la_ladders la_echoFrom la_echoTo la_talls x2 x3 post) :
    W p l e rm_wn_X3_spreads_6 s m args below meth c s.heap [] 0 0 (MQ below (vp_Si post) args s 0 0 (fun _ => False)) (F0 m 0 ls []) := by
  have hx := zc.1
  have hb := zc.2.1
  refine lv_aload_n hx hb dX3_spreads_0 rfl (lv_at hl 0 rfl) ?_
  refine lv_aload_n hx hb dX3_spreads_1 rfl (lv_at hl 1 rfl) ?_
  refine lv_iload_n hx hb dX3_spreads_2 rfl (lv_at hl 2 rfl) ?_
  refine zV_i [.ref ql, .int x2] [] zc ky_X3_knowers kz_X3_knowers km_3_156 (c_wn_X3_knowers_6 l hw) (wnPreV0 hK hM) rfl rfl hl.1 (Nat.le_of_ble_eq_true rfl) ⟨rfl, rfl⟩ ⟨Nat.le_of_ble_eq_true rfl, Nat.le_of_ble_eq_true rfl⟩ ⟨(Nat.zero_le _), (Nat.zero_le _)⟩ dX3_spreads_3 (fun r_1 hw => ?_)
  refine lv_istore (lv' := [(4, .int r_1), (0, .ref qn), (1, .ref ql), (2, .int x2), (3, .int x3)]) hx hb dX3_spreads_6 hl (by decide) rfl (fun ls hl => ?_)
  refine lv_aload_n hx hb dX3_spreads_8 rfl (lv_at hl 1 rfl) ?_
  refine wng_3_64_0 zc hK hM dX3_spreads_9 ?_
  refine lv_iload_n hx hb dX3_spreads_12 rfl (lv_at hl 3 rfl) ?_
  refine zSN_i [.int f_begun, .int x2] [] zc ky_X10_has kz_X10_has (hK.2 _ kn_3_67) (c_z_X10_has l hw) (zPre0 _) rfl rfl hl.1 (Nat.le_of_ble_eq_true rfl) ⟨rfl, rfl⟩ ⟨Nat.le_of_ble_eq_true rfl, Nat.le_of_ble_eq_true rfl⟩ ⟨(Nat.zero_le _), (Nat.zero_le _)⟩ dX3_spreads_13 (fun r_2 hw => ?_)
  refine lv_if_eq (tgt := 28) hx hb dX3_spreads_16 (by decide) (fun hc => ?_) (fun hc => ?_)
  · have hw := hw.1 hc
    refine lv_sipush (v := (1000 : Int32)) hx hb dX3_spreads_28 (by decide) ?_
    exact t_wn_X3_spreads_6_31 zc hK hM  (lv_sub hl [1, 2, 4, 0] rfl) hw
  · have hw := hw.2 hc
    refine lv_aload_n hx hb dX3_spreads_19 rfl (lv_at hl 1 rfl) ?_
    refine wng_3_18_0 zc hK hM dX3_spreads_20 ?_
    refine lv_iload_n hx hb dX3_spreads_23 rfl (lv_at hl 3 rfl) ?_
    refine wnld_3 zc hK hM hw.1 dX3_spreads_24 ?_
    have hw := hw.2
    refine lv_goto (tgt := 31) hx hb dX3_spreads_25 (by decide) ?_
    exact t_wn_X3_spreads_6_31 zc hK hM  (lv_sub hl [1, 2, 4, 0] rfl) hw
set_option maxRecDepth 20000 in
theorem c_wn_X3_spreads_6 (l : Launch) {E : zE} {qn ql qv : Nat} {f_minute : Int32} {f_avalanches : Int32} {f_begun : Int32} {f_climbed : Int32} {f_seed : Int32} {a_huts : Nat → Int32} {a_known : Nat → Int32} {a_levels : Nat → Int32} {a_snow : Nat → Int32} {a_open : Nat → Int32} {lf_huts : Int32} {lf_singers : Int32} {lf_villages : Int32} {lf_dams : Int32} {lf_echoes : Int32} {lf_deep : Int32} {lf_slide : Int32} {la_heights : Nat → Int32} {la_ladders : Nat → Int32} {la_minutes : Nat → Int32} {la_echoFrom : Nat → Int32} {la_echoTo : Nat → Int32} {la_homes : Nat → Int32} {la_talls : Nat → Int32} {la_known : Nat → Int32} {vf_deeds : Int32} {va_kinds : Nat → Int32} {va_firsts : Nat → Int32} {va_seconds : Nat → Int32} {x2 : Int32} {x3 : Int32} {post : Int32 → Prop} (hw : q_wn_X3_spreads_6_0 f_begun f_climbed a_huts a_known a_levels lf_singers lf_dams lf_echoes la_heights la_ladders la_echoFrom la_echoTo la_talls x2 x3 post) : Met l yX3_spreads (Cond.code yX3_spreads cX3_spreads 10 (some .boolean) :: zb) rm_wn_X3_spreads_6 (va_Pc [.ref qn, .ref ql, .int x2, .int x3] (fun U => wnW E qn ql qv f_minute f_avalanches f_begun f_climbed f_seed a_huts a_known a_levels a_snow a_open lf_huts lf_singers lf_villages lf_dams lf_echoes lf_deep lf_slide la_heights la_ladders la_minutes la_echoFrom la_echoTo la_homes la_talls la_known vf_deeds va_kinds va_firsts va_seconds U.heap ∧ zK E U)) (vp_Si post) 0 0 (fun _ => False) := by
  refine Met.ofW (cc := cX3_spreads) (maxL := 10) (ret := (some .boolean)) (by decide) rfl ?_
  intro p e s m args below meth c s₁ B hml hv
  obtain ⟨rfl, hM, hK⟩ := hv
  have zc := zc_of B hml
  have hl := lv_entry ([.ref qn, .ref ql, .int x2, .int x3]) (n := 10) (Nat.le_of_ble_eq_true rfl)
  rw [lg_entry_eq]
  generalize (lg_sl ([.ref qn, .ref ql, .int x2, .int x3]) ++ List.replicate (10 - (lg_sl ([.ref qn, .ref ql, .int x2, .int x3])).length) Slot.unset).toArray = ls at hl ⊢
  have hl : lv_has ls 10 [(0, .ref qn), (1, .ref ql), (2, .int x2), (3, .int x3)] := hl
  exact t_wn_X3_spreads_6_0 zc hK hM (lv_sub hl [0, 1, 2, 3] rfl) hw
-- wn_X3_fewestTimes_6
abbrev rm_wn_X3_fewestTimes_6 : Room := { frames := 4, cells := 0, slots := 0, locals := 99 }
def q_wn_X3_fewestTimes_6_48 (P5 : Int32 → Int32 → Prop) (f_begun : Int32) (f_climbed : Int32) (a_huts : Nat → Int32) (a_known : Nat → Int32) (a_levels : Nat → Int32) (lf_singers : Int32) (lf_dams : Int32) (lf_echoes : Int32) (la_heights : Nat → Int32) (la_ladders : Nat → Int32) (la_echoFrom : Nat → Int32) (la_echoTo : Nat → Int32) (la_talls : Nat → Int32) (x2 : Int32) (x3 : Int32) (x4 : Int32) (post : Int32 → Prop) : Prop :=
  ∀ v_1 : Int32, v_1 = x4 + (1 : Int32) → (P5 x3 v_1)
def q_wn_X3_fewestTimes_6_34 (P5 : Int32 → Int32 → Prop) (f_begun : Int32) (f_climbed : Int32) (a_huts : Nat → Int32) (a_known : Nat → Int32) (a_levels : Nat → Int32) (lf_singers : Int32) (lf_dams : Int32) (lf_echoes : Int32) (la_heights : Nat → Int32) (la_ladders : Nat → Int32) (la_echoFrom : Nat → Int32) (la_echoTo : Nat → Int32) (la_talls : Nat → Int32) (x2 : Int32) (x3 : Int32) (x4 : Int32) (x5 : Int32) (post : Int32 → Prop) : Prop :=
  q_wn_X3_spreads_6_0 f_begun f_climbed a_huts a_known a_levels lf_singers lf_dams lf_echoes la_heights la_ladders la_echoFrom la_echoTo la_talls x2 x4 (fun r_1 => (r_1 = 0 → (q_wn_X3_fewestTimes_6_48 P5 f_begun f_climbed a_huts a_known a_levels lf_singers lf_dams lf_echoes la_heights la_ladders la_echoFrom la_echoTo la_talls x2 x3 x4 post)) ∧ (¬ r_1 = 0 → (q_wn_X3_fewestTimes_6_48 P5 f_begun f_climbed a_huts a_known a_levels lf_singers lf_dams lf_echoes la_heights la_ladders la_echoFrom la_echoTo la_talls x2 x5 x4 post)))
def q_wn_X3_fewestTimes_6_5 (f_begun : Int32) (f_climbed : Int32) (a_huts : Nat → Int32) (a_known : Nat → Int32) (a_levels : Nat → Int32) (lf_singers : Int32) (lf_dams : Int32) (lf_echoes : Int32) (la_heights : Nat → Int32) (la_ladders : Nat → Int32) (la_echoFrom : Nat → Int32) (la_echoTo : Nat → Int32) (la_talls : Nat → Int32) (x2 : Int32) (x3 : Int32) (x4 : Int32) (post : Int32 → Prop) : Prop :=
  ∀ P5 : Int32 → Int32 → Prop, (∀ (x3 : Int32) (x4 : Int32), ((((1 : Int32) <<< (lf_singers &&& 31)) ≤ x4 → (post x3)) ∧ (¬ ((1 : Int32) <<< (lf_singers &&& 31)) ≤ x4 → (q_z_J6_bitCount_0f7a4_0 x4 (fun r_1 => (x3 = (-1 : Int32) → (q_wn_X3_fewestTimes_6_34 P5 f_begun f_climbed a_huts a_known a_levels lf_singers lf_dams lf_echoes la_heights la_ladders la_echoFrom la_echoTo la_talls x2 x3 x4 r_1 post)) ∧ (¬ x3 = (-1 : Int32) → ((x3 ≤ r_1 → (q_wn_X3_fewestTimes_6_48 P5 f_begun f_climbed a_huts a_known a_levels lf_singers lf_dams lf_echoes la_heights la_ladders la_echoFrom la_echoTo la_talls x2 x3 x4 post)) ∧ (¬ x3 ≤ r_1 → (q_wn_X3_fewestTimes_6_34 P5 f_begun f_climbed a_huts a_known a_levels lf_singers lf_dams lf_echoes la_heights la_ladders la_echoFrom la_echoTo la_talls x2 x3 x4 r_1 post)))))))) → P5 x3 x4) → P5 x3 x4
def q_wn_X3_fewestTimes_6_0 (f_begun : Int32) (f_climbed : Int32) (a_huts : Nat → Int32) (a_known : Nat → Int32) (a_levels : Nat → Int32) (lf_singers : Int32) (lf_dams : Int32) (lf_echoes : Int32) (la_heights : Nat → Int32) (la_ladders : Nat → Int32) (la_echoFrom : Nat → Int32) (la_echoTo : Nat → Int32) (la_talls : Nat → Int32) (x2 : Int32) (post : Int32 → Prop) : Prop :=
  q_wn_X3_fewestTimes_6_5 f_begun f_climbed a_huts a_known a_levels lf_singers lf_dams lf_echoes la_heights la_ladders la_echoFrom la_echoTo la_talls x2 (-1 : Int32) (0 : Int32) post
set_option maxRecDepth 20000 in
theorem t_wn_X3_fewestTimes_6_48 {p : Program} {l : Launch} {e : Env} {s : State} {m : MethodId} {args : Array Value} {below : List Frame} {meth : Method} {c : Code} {E : zE} {qn ql qv : Nat} {f_minute : Int32} {f_avalanches : Int32} {f_begun : Int32} {f_climbed : Int32} {f_seed : Int32} {a_huts : Nat → Int32} {a_known : Nat → Int32} {a_levels : Nat → Int32} {a_snow : Nat → Int32} {a_open : Nat → Int32} {lf_huts : Int32} {lf_singers : Int32} {lf_villages : Int32} {lf_dams : Int32} {lf_echoes : Int32} {lf_deep : Int32} {lf_slide : Int32} {la_heights : Nat → Int32} {la_ladders : Nat → Int32} {la_minutes : Nat → Int32} {la_echoFrom : Nat → Int32} {la_echoTo : Nat → Int32} {la_homes : Nat → Int32} {la_talls : Nat → Int32} {la_known : Nat → Int32} {vf_deeds : Int32} {va_kinds : Nat → Int32} {va_firsts : Nat → Int32} {va_seconds : Nat → Int32} {P5 : Int32 → Int32 → Prop} {post : Int32 → Prop} {x2 : Int32} {x3 : Int32} {x4 : Int32} {ls : Array Slot}
    (zc : zC p s m args meth c cX3_fewestTimes 6 RX3 (some .int))
    (hK : zK E s)
    (hM : wnW E qn ql qv f_minute f_avalanches f_begun f_climbed f_seed a_huts a_known a_levels a_snow a_open lf_huts lf_singers lf_villages lf_dams lf_echoes lf_deep lf_slide la_heights la_ladders la_minutes la_echoFrom la_echoTo la_homes la_talls la_known vf_deeds va_kinds va_firsts va_seconds s.heap)
    (hP5 : ∀ (x3 : Int32) (x4 : Int32) (ls : Array Slot), P5 x3 x4 → lv_has ls 6 [(0, .ref qn), (1, .ref ql), (2, .int x2), (3, .int x3), (4, .int x4)] → W p l e rm_wn_X3_fewestTimes_6 s m args below meth c s.heap [] 0 0 (MQ below (vp_Si post) args s 0 0 (fun _ => False)) (F0 m 5 ls []))
    (hl : lv_has ls 6 [(0, .ref qn), (1, .ref ql), (2, .int x2), (3, .int x3), (4, .int x4)])
    (hw : q_wn_X3_fewestTimes_6_48 P5 f_begun f_climbed a_huts a_known a_levels lf_singers lf_dams lf_echoes la_heights la_ladders la_echoFrom la_echoTo la_talls x2 x3 x4 post) :
    W p l e rm_wn_X3_fewestTimes_6 s m args below meth c s.heap [] 0 0 (MQ below (vp_Si post) args s 0 0 (fun _ => False)) (F0 m 48 ls []) := by
  have hx := zc.1
  have hb := zc.2.1
  obtain ⟨v_1, ev_1⟩ : ∃ y : Int32, y = x4 + (1 : Int32) := ⟨_, rfl⟩
  have hw := hw v_1 ev_1
  refine lv_iinc (v := v_1) (k := 4) (lv' := [(4, .int v_1), (0, .ref qn), (1, .ref ql), (2, .int x2), (3, .int x3)]) hx hb dX3_fewestTimes_48 hl rfl (by rw [ev_1]; rfl) (by decide) rfl (fun ls hl => ?_)
  refine lv_goto (tgt := 5) hx hb dX3_fewestTimes_51 (by decide) ?_
  exact hP5 _ _ _ hw (lv_sub hl [1, 2, 3, 4, 0] rfl)
set_option maxRecDepth 20000 in
theorem t_wn_X3_fewestTimes_6_34 {p : Program} {l : Launch} {e : Env} {s : State} {m : MethodId} {args : Array Value} {below : List Frame} {meth : Method} {c : Code} {E : zE} {qn ql qv : Nat} {f_minute : Int32} {f_avalanches : Int32} {f_begun : Int32} {f_climbed : Int32} {f_seed : Int32} {a_huts : Nat → Int32} {a_known : Nat → Int32} {a_levels : Nat → Int32} {a_snow : Nat → Int32} {a_open : Nat → Int32} {lf_huts : Int32} {lf_singers : Int32} {lf_villages : Int32} {lf_dams : Int32} {lf_echoes : Int32} {lf_deep : Int32} {lf_slide : Int32} {la_heights : Nat → Int32} {la_ladders : Nat → Int32} {la_minutes : Nat → Int32} {la_echoFrom : Nat → Int32} {la_echoTo : Nat → Int32} {la_homes : Nat → Int32} {la_talls : Nat → Int32} {la_known : Nat → Int32} {vf_deeds : Int32} {va_kinds : Nat → Int32} {va_firsts : Nat → Int32} {va_seconds : Nat → Int32} {P5 : Int32 → Int32 → Prop} {post : Int32 → Prop} {x2 : Int32} {x3 : Int32} {x4 : Int32} {x5 : Int32} {ls : Array Slot}
    (zc : zC p s m args meth c cX3_fewestTimes 6 RX3 (some .int))
    (hK : zK E s)
    (hM : wnW E qn ql qv f_minute f_avalanches f_begun f_climbed f_seed a_huts a_known a_levels a_snow a_open lf_huts lf_singers lf_villages lf_dams lf_echoes lf_deep lf_slide la_heights la_ladders la_minutes la_echoFrom la_echoTo la_homes la_talls la_known vf_deeds va_kinds va_firsts va_seconds s.heap)
    (hP5 : ∀ (x3 : Int32) (x4 : Int32) (ls : Array Slot), P5 x3 x4 → lv_has ls 6 [(0, .ref qn), (1, .ref ql), (2, .int x2), (3, .int x3), (4, .int x4)] → W p l e rm_wn_X3_fewestTimes_6 s m args below meth c s.heap [] 0 0 (MQ below (vp_Si post) args s 0 0 (fun _ => False)) (F0 m 5 ls []))
    (hl : lv_has ls 6 [(0, .ref qn), (1, .ref ql), (2, .int x2), (3, .int x3), (4, .int x4), (5, .int x5)])
    (hw : q_wn_X3_fewestTimes_6_34 P5 f_begun f_climbed a_huts a_known a_levels lf_singers lf_dams lf_echoes la_heights la_ladders la_echoFrom la_echoTo la_talls x2 x3 x4 x5 post) :
    W p l e rm_wn_X3_fewestTimes_6 s m args below meth c s.heap [] 0 0 (MQ below (vp_Si post) args s 0 0 (fun _ => False)) (F0 m 34 ls []) := by
  have hx := zc.1
  have hb := zc.2.1
  refine lv_aload_n hx hb dX3_fewestTimes_34 rfl (lv_at hl 0 rfl) ?_
  refine lv_aload_n hx hb dX3_fewestTimes_35 rfl (lv_at hl 1 rfl) ?_
  refine lv_iload_n hx hb dX3_fewestTimes_36 rfl (lv_at hl 2 rfl) ?_
  refine lv_iload hx hb dX3_fewestTimes_37 (lv_at hl 4 rfl) ?_
  refine zV_i [.ref ql, .int x2, .int x4] [] zc ky_X3_spreads kz_X3_spreads km_3_193 (c_wn_X3_spreads_6 l hw) (wnPreV0 hK hM) rfl rfl hl.1 (Nat.le_of_ble_eq_true rfl) ⟨rfl, rfl⟩ ⟨Nat.le_of_ble_eq_true rfl, Nat.le_of_ble_eq_true rfl⟩ ⟨(Nat.zero_le _), (Nat.zero_le _)⟩ dX3_fewestTimes_39 (fun r_1 hw => ?_)
  refine lv_if_eq (tgt := 48) hx hb dX3_fewestTimes_42 (by decide) (fun hc => ?_) (fun hc => ?_)
  · have hw := hw.1 hc
    exact t_wn_X3_fewestTimes_6_48 zc hK hM hP5 (lv_sub hl [0, 1, 2, 3, 4] rfl) hw
  · have hw := hw.2 hc
    refine lv_iload hx hb dX3_fewestTimes_45 (lv_at hl 5 rfl) ?_
    refine lv_istore_n (lv' := [(3, .int x5), (0, .ref qn), (1, .ref ql), (2, .int x2), (4, .int x4), (5, .int x5)]) hx hb dX3_fewestTimes_47 rfl hl (by decide) rfl (fun ls hl => ?_)
    exact t_wn_X3_fewestTimes_6_48 zc hK hM hP5 (lv_sub hl [1, 2, 3, 0, 4] rfl) hw
set_option maxRecDepth 20000 in
theorem t_wn_X3_fewestTimes_6_5 {p : Program} {l : Launch} {e : Env} {s : State} {m : MethodId} {args : Array Value} {below : List Frame} {meth : Method} {c : Code} {E : zE} {qn ql qv : Nat} {f_minute : Int32} {f_avalanches : Int32} {f_begun : Int32} {f_climbed : Int32} {f_seed : Int32} {a_huts : Nat → Int32} {a_known : Nat → Int32} {a_levels : Nat → Int32} {a_snow : Nat → Int32} {a_open : Nat → Int32} {lf_huts : Int32} {lf_singers : Int32} {lf_villages : Int32} {lf_dams : Int32} {lf_echoes : Int32} {lf_deep : Int32} {lf_slide : Int32} {la_heights : Nat → Int32} {la_ladders : Nat → Int32} {la_minutes : Nat → Int32} {la_echoFrom : Nat → Int32} {la_echoTo : Nat → Int32} {la_homes : Nat → Int32} {la_talls : Nat → Int32} {la_known : Nat → Int32} {vf_deeds : Int32} {va_kinds : Nat → Int32} {va_firsts : Nat → Int32} {va_seconds : Nat → Int32} {post : Int32 → Prop} {x2 : Int32} {x3 : Int32} {x4 : Int32} {ls : Array Slot}
    (zc : zC p s m args meth c cX3_fewestTimes 6 RX3 (some .int))
    (hK : zK E s)
    (hM : wnW E qn ql qv f_minute f_avalanches f_begun f_climbed f_seed a_huts a_known a_levels a_snow a_open lf_huts lf_singers lf_villages lf_dams lf_echoes lf_deep lf_slide la_heights la_ladders la_minutes la_echoFrom la_echoTo la_homes la_talls la_known vf_deeds va_kinds va_firsts va_seconds s.heap)
    (hl : lv_has ls 6 [(0, .ref qn), (1, .ref ql), (2, .int x2), (3, .int x3), (4, .int x4)])
    (hw : q_wn_X3_fewestTimes_6_5 f_begun f_climbed a_huts a_known a_levels lf_singers lf_dams lf_echoes la_heights la_ladders la_echoFrom la_echoTo la_talls x2 x3 x4 post) :
    W p l e rm_wn_X3_fewestTimes_6 s m args below meth c s.heap [] 0 0 (MQ below (vp_Si post) args s 0 0 (fun _ => False)) (F0 m 5 ls []) := by
  have hx := zc.1
  have hb := zc.2.1
  refine hw (fun x3 x4 => ∀ (ls : Array Slot), lv_has ls 6 [(0, .ref qn), (1, .ref ql), (2, .int x2), (3, .int x3), (4, .int x4)] → W p l e rm_wn_X3_fewestTimes_6 s m args below meth c s.heap [] 0 0 (MQ below (vp_Si post) args s 0 0 (fun _ => False)) (F0 m 5 ls [])) ?_ _ hl
  intro x3 x4 hw ls hl
  refine lv_iload hx hb dX3_fewestTimes_5 (lv_at hl 4 rfl) ?_
  refine lv_iconst (v := (1 : Int32)) hx hb dX3_fewestTimes_7 (by decide) ?_
  refine lv_aload_n hx hb dX3_fewestTimes_8 rfl (lv_at hl 1 rfl) ?_
  refine wng_3_53_6 zc hK hM dX3_fewestTimes_9 ?_
  refine lv_ishl hx hb dX3_fewestTimes_12 ?_
  refine lv_icmp_ge (tgt := 54) hx hb dX3_fewestTimes_13 (by decide) (fun hc => ?_) (fun hc => ?_)
  · have hw := hw.1 hc
    refine lv_iload_n hx hb dX3_fewestTimes_54 rfl (lv_at hl 3 rfl) ?_
    exact zret_i zc hw dX3_fewestTimes_55
  · have hw := hw.2 hc
    refine lv_iload hx hb dX3_fewestTimes_16 (lv_at hl 4 rfl) ?_
    refine zS_i [.int x4] [] zc ky_J6_bitCount_0f7a4 kz_J6_bitCount_0f7a4 km_3_159 (c_z_J6_bitCount_0f7a4 l hw) (zPre0 _) rfl rfl hl.1 (Nat.le_of_ble_eq_true rfl) ⟨rfl, rfl⟩ ⟨Nat.le_of_ble_eq_true rfl, Nat.le_of_ble_eq_true rfl⟩ ⟨(Nat.zero_le _), (Nat.zero_le _)⟩ dX3_fewestTimes_18 (fun r_1 hw => ?_)
    refine lv_istore (lv' := [(5, .int r_1), (0, .ref qn), (1, .ref ql), (2, .int x2), (3, .int x3), (4, .int x4)]) hx hb dX3_fewestTimes_21 hl (by decide) rfl (fun ls hl => ?_)
    refine lv_iload_n hx hb dX3_fewestTimes_23 rfl (lv_at hl 4 rfl) ?_
    refine lv_iconst (v := (-1 : Int32)) hx hb dX3_fewestTimes_24 (by decide) ?_
    refine lv_icmp_eq (tgt := 34) hx hb dX3_fewestTimes_25 (by decide) (fun hc => ?_) (fun hc => ?_)
    · have hw := hw.1 hc
      exact t_wn_X3_fewestTimes_6_34 zc hK hM (fun _ _ ls h hl => h ls hl) (lv_sub hl [1, 2, 3, 4, 5, 0] rfl) hw
    · have hw := hw.2 hc
      refine lv_iload hx hb dX3_fewestTimes_28 (lv_at hl 0 rfl) ?_
      refine lv_iload_n hx hb dX3_fewestTimes_30 rfl (lv_at hl 4 rfl) ?_
      refine lv_icmp_ge (tgt := 48) hx hb dX3_fewestTimes_31 (by decide) (fun hc => ?_) (fun hc => ?_)
      · have hw := hw.1 hc
        exact t_wn_X3_fewestTimes_6_48 zc hK hM (fun _ _ ls h hl => h ls hl) (lv_sub hl [1, 2, 3, 4, 5] rfl) hw
      · have hw := hw.2 hc
        exact t_wn_X3_fewestTimes_6_34 zc hK hM (fun _ _ ls h hl => h ls hl) (lv_sub hl [1, 2, 3, 4, 5, 0] rfl) hw
set_option maxRecDepth 20000 in
theorem t_wn_X3_fewestTimes_6_0 {p : Program} {l : Launch} {e : Env} {s : State} {m : MethodId} {args : Array Value} {below : List Frame} {meth : Method} {c : Code} {E : zE} {qn ql qv : Nat} {f_minute : Int32} {f_avalanches : Int32} {f_begun : Int32} {f_climbed : Int32} {f_seed : Int32} {a_huts : Nat → Int32} {a_known : Nat → Int32} {a_levels : Nat → Int32} {a_snow : Nat → Int32} {a_open : Nat → Int32} {lf_huts : Int32} {lf_singers : Int32} {lf_villages : Int32} {lf_dams : Int32} {lf_echoes : Int32} {lf_deep : Int32} {lf_slide : Int32} {la_heights : Nat → Int32} {la_ladders : Nat → Int32} {la_minutes : Nat → Int32} {la_echoFrom : Nat → Int32} {la_echoTo : Nat → Int32} {la_homes : Nat → Int32} {la_talls : Nat → Int32} {la_known : Nat → Int32} {vf_deeds : Int32} {va_kinds : Nat → Int32} {va_firsts : Nat → Int32} {va_seconds : Nat → Int32} {post : Int32 → Prop} {x2 : Int32} {ls : Array Slot}
    (zc : zC p s m args meth c cX3_fewestTimes 6 RX3 (some .int))
    (hK : zK E s)
    (hM : wnW E qn ql qv f_minute f_avalanches f_begun f_climbed f_seed a_huts a_known a_levels a_snow a_open lf_huts lf_singers lf_villages lf_dams lf_echoes lf_deep lf_slide la_heights la_ladders la_minutes la_echoFrom la_echoTo la_homes la_talls la_known vf_deeds va_kinds va_firsts va_seconds s.heap)
    (hl : lv_has ls 6 [(0, .ref qn), (1, .ref ql), (2, .int x2)])
    (hw : q_wn_X3_fewestTimes_6_0 f_begun f_climbed a_huts a_known a_levels lf_singers lf_dams lf_echoes la_heights la_ladders la_echoFrom la_echoTo la_talls x2 post) :
    W p l e rm_wn_X3_fewestTimes_6 s m args below meth c s.heap [] 0 0 (MQ below (vp_Si post) args s 0 0 (fun _ => False)) (F0 m 0 ls []) := by
  have hx := zc.1
  have hb := zc.2.1
  refine lv_iconst (v := (-1 : Int32)) hx hb dX3_fewestTimes_0 (by decide) ?_
  refine lv_istore_n (lv' := [(3, .int (-1 : Int32)), (0, .ref qn), (1, .ref ql), (2, .int x2)]) hx hb dX3_fewestTimes_1 rfl hl (by decide) rfl (fun ls hl => ?_)
  refine lv_iconst (v := (0 : Int32)) hx hb dX3_fewestTimes_2 (by decide) ?_
  refine lv_istore (lv' := [(4, .int (0 : Int32)), (3, .int (-1 : Int32)), (0, .ref qn), (1, .ref ql), (2, .int x2)]) hx hb dX3_fewestTimes_3 hl (by decide) rfl (fun ls hl => ?_)
  exact t_wn_X3_fewestTimes_6_5 zc hK hM  (lv_sub hl [2, 3, 4, 1, 0] rfl) hw
set_option maxRecDepth 20000 in
theorem c_wn_X3_fewestTimes_6 (l : Launch) {E : zE} {qn ql qv : Nat} {f_minute : Int32} {f_avalanches : Int32} {f_begun : Int32} {f_climbed : Int32} {f_seed : Int32} {a_huts : Nat → Int32} {a_known : Nat → Int32} {a_levels : Nat → Int32} {a_snow : Nat → Int32} {a_open : Nat → Int32} {lf_huts : Int32} {lf_singers : Int32} {lf_villages : Int32} {lf_dams : Int32} {lf_echoes : Int32} {lf_deep : Int32} {lf_slide : Int32} {la_heights : Nat → Int32} {la_ladders : Nat → Int32} {la_minutes : Nat → Int32} {la_echoFrom : Nat → Int32} {la_echoTo : Nat → Int32} {la_homes : Nat → Int32} {la_talls : Nat → Int32} {la_known : Nat → Int32} {vf_deeds : Int32} {va_kinds : Nat → Int32} {va_firsts : Nat → Int32} {va_seconds : Nat → Int32} {x2 : Int32} {post : Int32 → Prop} (hw : q_wn_X3_fewestTimes_6_0 f_begun f_climbed a_huts a_known a_levels lf_singers lf_dams lf_echoes la_heights la_ladders la_echoFrom la_echoTo la_talls x2 post) : Met l yX3_fewestTimes (Cond.code yX3_fewestTimes cX3_fewestTimes 6 (some .int) :: zb) rm_wn_X3_fewestTimes_6 (va_Pc [.ref qn, .ref ql, .int x2] (fun U => wnW E qn ql qv f_minute f_avalanches f_begun f_climbed f_seed a_huts a_known a_levels a_snow a_open lf_huts lf_singers lf_villages lf_dams lf_echoes lf_deep lf_slide la_heights la_ladders la_minutes la_echoFrom la_echoTo la_homes la_talls la_known vf_deeds va_kinds va_firsts va_seconds U.heap ∧ zK E U)) (vp_Si post) 0 0 (fun _ => False) := by
  refine Met.ofW (cc := cX3_fewestTimes) (maxL := 6) (ret := (some .int)) (by decide) rfl ?_
  intro p e s m args below meth c s₁ B hml hv
  obtain ⟨rfl, hM, hK⟩ := hv
  have zc := zc_of B hml
  have hl := lv_entry ([.ref qn, .ref ql, .int x2]) (n := 6) (Nat.le_of_ble_eq_true rfl)
  rw [lg_entry_eq]
  generalize (lg_sl ([.ref qn, .ref ql, .int x2]) ++ List.replicate (6 - (lg_sl ([.ref qn, .ref ql, .int x2])).length) Slot.unset).toArray = ls at hl ⊢
  have hl : lv_has ls 6 [(0, .ref qn), (1, .ref ql), (2, .int x2)] := hl
  exact t_wn_X3_fewestTimes_6_0 zc hK hM (lv_sub hl [0, 1, 2] rfl) hw
end
section
-- wp_J7_fill_53178_1
abbrev rm_wp_J7_fill_53178_1 : Room := { frames := 0, cells := 0, slots := 0, locals := 0 }
def q_wp_J7_fill_53178_1_5 (a_heard : Nat → Int32) (x1 : Int32) (x2 : Int32) (x3 : Int32) (post : (Nat → Int32) → Prop) : Prop :=
  ∀ P5 : Int32 → (Nat → Int32) → Prop, (∀ (x2 : Int32) (a_heard : Nat → Int32), ((x3 ≤ x2 → (post a_heard)) ∧ (¬ x3 ≤ x2 → (vp_in x2 81 ∧ (∀ a_heard_1 : Nat → Int32, a_heard_1 = upd a_heard (Int32.toNatClampNeg x2) x1 → (∀ v_1 : Int32, v_1 = x2 + (1 : Int32) → (P5 v_1 a_heard_1)))))) → P5 x2 a_heard) → P5 x2 a_heard
def q_wp_J7_fill_53178_1_0 (a_heard : Nat → Int32) (x1 : Int32) (post : (Nat → Int32) → Prop) : Prop :=
  q_wp_J7_fill_53178_1_5 a_heard x1 (0 : Int32) (81 : Int32) post
set_option maxRecDepth 20000 in
theorem t_wp_J7_fill_53178_1_5 {p : Program} {l : Launch} {e : Env} {s : State} {m : MethodId} {args : Array Value} {below : List Frame} {meth : Method} {c : Code} {E : zE} {qp ql qs : Nat} {a_heard : Nat → Int32} {a_walked : Nat → Int32} {a_total : Nat → Int32} {a_longest : Nat → Int32} {a_next : Nat → Int32} {a_cover : Nat → Int32} {a_now : Nat → Int32} {a_then : Nat → Int32} {lf_huts : Int32} {lf_singers : Int32} {lf_villages : Int32} {lf_dams : Int32} {lf_echoes : Int32} {lf_deep : Int32} {lf_slide : Int32} {la_heights : Nat → Int32} {la_ladders : Nat → Int32} {la_minutes : Nat → Int32} {la_echoFrom : Nat → Int32} {la_echoTo : Nat → Int32} {la_homes : Nat → Int32} {la_talls : Nat → Int32} {la_known : Nat → Int32} {sf_facts : Int32} {sa_heard : Nat → Int32} {sa_huts : Nat → Int32} {sa_minutes : Nat → Int32} {post : (Nat → Int32) → Prop} {x1 : Int32} {x2 : Int32} {x3 : Int32} {ls : Array Slot} {H : Heap} {locs : List Loc}
    (zc : zC p s m args meth c cJ7_fill_53178 4 RJ7 none)
    (hK : zK E s)
    (hM : wpW E qp ql qs a_heard a_walked a_total a_longest a_next a_cover a_now a_then lf_huts lf_singers lf_villages lf_dams lf_echoes lf_deep lf_slide la_heights la_ladders la_minutes la_echoFrom la_echoTo la_homes la_talls la_known sf_facts sa_heard sa_huts sa_minutes H)
    (hS : va_S (wpA qp ql qs) s.heap H locs)
    (hl : lv_has ls 4 [(0, .ref (qp + 1)), (1, .int x1), (2, .int x2), (3, .int x3)])
    (hw : q_wp_J7_fill_53178_1_5 a_heard x1 x2 x3 post) :
    W p l e rm_wp_J7_fill_53178_1 s m args below meth c H locs 0 0 (MQ below (zQv (S := (Nat → Int32)) (fun u => post u) (fun u H => wpW E qp ql qs u a_walked a_total a_longest a_next a_cover a_now a_then lf_huts lf_singers lf_villages lf_dams lf_echoes lf_deep lf_slide la_heights la_ladders la_minutes la_echoFrom la_echoTo la_homes la_talls la_known sf_facts sa_heard sa_huts sa_minutes H) (wpA qp ql qs)) args s 0 0 (wpA qp ql qs)) (F0 m 5 ls []) := by
  have hx := zc.1
  have hb := zc.2.1
  refine hw (fun x2 a_heard => ∀ (H : Heap) (locs : List Loc) (ls : Array Slot), lv_has ls 4 [(0, .ref (qp + 1)), (1, .int x1), (2, .int x2), (3, .int x3)] → wpW E qp ql qs a_heard a_walked a_total a_longest a_next a_cover a_now a_then lf_huts lf_singers lf_villages lf_dams lf_echoes lf_deep lf_slide la_heights la_ladders la_minutes la_echoFrom la_echoTo la_homes la_talls la_known sf_facts sa_heard sa_huts sa_minutes H → va_S (wpA qp ql qs) s.heap H locs → W p l e rm_wp_J7_fill_53178_1 s m args below meth c H locs 0 0 (MQ below (zQv (S := (Nat → Int32)) (fun u => post u) (fun u H => wpW E qp ql qs u a_walked a_total a_longest a_next a_cover a_now a_then lf_huts lf_singers lf_villages lf_dams lf_echoes lf_deep lf_slide la_heights la_ladders la_minutes la_echoFrom la_echoTo la_homes la_talls la_known sf_facts sa_heard sa_huts sa_minutes H) (wpA qp ql qs)) args s 0 0 (wpA qp ql qs)) (F0 m 5 ls [])) ?_ _ _ _ hl hM hS
  intro x2 a_heard hw H locs ls hl hM hS
  refine lv_iload_n hx hb dJ7_fill_53178_5 rfl (lv_at hl 2 rfl) ?_
  refine lv_iload_n hx hb dJ7_fill_53178_6 rfl (lv_at hl 3 rfl) ?_
  refine lv_icmp_ge (tgt := 20) hx hb dJ7_fill_53178_7 (by decide) (fun hc => ?_) (fun hc => ?_)
  · have hw := hw.1 hc
    exact zret_vw a_heard zc hS hw hM dJ7_fill_53178_20
  · have hw := hw.2 hc
    refine lv_aload_n hx hb dJ7_fill_53178_10 rfl (lv_at hl 0 rfl) ?_
    refine lv_iload_n hx hb dJ7_fill_53178_11 rfl (lv_at hl 2 rfl) ?_
    refine lv_iload_n hx hb dJ7_fill_53178_12 rfl (lv_at hl 1 rfl) ?_
    refine wpst_1 zc hK hM hS hw.1 dJ7_fill_53178_13 (fun a_heard_1 H locs ea_heard_1 hM hS => ?_)
    have hw := hw.2 a_heard_1 ea_heard_1
    obtain ⟨v_1, ev_1⟩ : ∃ y : Int32, y = x2 + (1 : Int32) := ⟨_, rfl⟩
    have hw := hw v_1 ev_1
    refine lv_iinc (v := v_1) (k := 2) (lv' := [(2, .int v_1), (0, .ref (qp + 1)), (1, .int x1), (3, .int x3)]) hx hb dJ7_fill_53178_14 hl rfl (by rw [ev_1]; rfl) (by decide) rfl (fun ls hl => ?_)
    refine lv_goto (tgt := 5) hx hb dJ7_fill_53178_17 (by decide) ?_
    exact hw _ _ _ (lv_sub hl [1, 2, 0, 3] rfl) hM hS
set_option maxRecDepth 20000 in
theorem t_wp_J7_fill_53178_1_0 {p : Program} {l : Launch} {e : Env} {s : State} {m : MethodId} {args : Array Value} {below : List Frame} {meth : Method} {c : Code} {E : zE} {qp ql qs : Nat} {a_heard : Nat → Int32} {a_walked : Nat → Int32} {a_total : Nat → Int32} {a_longest : Nat → Int32} {a_next : Nat → Int32} {a_cover : Nat → Int32} {a_now : Nat → Int32} {a_then : Nat → Int32} {lf_huts : Int32} {lf_singers : Int32} {lf_villages : Int32} {lf_dams : Int32} {lf_echoes : Int32} {lf_deep : Int32} {lf_slide : Int32} {la_heights : Nat → Int32} {la_ladders : Nat → Int32} {la_minutes : Nat → Int32} {la_echoFrom : Nat → Int32} {la_echoTo : Nat → Int32} {la_homes : Nat → Int32} {la_talls : Nat → Int32} {la_known : Nat → Int32} {sf_facts : Int32} {sa_heard : Nat → Int32} {sa_huts : Nat → Int32} {sa_minutes : Nat → Int32} {post : (Nat → Int32) → Prop} {x1 : Int32} {ls : Array Slot} {H : Heap} {locs : List Loc}
    (zc : zC p s m args meth c cJ7_fill_53178 4 RJ7 none)
    (hK : zK E s)
    (hM : wpW E qp ql qs a_heard a_walked a_total a_longest a_next a_cover a_now a_then lf_huts lf_singers lf_villages lf_dams lf_echoes lf_deep lf_slide la_heights la_ladders la_minutes la_echoFrom la_echoTo la_homes la_talls la_known sf_facts sa_heard sa_huts sa_minutes H)
    (hS : va_S (wpA qp ql qs) s.heap H locs)
    (hl : lv_has ls 4 [(0, .ref (qp + 1)), (1, .int x1)])
    (hw : q_wp_J7_fill_53178_1_0 a_heard x1 post) :
    W p l e rm_wp_J7_fill_53178_1 s m args below meth c H locs 0 0 (MQ below (zQv (S := (Nat → Int32)) (fun u => post u) (fun u H => wpW E qp ql qs u a_walked a_total a_longest a_next a_cover a_now a_then lf_huts lf_singers lf_villages lf_dams lf_echoes lf_deep lf_slide la_heights la_ladders la_minutes la_echoFrom la_echoTo la_homes la_talls la_known sf_facts sa_heard sa_huts sa_minutes H) (wpA qp ql qs)) args s 0 0 (wpA qp ql qs)) (F0 m 0 ls []) := by
  have hx := zc.1
  have hb := zc.2.1
  refine lv_iconst (v := (0 : Int32)) hx hb dJ7_fill_53178_0 (by decide) ?_
  refine lv_istore_n (lv' := [(2, .int (0 : Int32)), (0, .ref (qp + 1)), (1, .int x1)]) hx hb dJ7_fill_53178_1 rfl hl (by decide) rfl (fun ls hl => ?_)
  refine lv_aload_n hx hb dJ7_fill_53178_2 rfl (lv_at hl 1 rfl) ?_
  refine va_alen (v := (81 : Int32)) hx hb hK.1 hM.1 1 1 rfl rfl rfl dJ7_fill_53178_3 ?_
  refine lv_istore_n (lv' := [(3, .int (81 : Int32)), (2, .int (0 : Int32)), (0, .ref (qp + 1)), (1, .int x1)]) hx hb dJ7_fill_53178_4 rfl hl (by decide) rfl (fun ls hl => ?_)
  exact t_wp_J7_fill_53178_1_5 zc hK hM hS  (lv_sub hl [2, 3, 1, 0] rfl) hw
set_option maxRecDepth 20000 in
theorem c_wp_J7_fill_53178_1 (l : Launch) {E : zE} {qp ql qs : Nat} {a_heard : Nat → Int32} {a_walked : Nat → Int32} {a_total : Nat → Int32} {a_longest : Nat → Int32} {a_next : Nat → Int32} {a_cover : Nat → Int32} {a_now : Nat → Int32} {a_then : Nat → Int32} {lf_huts : Int32} {lf_singers : Int32} {lf_villages : Int32} {lf_dams : Int32} {lf_echoes : Int32} {lf_deep : Int32} {lf_slide : Int32} {la_heights : Nat → Int32} {la_ladders : Nat → Int32} {la_minutes : Nat → Int32} {la_echoFrom : Nat → Int32} {la_echoTo : Nat → Int32} {la_homes : Nat → Int32} {la_talls : Nat → Int32} {la_known : Nat → Int32} {sf_facts : Int32} {sa_heard : Nat → Int32} {sa_huts : Nat → Int32} {sa_minutes : Nat → Int32} {x1 : Int32} {post : (Nat → Int32) → Prop} (hw : q_wp_J7_fill_53178_1_0 a_heard x1 post) : Met l yJ7_fill_53178 (Cond.code yJ7_fill_53178 cJ7_fill_53178 4 none :: zb) rm_wp_J7_fill_53178_1 (va_Pc [.ref (qp + 1), .int x1] (fun U => wpW E qp ql qs a_heard a_walked a_total a_longest a_next a_cover a_now a_then lf_huts lf_singers lf_villages lf_dams lf_echoes lf_deep lf_slide la_heights la_ladders la_minutes la_echoFrom la_echoTo la_homes la_talls la_known sf_facts sa_heard sa_huts sa_minutes U.heap ∧ zK E U)) (zQv (S := (Nat → Int32)) (fun u => post u) (fun u H => wpW E qp ql qs u a_walked a_total a_longest a_next a_cover a_now a_then lf_huts lf_singers lf_villages lf_dams lf_echoes lf_deep lf_slide la_heights la_ladders la_minutes la_echoFrom la_echoTo la_homes la_talls la_known sf_facts sa_heard sa_huts sa_minutes H) (wpA qp ql qs)) 0 0 (wpA qp ql qs) := by
  refine Met.ofW (cc := cJ7_fill_53178) (maxL := 4) (ret := none) (by decide) rfl ?_
  intro p e s m args below meth c s₁ B hml hv
  obtain ⟨rfl, hM, hK⟩ := hv
  have zc := zc_of B hml
  have hl := lv_entry ([.ref (qp + 1), .int x1]) (n := 4) (Nat.le_of_ble_eq_true rfl)
  rw [lg_entry_eq]
  generalize (lg_sl ([.ref (qp + 1), .int x1]) ++ List.replicate (4 - (lg_sl ([.ref (qp + 1), .int x1])).length) Slot.unset).toArray = ls at hl ⊢
  have hl : lv_has ls 4 [(0, .ref (qp + 1)), (1, .int x1)] := hl
  exact t_wp_J7_fill_53178_1_0 zc hK hM va_S.rf (lv_sub hl [0, 1] rfl) hw
-- wp_X7_shorten_1
abbrev rm_wp_X7_shorten_1 : Room := { frames := 0, cells := 0, slots := 0, locals := 0 }
def q_wp_X7_shorten_1_80 (P2 : Int32 → (Nat → Int32) → Prop) (P9 : Int32 → (Nat → Int32) → Prop) (P27 : Int32 → (Nat → Int32) → Prop) (a_heard : Nat → Int32) (x1 : Int32) (x2 : Int32) (x3 : Int32) (x4 : Int32) (x5 : Int32) (post : (Nat → Int32) → Prop) : Prop :=
  ∀ v_1 : Int32, v_1 = x5 + (1 : Int32) → (P27 v_1 a_heard)
def q_wp_X7_shorten_1_86 (P2 : Int32 → (Nat → Int32) → Prop) (P9 : Int32 → (Nat → Int32) → Prop) (a_heard : Nat → Int32) (x1 : Int32) (x2 : Int32) (x3 : Int32) (post : (Nat → Int32) → Prop) : Prop :=
  ∀ v_1 : Int32, v_1 = x3 + (1 : Int32) → (P9 v_1 a_heard)
def q_wp_X7_shorten_1_27 (P2 : Int32 → (Nat → Int32) → Prop) (P9 : Int32 → (Nat → Int32) → Prop) (a_heard : Nat → Int32) (x1 : Int32) (x2 : Int32) (x3 : Int32) (x4 : Int32) (x5 : Int32) (post : (Nat → Int32) → Prop) : Prop :=
  ∀ P27 : Int32 → (Nat → Int32) → Prop, (∀ (x5 : Int32) (a_heard : Nat → Int32), ((x1 ≤ x5 → (q_wp_X7_shorten_1_86 P2 P9 a_heard x1 x2 x3 post)) ∧ (¬ x1 ≤ x5 → (((1000 : Int32) ≤ x4 → (q_wp_X7_shorten_1_86 P2 P9 a_heard x1 x2 x3 post)) ∧ (¬ (1000 : Int32) ≤ x4 → (vp_in ((x2 * (9 : Int32)) + x5) 81 ∧ (∀ v_1 : Int32, v_1 = (x4 + (a_heard (Int32.toNatClampNeg ((x2 * (9 : Int32)) + x5)))) → (vp_in ((x3 * (9 : Int32)) + x5) 81 ∧ (((a_heard (Int32.toNatClampNeg ((x3 * (9 : Int32)) + x5))) ≤ v_1 → (q_wp_X7_shorten_1_80 P2 P9 P27 a_heard x1 x2 x3 x4 x5 post)) ∧ (¬ (a_heard (Int32.toNatClampNeg ((x3 * (9 : Int32)) + x5))) ≤ v_1 → (vp_in ((x3 * (9 : Int32)) + x5) 81 ∧ (∀ a_heard_1 : Nat → Int32, a_heard_1 = upd a_heard (Int32.toNatClampNeg ((x3 * (9 : Int32)) + x5)) v_1 → (q_wp_X7_shorten_1_80 P2 P9 P27 a_heard_1 x1 x2 x3 x4 x5 post)))))))))))) → P27 x5 a_heard) → P27 x5 a_heard
def q_wp_X7_shorten_1_9 (P2 : Int32 → (Nat → Int32) → Prop) (a_heard : Nat → Int32) (x1 : Int32) (x2 : Int32) (x3 : Int32) (post : (Nat → Int32) → Prop) : Prop :=
  ∀ P9 : Int32 → (Nat → Int32) → Prop, (∀ (x3 : Int32) (a_heard : Nat → Int32), ((x1 ≤ x3 → (∀ v_1 : Int32, v_1 = x2 + (1 : Int32) → (P2 v_1 a_heard))) ∧ (¬ x1 ≤ x3 → (vp_in ((x3 * (9 : Int32)) + x2) 81 ∧ (∀ v_2 : Int32, v_2 = (a_heard (Int32.toNatClampNeg ((x3 * (9 : Int32)) + x2))) → (q_wp_X7_shorten_1_27 P2 P9 a_heard x1 x2 x3 v_2 (0 : Int32) post))))) → P9 x3 a_heard) → P9 x3 a_heard
def q_wp_X7_shorten_1_2 (a_heard : Nat → Int32) (x1 : Int32) (x2 : Int32) (post : (Nat → Int32) → Prop) : Prop :=
  ∀ P2 : Int32 → (Nat → Int32) → Prop, (∀ (x2 : Int32) (a_heard : Nat → Int32), ((x1 ≤ x2 → (post a_heard)) ∧ (¬ x1 ≤ x2 → (q_wp_X7_shorten_1_9 P2 a_heard x1 x2 (0 : Int32) post))) → P2 x2 a_heard) → P2 x2 a_heard
def q_wp_X7_shorten_1_0 (a_heard : Nat → Int32) (x1 : Int32) (post : (Nat → Int32) → Prop) : Prop :=
  q_wp_X7_shorten_1_2 a_heard x1 (0 : Int32) post
set_option maxRecDepth 20000 in
theorem t_wp_X7_shorten_1_80 {p : Program} {l : Launch} {e : Env} {s : State} {m : MethodId} {args : Array Value} {below : List Frame} {meth : Method} {c : Code} {E : zE} {qp ql qs : Nat} {a_heard : Nat → Int32} {a_walked : Nat → Int32} {a_total : Nat → Int32} {a_longest : Nat → Int32} {a_next : Nat → Int32} {a_cover : Nat → Int32} {a_now : Nat → Int32} {a_then : Nat → Int32} {lf_huts : Int32} {lf_singers : Int32} {lf_villages : Int32} {lf_dams : Int32} {lf_echoes : Int32} {lf_deep : Int32} {lf_slide : Int32} {la_heights : Nat → Int32} {la_ladders : Nat → Int32} {la_minutes : Nat → Int32} {la_echoFrom : Nat → Int32} {la_echoTo : Nat → Int32} {la_homes : Nat → Int32} {la_talls : Nat → Int32} {la_known : Nat → Int32} {sf_facts : Int32} {sa_heard : Nat → Int32} {sa_huts : Nat → Int32} {sa_minutes : Nat → Int32} {P2 : Int32 → (Nat → Int32) → Prop} {P9 : Int32 → (Nat → Int32) → Prop} {P27 : Int32 → (Nat → Int32) → Prop} {post : (Nat → Int32) → Prop} {x1 : Int32} {x2 : Int32} {x3 : Int32} {x4 : Int32} {x5 : Int32} {ls : Array Slot} {H : Heap} {locs : List Loc}
    (zc : zC p s m args meth c cX7_shorten 7 RX7 none)
    (hK : zK E s)
    (hM : wpW E qp ql qs a_heard a_walked a_total a_longest a_next a_cover a_now a_then lf_huts lf_singers lf_villages lf_dams lf_echoes lf_deep lf_slide la_heights la_ladders la_minutes la_echoFrom la_echoTo la_homes la_talls la_known sf_facts sa_heard sa_huts sa_minutes H)
    (hS : va_S (wpA qp ql qs) s.heap H locs)
    (hP2 : ∀ (x2 : Int32) (a_heard : Nat → Int32) (H : Heap) (locs : List Loc) (ls : Array Slot), P2 x2 a_heard → lv_has ls 7 [(0, .ref (qp + 1)), (1, .int x1), (2, .int x2)] → wpW E qp ql qs a_heard a_walked a_total a_longest a_next a_cover a_now a_then lf_huts lf_singers lf_villages lf_dams lf_echoes lf_deep lf_slide la_heights la_ladders la_minutes la_echoFrom la_echoTo la_homes la_talls la_known sf_facts sa_heard sa_huts sa_minutes H → va_S (wpA qp ql qs) s.heap H locs → W p l e rm_wp_X7_shorten_1 s m args below meth c H locs 0 0 (MQ below (zQv (S := (Nat → Int32)) (fun u => post u) (fun u H => wpW E qp ql qs u a_walked a_total a_longest a_next a_cover a_now a_then lf_huts lf_singers lf_villages lf_dams lf_echoes lf_deep lf_slide la_heights la_ladders la_minutes la_echoFrom la_echoTo la_homes la_talls la_known sf_facts sa_heard sa_huts sa_minutes H) (wpA qp ql qs)) args s 0 0 (wpA qp ql qs)) (F0 m 2 ls []))
    (hP9 : ∀ (x3 : Int32) (a_heard : Nat → Int32) (H : Heap) (locs : List Loc) (ls : Array Slot), P9 x3 a_heard → lv_has ls 7 [(0, .ref (qp + 1)), (1, .int x1), (2, .int x2), (3, .int x3)] → wpW E qp ql qs a_heard a_walked a_total a_longest a_next a_cover a_now a_then lf_huts lf_singers lf_villages lf_dams lf_echoes lf_deep lf_slide la_heights la_ladders la_minutes la_echoFrom la_echoTo la_homes la_talls la_known sf_facts sa_heard sa_huts sa_minutes H → va_S (wpA qp ql qs) s.heap H locs → W p l e rm_wp_X7_shorten_1 s m args below meth c H locs 0 0 (MQ below (zQv (S := (Nat → Int32)) (fun u => post u) (fun u H => wpW E qp ql qs u a_walked a_total a_longest a_next a_cover a_now a_then lf_huts lf_singers lf_villages lf_dams lf_echoes lf_deep lf_slide la_heights la_ladders la_minutes la_echoFrom la_echoTo la_homes la_talls la_known sf_facts sa_heard sa_huts sa_minutes H) (wpA qp ql qs)) args s 0 0 (wpA qp ql qs)) (F0 m 9 ls []))
    (hP27 : ∀ (x5 : Int32) (a_heard : Nat → Int32) (H : Heap) (locs : List Loc) (ls : Array Slot), P27 x5 a_heard → lv_has ls 7 [(0, .ref (qp + 1)), (1, .int x1), (2, .int x2), (3, .int x3), (4, .int x4), (5, .int x5)] → wpW E qp ql qs a_heard a_walked a_total a_longest a_next a_cover a_now a_then lf_huts lf_singers lf_villages lf_dams lf_echoes lf_deep lf_slide la_heights la_ladders la_minutes la_echoFrom la_echoTo la_homes la_talls la_known sf_facts sa_heard sa_huts sa_minutes H → va_S (wpA qp ql qs) s.heap H locs → W p l e rm_wp_X7_shorten_1 s m args below meth c H locs 0 0 (MQ below (zQv (S := (Nat → Int32)) (fun u => post u) (fun u H => wpW E qp ql qs u a_walked a_total a_longest a_next a_cover a_now a_then lf_huts lf_singers lf_villages lf_dams lf_echoes lf_deep lf_slide la_heights la_ladders la_minutes la_echoFrom la_echoTo la_homes la_talls la_known sf_facts sa_heard sa_huts sa_minutes H) (wpA qp ql qs)) args s 0 0 (wpA qp ql qs)) (F0 m 27 ls []))
    (hl : lv_has ls 7 [(0, .ref (qp + 1)), (1, .int x1), (2, .int x2), (3, .int x3), (4, .int x4), (5, .int x5)])
    (hw : q_wp_X7_shorten_1_80 P2 P9 P27 a_heard x1 x2 x3 x4 x5 post) :
    W p l e rm_wp_X7_shorten_1 s m args below meth c H locs 0 0 (MQ below (zQv (S := (Nat → Int32)) (fun u => post u) (fun u H => wpW E qp ql qs u a_walked a_total a_longest a_next a_cover a_now a_then lf_huts lf_singers lf_villages lf_dams lf_echoes lf_deep lf_slide la_heights la_ladders la_minutes la_echoFrom la_echoTo la_homes la_talls la_known sf_facts sa_heard sa_huts sa_minutes H) (wpA qp ql qs)) args s 0 0 (wpA qp ql qs)) (F0 m 80 ls []) := by
  have hx := zc.1
  have hb := zc.2.1
  obtain ⟨v_1, ev_1⟩ : ∃ y : Int32, y = x5 + (1 : Int32) := ⟨_, rfl⟩
  have hw := hw v_1 ev_1
  refine lv_iinc (v := v_1) (k := 5) (lv' := [(5, .int v_1), (0, .ref (qp + 1)), (1, .int x1), (2, .int x2), (3, .int x3), (4, .int x4)]) hx hb dX7_shorten_80 hl rfl (by rw [ev_1]; rfl) (by decide) rfl (fun ls hl => ?_)
  refine lv_goto (tgt := 27) hx hb dX7_shorten_83 (by decide) ?_
  exact hP27 _ _ _ _ _ hw (lv_sub hl [1, 2, 3, 4, 5, 0] rfl) hM hS
set_option maxRecDepth 20000 in
theorem t_wp_X7_shorten_1_86 {p : Program} {l : Launch} {e : Env} {s : State} {m : MethodId} {args : Array Value} {below : List Frame} {meth : Method} {c : Code} {E : zE} {qp ql qs : Nat} {a_heard : Nat → Int32} {a_walked : Nat → Int32} {a_total : Nat → Int32} {a_longest : Nat → Int32} {a_next : Nat → Int32} {a_cover : Nat → Int32} {a_now : Nat → Int32} {a_then : Nat → Int32} {lf_huts : Int32} {lf_singers : Int32} {lf_villages : Int32} {lf_dams : Int32} {lf_echoes : Int32} {lf_deep : Int32} {lf_slide : Int32} {la_heights : Nat → Int32} {la_ladders : Nat → Int32} {la_minutes : Nat → Int32} {la_echoFrom : Nat → Int32} {la_echoTo : Nat → Int32} {la_homes : Nat → Int32} {la_talls : Nat → Int32} {la_known : Nat → Int32} {sf_facts : Int32} {sa_heard : Nat → Int32} {sa_huts : Nat → Int32} {sa_minutes : Nat → Int32} {P2 : Int32 → (Nat → Int32) → Prop} {P9 : Int32 → (Nat → Int32) → Prop} {post : (Nat → Int32) → Prop} {x1 : Int32} {x2 : Int32} {x3 : Int32} {ls : Array Slot} {H : Heap} {locs : List Loc}
    (zc : zC p s m args meth c cX7_shorten 7 RX7 none)
    (hK : zK E s)
    (hM : wpW E qp ql qs a_heard a_walked a_total a_longest a_next a_cover a_now a_then lf_huts lf_singers lf_villages lf_dams lf_echoes lf_deep lf_slide la_heights la_ladders la_minutes la_echoFrom la_echoTo la_homes la_talls la_known sf_facts sa_heard sa_huts sa_minutes H)
    (hS : va_S (wpA qp ql qs) s.heap H locs)
    (hP2 : ∀ (x2 : Int32) (a_heard : Nat → Int32) (H : Heap) (locs : List Loc) (ls : Array Slot), P2 x2 a_heard → lv_has ls 7 [(0, .ref (qp + 1)), (1, .int x1), (2, .int x2)] → wpW E qp ql qs a_heard a_walked a_total a_longest a_next a_cover a_now a_then lf_huts lf_singers lf_villages lf_dams lf_echoes lf_deep lf_slide la_heights la_ladders la_minutes la_echoFrom la_echoTo la_homes la_talls la_known sf_facts sa_heard sa_huts sa_minutes H → va_S (wpA qp ql qs) s.heap H locs → W p l e rm_wp_X7_shorten_1 s m args below meth c H locs 0 0 (MQ below (zQv (S := (Nat → Int32)) (fun u => post u) (fun u H => wpW E qp ql qs u a_walked a_total a_longest a_next a_cover a_now a_then lf_huts lf_singers lf_villages lf_dams lf_echoes lf_deep lf_slide la_heights la_ladders la_minutes la_echoFrom la_echoTo la_homes la_talls la_known sf_facts sa_heard sa_huts sa_minutes H) (wpA qp ql qs)) args s 0 0 (wpA qp ql qs)) (F0 m 2 ls []))
    (hP9 : ∀ (x3 : Int32) (a_heard : Nat → Int32) (H : Heap) (locs : List Loc) (ls : Array Slot), P9 x3 a_heard → lv_has ls 7 [(0, .ref (qp + 1)), (1, .int x1), (2, .int x2), (3, .int x3)] → wpW E qp ql qs a_heard a_walked a_total a_longest a_next a_cover a_now a_then lf_huts lf_singers lf_villages lf_dams lf_echoes lf_deep lf_slide la_heights la_ladders la_minutes la_echoFrom la_echoTo la_homes la_talls la_known sf_facts sa_heard sa_huts sa_minutes H → va_S (wpA qp ql qs) s.heap H locs → W p l e rm_wp_X7_shorten_1 s m args below meth c H locs 0 0 (MQ below (zQv (S := (Nat → Int32)) (fun u => post u) (fun u H => wpW E qp ql qs u a_walked a_total a_longest a_next a_cover a_now a_then lf_huts lf_singers lf_villages lf_dams lf_echoes lf_deep lf_slide la_heights la_ladders la_minutes la_echoFrom la_echoTo la_homes la_talls la_known sf_facts sa_heard sa_huts sa_minutes H) (wpA qp ql qs)) args s 0 0 (wpA qp ql qs)) (F0 m 9 ls []))
    (hl : lv_has ls 7 [(0, .ref (qp + 1)), (1, .int x1), (2, .int x2), (3, .int x3)])
    (hw : q_wp_X7_shorten_1_86 P2 P9 a_heard x1 x2 x3 post) :
    W p l e rm_wp_X7_shorten_1 s m args below meth c H locs 0 0 (MQ below (zQv (S := (Nat → Int32)) (fun u => post u) (fun u H => wpW E qp ql qs u a_walked a_total a_longest a_next a_cover a_now a_then lf_huts lf_singers lf_villages lf_dams lf_echoes lf_deep lf_slide la_heights la_ladders la_minutes la_echoFrom la_echoTo la_homes la_talls la_known sf_facts sa_heard sa_huts sa_minutes H) (wpA qp ql qs)) args s 0 0 (wpA qp ql qs)) (F0 m 86 ls []) := by
  have hx := zc.1
  have hb := zc.2.1
  obtain ⟨v_1, ev_1⟩ : ∃ y : Int32, y = x3 + (1 : Int32) := ⟨_, rfl⟩
  have hw := hw v_1 ev_1
  refine lv_iinc (v := v_1) (k := 3) (lv' := [(3, .int v_1), (0, .ref (qp + 1)), (1, .int x1), (2, .int x2)]) hx hb dX7_shorten_86 hl rfl (by rw [ev_1]; rfl) (by decide) rfl (fun ls hl => ?_)
  refine lv_goto (tgt := 9) hx hb dX7_shorten_89 (by decide) ?_
  exact hP9 _ _ _ _ _ hw (lv_sub hl [1, 2, 3, 0] rfl) hM hS
set_option maxRecDepth 20000 in
theorem t_wp_X7_shorten_1_27 {p : Program} {l : Launch} {e : Env} {s : State} {m : MethodId} {args : Array Value} {below : List Frame} {meth : Method} {c : Code} {E : zE} {qp ql qs : Nat} {a_heard : Nat → Int32} {a_walked : Nat → Int32} {a_total : Nat → Int32} {a_longest : Nat → Int32} {a_next : Nat → Int32} {a_cover : Nat → Int32} {a_now : Nat → Int32} {a_then : Nat → Int32} {lf_huts : Int32} {lf_singers : Int32} {lf_villages : Int32} {lf_dams : Int32} {lf_echoes : Int32} {lf_deep : Int32} {lf_slide : Int32} {la_heights : Nat → Int32} {la_ladders : Nat → Int32} {la_minutes : Nat → Int32} {la_echoFrom : Nat → Int32} {la_echoTo : Nat → Int32} {la_homes : Nat → Int32} {la_talls : Nat → Int32} {la_known : Nat → Int32} {sf_facts : Int32} {sa_heard : Nat → Int32} {sa_huts : Nat → Int32} {sa_minutes : Nat → Int32} {P2 : Int32 → (Nat → Int32) → Prop} {P9 : Int32 → (Nat → Int32) → Prop} {post : (Nat → Int32) → Prop} {x1 : Int32} {x2 : Int32} {x3 : Int32} {x4 : Int32} {x5 : Int32} {ls : Array Slot} {H : Heap} {locs : List Loc}
    (zc : zC p s m args meth c cX7_shorten 7 RX7 none)
    (hK : zK E s)
    (hM : wpW E qp ql qs a_heard a_walked a_total a_longest a_next a_cover a_now a_then lf_huts lf_singers lf_villages lf_dams lf_echoes lf_deep lf_slide la_heights la_ladders la_minutes la_echoFrom la_echoTo la_homes la_talls la_known sf_facts sa_heard sa_huts sa_minutes H)
    (hS : va_S (wpA qp ql qs) s.heap H locs)
    (hP2 : ∀ (x2 : Int32) (a_heard : Nat → Int32) (H : Heap) (locs : List Loc) (ls : Array Slot), P2 x2 a_heard → lv_has ls 7 [(0, .ref (qp + 1)), (1, .int x1), (2, .int x2)] → wpW E qp ql qs a_heard a_walked a_total a_longest a_next a_cover a_now a_then lf_huts lf_singers lf_villages lf_dams lf_echoes lf_deep lf_slide la_heights la_ladders la_minutes la_echoFrom la_echoTo la_homes la_talls la_known sf_facts sa_heard sa_huts sa_minutes H → va_S (wpA qp ql qs) s.heap H locs → W p l e rm_wp_X7_shorten_1 s m args below meth c H locs 0 0 (MQ below (zQv (S := (Nat → Int32)) (fun u => post u) (fun u H => wpW E qp ql qs u a_walked a_total a_longest a_next a_cover a_now a_then lf_huts lf_singers lf_villages lf_dams lf_echoes lf_deep lf_slide la_heights la_ladders la_minutes la_echoFrom la_echoTo la_homes la_talls la_known sf_facts sa_heard sa_huts sa_minutes H) (wpA qp ql qs)) args s 0 0 (wpA qp ql qs)) (F0 m 2 ls []))
    (hP9 : ∀ (x3 : Int32) (a_heard : Nat → Int32) (H : Heap) (locs : List Loc) (ls : Array Slot), P9 x3 a_heard → lv_has ls 7 [(0, .ref (qp + 1)), (1, .int x1), (2, .int x2), (3, .int x3)] → wpW E qp ql qs a_heard a_walked a_total a_longest a_next a_cover a_now a_then lf_huts lf_singers lf_villages lf_dams lf_echoes lf_deep lf_slide la_heights la_ladders la_minutes la_echoFrom la_echoTo la_homes la_talls la_known sf_facts sa_heard sa_huts sa_minutes H → va_S (wpA qp ql qs) s.heap H locs → W p l e rm_wp_X7_shorten_1 s m args below meth c H locs 0 0 (MQ below (zQv (S := (Nat → Int32)) (fun u => post u) (fun u H => wpW E qp ql qs u a_walked a_total a_longest a_next a_cover a_now a_then lf_huts lf_singers lf_villages lf_dams lf_echoes lf_deep lf_slide la_heights la_ladders la_minutes la_echoFrom la_echoTo la_homes la_talls la_known sf_facts sa_heard sa_huts sa_minutes H) (wpA qp ql qs)) args s 0 0 (wpA qp ql qs)) (F0 m 9 ls []))
    (hl : lv_has ls 7 [(0, .ref (qp + 1)), (1, .int x1), (2, .int x2), (3, .int x3), (4, .int x4), (5, .int x5)])
    (hw : q_wp_X7_shorten_1_27 P2 P9 a_heard x1 x2 x3 x4 x5 post) :
    W p l e rm_wp_X7_shorten_1 s m args below meth c H locs 0 0 (MQ below (zQv (S := (Nat → Int32)) (fun u => post u) (fun u H => wpW E qp ql qs u a_walked a_total a_longest a_next a_cover a_now a_then lf_huts lf_singers lf_villages lf_dams lf_echoes lf_deep lf_slide la_heights la_ladders la_minutes la_echoFrom la_echoTo la_homes la_talls la_known sf_facts sa_heard sa_huts sa_minutes H) (wpA qp ql qs)) args s 0 0 (wpA qp ql qs)) (F0 m 27 ls []) := by
  have hx := zc.1
  have hb := zc.2.1
  refine hw (fun x5 a_heard => ∀ (H : Heap) (locs : List Loc) (ls : Array Slot), lv_has ls 7 [(0, .ref (qp + 1)), (1, .int x1), (2, .int x2), (3, .int x3), (4, .int x4), (5, .int x5)] → wpW E qp ql qs a_heard a_walked a_total a_longest a_next a_cover a_now a_then lf_huts lf_singers lf_villages lf_dams lf_echoes lf_deep lf_slide la_heights la_ladders la_minutes la_echoFrom la_echoTo la_homes la_talls la_known sf_facts sa_heard sa_huts sa_minutes H → va_S (wpA qp ql qs) s.heap H locs → W p l e rm_wp_X7_shorten_1 s m args below meth c H locs 0 0 (MQ below (zQv (S := (Nat → Int32)) (fun u => post u) (fun u H => wpW E qp ql qs u a_walked a_total a_longest a_next a_cover a_now a_then lf_huts lf_singers lf_villages lf_dams lf_echoes lf_deep lf_slide la_heights la_ladders la_minutes la_echoFrom la_echoTo la_homes la_talls la_known sf_facts sa_heard sa_huts sa_minutes H) (wpA qp ql qs)) args s 0 0 (wpA qp ql qs)) (F0 m 27 ls [])) ?_ _ _ _ hl hM hS
  intro x5 a_heard hw H locs ls hl hM hS
  refine lv_iload hx hb dX7_shorten_27 (lv_at hl 5 rfl) ?_
  refine lv_iload_n hx hb dX7_shorten_29 rfl (lv_at hl 1 rfl) ?_
  refine lv_icmp_ge (tgt := 86) hx hb dX7_shorten_30 (by decide) (fun hc => ?_) (fun hc => ?_)
  · have hw := hw.1 hc
    exact t_wp_X7_shorten_1_86 zc hK hM hS hP2 hP9 (lv_sub hl [0, 1, 2, 3] rfl) hw
  · have hw := hw.2 hc
    refine lv_iload hx hb dX7_shorten_33 (lv_at hl 4 rfl) ?_
    refine lv_sipush (v := (1000 : Int32)) hx hb dX7_shorten_35 (by decide) ?_
    refine lv_icmp_ge (tgt := 86) hx hb dX7_shorten_38 (by decide) (fun hc => ?_) (fun hc => ?_)
    · have hw := hw.1 hc
      exact t_wp_X7_shorten_1_86 zc hK hM hS hP2 hP9 (lv_sub hl [0, 1, 2, 3] rfl) hw
    · have hw := hw.2 hc
      refine lv_iload hx hb dX7_shorten_41 (lv_at hl 4 rfl) ?_
      refine lv_aload_n hx hb dX7_shorten_43 rfl (lv_at hl 0 rfl) ?_
      refine lv_iload_n hx hb dX7_shorten_44 rfl (lv_at hl 2 rfl) ?_
      refine lv_bipush (v := (9 : Int32)) hx hb dX7_shorten_45 (by decide) ?_
      refine lv_imul hx hb dX7_shorten_47 ?_
      refine lv_iload hx hb dX7_shorten_48 (lv_at hl 5 rfl) ?_
      refine lv_iadd hx hb dX7_shorten_50 ?_
      refine wpld_1 zc hK hM hw.1 dX7_shorten_51 ?_
      have hw := hw.2
      refine lv_iadd hx hb dX7_shorten_52 ?_
      refine lv_topi (fun v_1 ev_1 => ?_)
      have hw := hw v_1 ev_1
      refine lv_istore (lv' := [(6, .int v_1), (0, .ref (qp + 1)), (1, .int x1), (2, .int x2), (3, .int x3), (4, .int x4), (5, .int x5)]) hx hb dX7_shorten_53 hl (by decide) rfl (fun ls hl => ?_)
      refine lv_iload hx hb dX7_shorten_55 (lv_at hl 0 rfl) ?_
      refine lv_aload_n hx hb dX7_shorten_57 rfl (lv_at hl 1 rfl) ?_
      refine lv_iload_n hx hb dX7_shorten_58 rfl (lv_at hl 4 rfl) ?_
      refine lv_bipush (v := (9 : Int32)) hx hb dX7_shorten_59 (by decide) ?_
      refine lv_imul hx hb dX7_shorten_61 ?_
      refine lv_iload hx hb dX7_shorten_62 (lv_at hl 6 rfl) ?_
      refine lv_iadd hx hb dX7_shorten_64 ?_
      refine wpld_1 zc hK hM hw.1 dX7_shorten_65 ?_
      have hw := hw.2
      refine lv_icmp_ge (tgt := 80) hx hb dX7_shorten_66 (by decide) (fun hc => ?_) (fun hc => ?_)
      · have hw := hw.1 hc
        exact t_wp_X7_shorten_1_80 zc hK hM hS hP2 hP9 (fun _ _ H locs ls h hl hM hS => h H locs ls hl hM hS) (lv_sub hl [1, 2, 3, 4, 5, 6] rfl) hw
      · have hw := hw.2 hc
        refine lv_aload_n hx hb dX7_shorten_69 rfl (lv_at hl 1 rfl) ?_
        refine lv_iload_n hx hb dX7_shorten_70 rfl (lv_at hl 4 rfl) ?_
        refine lv_bipush (v := (9 : Int32)) hx hb dX7_shorten_71 (by decide) ?_
        refine lv_imul hx hb dX7_shorten_73 ?_
        refine lv_iload hx hb dX7_shorten_74 (lv_at hl 6 rfl) ?_
        refine lv_iadd hx hb dX7_shorten_76 ?_
        refine lv_iload hx hb dX7_shorten_77 (lv_at hl 0 rfl) ?_
        refine wpst_1 zc hK hM hS hw.1 dX7_shorten_79 (fun a_heard_1 H locs ea_heard_1 hM hS => ?_)
        have hw := hw.2 a_heard_1 ea_heard_1
        exact t_wp_X7_shorten_1_80 zc hK hM hS hP2 hP9 (fun _ _ H locs ls h hl hM hS => h H locs ls hl hM hS) (lv_sub hl [1, 2, 3, 4, 5, 6] rfl) hw
set_option maxRecDepth 20000 in
theorem t_wp_X7_shorten_1_9 {p : Program} {l : Launch} {e : Env} {s : State} {m : MethodId} {args : Array Value} {below : List Frame} {meth : Method} {c : Code} {E : zE} {qp ql qs : Nat} {a_heard : Nat → Int32} {a_walked : Nat → Int32} {a_total : Nat → Int32} {a_longest : Nat → Int32} {a_next : Nat → Int32} {a_cover : Nat → Int32} {a_now : Nat → Int32} {a_then : Nat → Int32} {lf_huts : Int32} {lf_singers : Int32} {lf_villages : Int32} {lf_dams : Int32} {lf_echoes : Int32} {lf_deep : Int32} {lf_slide : Int32} {la_heights : Nat → Int32} {la_ladders : Nat → Int32} {la_minutes : Nat → Int32} {la_echoFrom : Nat → Int32} {la_echoTo : Nat → Int32} {la_homes : Nat → Int32} {la_talls : Nat → Int32} {la_known : Nat → Int32} {sf_facts : Int32} {sa_heard : Nat → Int32} {sa_huts : Nat → Int32} {sa_minutes : Nat → Int32} {P2 : Int32 → (Nat → Int32) → Prop} {post : (Nat → Int32) → Prop} {x1 : Int32} {x2 : Int32} {x3 : Int32} {ls : Array Slot} {H : Heap} {locs : List Loc}
    (zc : zC p s m args meth c cX7_shorten 7 RX7 none)
    (hK : zK E s)
    (hM : wpW E qp ql qs a_heard a_walked a_total a_longest a_next a_cover a_now a_then lf_huts lf_singers lf_villages lf_dams lf_echoes lf_deep lf_slide la_heights la_ladders la_minutes la_echoFrom la_echoTo la_homes la_talls la_known sf_facts sa_heard sa_huts sa_minutes H)
    (hS : va_S (wpA qp ql qs) s.heap H locs)
    (hP2 : ∀ (x2 : Int32) (a_heard : Nat → Int32) (H : Heap) (locs : List Loc) (ls : Array Slot), P2 x2 a_heard → lv_has ls 7 [(0, .ref (qp + 1)), (1, .int x1), (2, .int x2)] → wpW E qp ql qs a_heard a_walked a_total a_longest a_next a_cover a_now a_then lf_huts lf_singers lf_villages lf_dams lf_echoes lf_deep lf_slide la_heights la_ladders la_minutes la_echoFrom la_echoTo la_homes la_talls la_known sf_facts sa_heard sa_huts sa_minutes H → va_S (wpA qp ql qs) s.heap H locs → W p l e rm_wp_X7_shorten_1 s m args below meth c H locs 0 0 (MQ below (zQv (S := (Nat → Int32)) (fun u => post u) (fun u H => wpW E qp ql qs u a_walked a_total a_longest a_next a_cover a_now a_then lf_huts lf_singers lf_villages lf_dams lf_echoes lf_deep lf_slide la_heights la_ladders la_minutes la_echoFrom la_echoTo la_homes la_talls la_known sf_facts sa_heard sa_huts sa_minutes H) (wpA qp ql qs)) args s 0 0 (wpA qp ql qs)) (F0 m 2 ls []))
    (hl : lv_has ls 7 [(0, .ref (qp + 1)), (1, .int x1), (2, .int x2), (3, .int x3)])
    (hw : q_wp_X7_shorten_1_9 P2 a_heard x1 x2 x3 post) :
    W p l e rm_wp_X7_shorten_1 s m args below meth c H locs 0 0 (MQ below (zQv (S := (Nat → Int32)) (fun u => post u) (fun u H => wpW E qp ql qs u a_walked a_total a_longest a_next a_cover a_now a_then lf_huts lf_singers lf_villages lf_dams lf_echoes lf_deep lf_slide la_heights la_ladders la_minutes la_echoFrom la_echoTo la_homes la_talls la_known sf_facts sa_heard sa_huts sa_minutes H) (wpA qp ql qs)) args s 0 0 (wpA qp ql qs)) (F0 m 9 ls []) := by
  have hx := zc.1
  have hb := zc.2.1
  refine hw (fun x3 a_heard => ∀ (H : Heap) (locs : List Loc) (ls : Array Slot), lv_has ls 7 [(0, .ref (qp + 1)), (1, .int x1), (2, .int x2), (3, .int x3)] → wpW E qp ql qs a_heard a_walked a_total a_longest a_next a_cover a_now a_then lf_huts lf_singers lf_villages lf_dams lf_echoes lf_deep lf_slide la_heights la_ladders la_minutes la_echoFrom la_echoTo la_homes la_talls la_known sf_facts sa_heard sa_huts sa_minutes H → va_S (wpA qp ql qs) s.heap H locs → W p l e rm_wp_X7_shorten_1 s m args below meth c H locs 0 0 (MQ below (zQv (S := (Nat → Int32)) (fun u => post u) (fun u H => wpW E qp ql qs u a_walked a_total a_longest a_next a_cover a_now a_then lf_huts lf_singers lf_villages lf_dams lf_echoes lf_deep lf_slide la_heights la_ladders la_minutes la_echoFrom la_echoTo la_homes la_talls la_known sf_facts sa_heard sa_huts sa_minutes H) (wpA qp ql qs)) args s 0 0 (wpA qp ql qs)) (F0 m 9 ls [])) ?_ _ _ _ hl hM hS
  intro x3 a_heard hw H locs ls hl hM hS
  refine lv_iload_n hx hb dX7_shorten_9 rfl (lv_at hl 3 rfl) ?_
  refine lv_iload_n hx hb dX7_shorten_10 rfl (lv_at hl 1 rfl) ?_
  refine lv_icmp_ge (tgt := 92) hx hb dX7_shorten_11 (by decide) (fun hc => ?_) (fun hc => ?_)
  · have hw := hw.1 hc
    obtain ⟨v_1, ev_1⟩ : ∃ y : Int32, y = x2 + (1 : Int32) := ⟨_, rfl⟩
    have hw := hw v_1 ev_1
    refine lv_iinc (v := v_1) (k := 2) (lv' := [(2, .int v_1), (0, .ref (qp + 1)), (1, .int x1), (3, .int x3)]) hx hb dX7_shorten_92 hl rfl (by rw [ev_1]; rfl) (by decide) rfl (fun ls hl => ?_)
    refine lv_goto (tgt := 2) hx hb dX7_shorten_95 (by decide) ?_
    exact hP2 _ _ _ _ _ hw (lv_sub hl [1, 2, 0] rfl) hM hS
  · have hw := hw.2 hc
    refine lv_aload_n hx hb dX7_shorten_14 rfl (lv_at hl 0 rfl) ?_
    refine lv_iload_n hx hb dX7_shorten_15 rfl (lv_at hl 3 rfl) ?_
    refine lv_bipush (v := (9 : Int32)) hx hb dX7_shorten_16 (by decide) ?_
    refine lv_imul hx hb dX7_shorten_18 ?_
    refine lv_iload_n hx hb dX7_shorten_19 rfl (lv_at hl 2 rfl) ?_
    refine lv_iadd hx hb dX7_shorten_20 ?_
    refine wpld_1 zc hK hM hw.1 dX7_shorten_21 ?_
    have hw := hw.2
    refine lv_topi (fun v_2 ev_2 => ?_)
    have hw := hw v_2 ev_2
    refine lv_istore (lv' := [(4, .int v_2), (0, .ref (qp + 1)), (1, .int x1), (2, .int x2), (3, .int x3)]) hx hb dX7_shorten_22 hl (by decide) rfl (fun ls hl => ?_)
    refine lv_iconst (v := (0 : Int32)) hx hb dX7_shorten_24 (by decide) ?_
    refine lv_istore (lv' := [(5, .int (0 : Int32)), (4, .int v_2), (0, .ref (qp + 1)), (1, .int x1), (2, .int x2), (3, .int x3)]) hx hb dX7_shorten_25 hl (by decide) rfl (fun ls hl => ?_)
    exact t_wp_X7_shorten_1_27 zc hK hM hS hP2 (fun _ _ H locs ls h hl hM hS => h H locs ls hl hM hS) (lv_sub hl [2, 3, 4, 5, 1, 0] rfl) hw
set_option maxRecDepth 20000 in
theorem t_wp_X7_shorten_1_2 {p : Program} {l : Launch} {e : Env} {s : State} {m : MethodId} {args : Array Value} {below : List Frame} {meth : Method} {c : Code} {E : zE} {qp ql qs : Nat} {a_heard : Nat → Int32} {a_walked : Nat → Int32} {a_total : Nat → Int32} {a_longest : Nat → Int32} {a_next : Nat → Int32} {a_cover : Nat → Int32} {a_now : Nat → Int32} {a_then : Nat → Int32} {lf_huts : Int32} {lf_singers : Int32} {lf_villages : Int32} {lf_dams : Int32} {lf_echoes : Int32} {lf_deep : Int32} {lf_slide : Int32} {la_heights : Nat → Int32} {la_ladders : Nat → Int32} {la_minutes : Nat → Int32} {la_echoFrom : Nat → Int32} {la_echoTo : Nat → Int32} {la_homes : Nat → Int32} {la_talls : Nat → Int32} {la_known : Nat → Int32} {sf_facts : Int32} {sa_heard : Nat → Int32} {sa_huts : Nat → Int32} {sa_minutes : Nat → Int32} {post : (Nat → Int32) → Prop} {x1 : Int32} {x2 : Int32} {ls : Array Slot} {H : Heap} {locs : List Loc}
    (zc : zC p s m args meth c cX7_shorten 7 RX7 none)
    (hK : zK E s)
    (hM : wpW E qp ql qs a_heard a_walked a_total a_longest a_next a_cover a_now a_then lf_huts lf_singers lf_villages lf_dams lf_echoes lf_deep lf_slide la_heights la_ladders la_minutes la_echoFrom la_echoTo la_homes la_talls la_known sf_facts sa_heard sa_huts sa_minutes H)
    (hS : va_S (wpA qp ql qs) s.heap H locs)
    (hl : lv_has ls 7 [(0, .ref (qp + 1)), (1, .int x1), (2, .int x2)])
    (hw : q_wp_X7_shorten_1_2 a_heard x1 x2 post) :
    W p l e rm_wp_X7_shorten_1 s m args below meth c H locs 0 0 (MQ below (zQv (S := (Nat → Int32)) (fun u => post u) (fun u H => wpW E qp ql qs u a_walked a_total a_longest a_next a_cover a_now a_then lf_huts lf_singers lf_villages lf_dams lf_echoes lf_deep lf_slide la_heights la_ladders la_minutes la_echoFrom la_echoTo la_homes la_talls la_known sf_facts sa_heard sa_huts sa_minutes H) (wpA qp ql qs)) args s 0 0 (wpA qp ql qs)) (F0 m 2 ls []) := by
  have hx := zc.1
  have hb := zc.2.1
  refine hw (fun x2 a_heard => ∀ (H : Heap) (locs : List Loc) (ls : Array Slot), lv_has ls 7 [(0, .ref (qp + 1)), (1, .int x1), (2, .int x2)] → wpW E qp ql qs a_heard a_walked a_total a_longest a_next a_cover a_now a_then lf_huts lf_singers lf_villages lf_dams lf_echoes lf_deep lf_slide la_heights la_ladders la_minutes la_echoFrom la_echoTo la_homes la_talls la_known sf_facts sa_heard sa_huts sa_minutes H → va_S (wpA qp ql qs) s.heap H locs → W p l e rm_wp_X7_shorten_1 s m args below meth c H locs 0 0 (MQ below (zQv (S := (Nat → Int32)) (fun u => post u) (fun u H => wpW E qp ql qs u a_walked a_total a_longest a_next a_cover a_now a_then lf_huts lf_singers lf_villages lf_dams lf_echoes lf_deep lf_slide la_heights la_ladders la_minutes la_echoFrom la_echoTo la_homes la_talls la_known sf_facts sa_heard sa_huts sa_minutes H) (wpA qp ql qs)) args s 0 0 (wpA qp ql qs)) (F0 m 2 ls [])) ?_ _ _ _ hl hM hS
  intro x2 a_heard hw H locs ls hl hM hS
  refine lv_iload_n hx hb dX7_shorten_2 rfl (lv_at hl 2 rfl) ?_
  refine lv_iload_n hx hb dX7_shorten_3 rfl (lv_at hl 1 rfl) ?_
  refine lv_icmp_ge (tgt := 98) hx hb dX7_shorten_4 (by decide) (fun hc => ?_) (fun hc => ?_)
  · have hw := hw.1 hc
    exact zret_vw a_heard zc hS hw hM dX7_shorten_98
  · have hw := hw.2 hc
    refine lv_iconst (v := (0 : Int32)) hx hb dX7_shorten_7 (by decide) ?_
    refine lv_istore_n (lv' := [(3, .int (0 : Int32)), (0, .ref (qp + 1)), (1, .int x1), (2, .int x2)]) hx hb dX7_shorten_8 rfl hl (by decide) rfl (fun ls hl => ?_)
    exact t_wp_X7_shorten_1_9 zc hK hM hS (fun _ _ H locs ls h hl hM hS => h H locs ls hl hM hS) (lv_sub hl [1, 2, 3, 0] rfl) hw
set_option maxRecDepth 20000 in
theorem t_wp_X7_shorten_1_0 {p : Program} {l : Launch} {e : Env} {s : State} {m : MethodId} {args : Array Value} {below : List Frame} {meth : Method} {c : Code} {E : zE} {qp ql qs : Nat} {a_heard : Nat → Int32} {a_walked : Nat → Int32} {a_total : Nat → Int32} {a_longest : Nat → Int32} {a_next : Nat → Int32} {a_cover : Nat → Int32} {a_now : Nat → Int32} {a_then : Nat → Int32} {lf_huts : Int32} {lf_singers : Int32} {lf_villages : Int32} {lf_dams : Int32} {lf_echoes : Int32} {lf_deep : Int32} {lf_slide : Int32} {la_heights : Nat → Int32} {la_ladders : Nat → Int32} {la_minutes : Nat → Int32} {la_echoFrom : Nat → Int32} {la_echoTo : Nat → Int32} {la_homes : Nat → Int32} {la_talls : Nat → Int32} {la_known : Nat → Int32} {sf_facts : Int32} {sa_heard : Nat → Int32} {sa_huts : Nat → Int32} {sa_minutes : Nat → Int32} {post : (Nat → Int32) → Prop} {x1 : Int32} {ls : Array Slot} {H : Heap} {locs : List Loc}
    (zc : zC p s m args meth c cX7_shorten 7 RX7 none)
    (hK : zK E s)
    (hM : wpW E qp ql qs a_heard a_walked a_total a_longest a_next a_cover a_now a_then lf_huts lf_singers lf_villages lf_dams lf_echoes lf_deep lf_slide la_heights la_ladders la_minutes la_echoFrom la_echoTo la_homes la_talls la_known sf_facts sa_heard sa_huts sa_minutes H)
    (hS : va_S (wpA qp ql qs) s.heap H locs)
    (hl : lv_has ls 7 [(0, .ref (qp + 1)), (1, .int x1)])
    (hw : q_wp_X7_shorten_1_0 a_heard x1 post) :
    W p l e rm_wp_X7_shorten_1 s m args below meth c H locs 0 0 (MQ below (zQv (S := (Nat → Int32)) (fun u => post u) (fun u H => wpW E qp ql qs u a_walked a_total a_longest a_next a_cover a_now a_then lf_huts lf_singers lf_villages lf_dams lf_echoes lf_deep lf_slide la_heights la_ladders la_minutes la_echoFrom la_echoTo la_homes la_talls la_known sf_facts sa_heard sa_huts sa_minutes H) (wpA qp ql qs)) args s 0 0 (wpA qp ql qs)) (F0 m 0 ls []) := by
  have hx := zc.1
  have hb := zc.2.1
  refine lv_iconst (v := (0 : Int32)) hx hb dX7_shorten_0 (by decide) ?_
  refine lv_istore_n (lv' := [(2, .int (0 : Int32)), (0, .ref (qp + 1)), (1, .int x1)]) hx hb dX7_shorten_1 rfl hl (by decide) rfl (fun ls hl => ?_)
  exact t_wp_X7_shorten_1_2 zc hK hM hS  (lv_sub hl [1, 2, 0] rfl) hw
set_option maxRecDepth 20000 in
theorem c_wp_X7_shorten_1 (l : Launch) {E : zE} {qp ql qs : Nat} {a_heard : Nat → Int32} {a_walked : Nat → Int32} {a_total : Nat → Int32} {a_longest : Nat → Int32} {a_next : Nat → Int32} {a_cover : Nat → Int32} {a_now : Nat → Int32} {a_then : Nat → Int32} {lf_huts : Int32} {lf_singers : Int32} {lf_villages : Int32} {lf_dams : Int32} {lf_echoes : Int32} {lf_deep : Int32} {lf_slide : Int32} {la_heights : Nat → Int32} {la_ladders : Nat → Int32} {la_minutes : Nat → Int32} {la_echoFrom : Nat → Int32} {la_echoTo : Nat → Int32} {la_homes : Nat → Int32} {la_talls : Nat → Int32} {la_known : Nat → Int32} {sf_facts : Int32} {sa_heard : Nat → Int32} {sa_huts : Nat → Int32} {sa_minutes : Nat → Int32} {x1 : Int32} {post : (Nat → Int32) → Prop} (hw : q_wp_X7_shorten_1_0 a_heard x1 post) : Met l yX7_shorten (Cond.code yX7_shorten cX7_shorten 7 none :: zb) rm_wp_X7_shorten_1 (va_Pc [.ref (qp + 1), .int x1] (fun U => wpW E qp ql qs a_heard a_walked a_total a_longest a_next a_cover a_now a_then lf_huts lf_singers lf_villages lf_dams lf_echoes lf_deep lf_slide la_heights la_ladders la_minutes la_echoFrom la_echoTo la_homes la_talls la_known sf_facts sa_heard sa_huts sa_minutes U.heap ∧ zK E U)) (zQv (S := (Nat → Int32)) (fun u => post u) (fun u H => wpW E qp ql qs u a_walked a_total a_longest a_next a_cover a_now a_then lf_huts lf_singers lf_villages lf_dams lf_echoes lf_deep lf_slide la_heights la_ladders la_minutes la_echoFrom la_echoTo la_homes la_talls la_known sf_facts sa_heard sa_huts sa_minutes H) (wpA qp ql qs)) 0 0 (wpA qp ql qs) := by
  refine Met.ofW (cc := cX7_shorten) (maxL := 7) (ret := none) (by decide) rfl ?_
  intro p e s m args below meth c s₁ B hml hv
  obtain ⟨rfl, hM, hK⟩ := hv
  have zc := zc_of B hml
  have hl := lv_entry ([.ref (qp + 1), .int x1]) (n := 7) (Nat.le_of_ble_eq_true rfl)
  rw [lg_entry_eq]
  generalize (lg_sl ([.ref (qp + 1), .int x1]) ++ List.replicate (7 - (lg_sl ([.ref (qp + 1), .int x1])).length) Slot.unset).toArray = ls at hl ⊢
  have hl : lv_has ls 7 [(0, .ref (qp + 1)), (1, .int x1)] := hl
  exact t_wp_X7_shorten_1_0 zc hK hM va_S.rf (lv_sub hl [0, 1] rfl) hw
-- wp_X7_markAtOnce
abbrev rm_wp_X7_markAtOnce : Room := { frames := 1, cells := 0, slots := 0, locals := 21 }
def q_wp_X7_markAtOnce_28 (P2 : Int32 → (Nat → Int32) → Prop) (a_heard : Nat → Int32) (x1 : Int32) (x2 : Int32) (x3 : Int32) (post : (Nat → Int32) → Prop) : Prop :=
  ∀ v_1 : Int32, v_1 = x3 + (1 : Int32) → (P2 v_1 a_heard)
def q_wp_X7_markAtOnce_2 (a_heard : Nat → Int32) (x1 : Int32) (x2 : Int32) (x3 : Int32) (post : (Nat → Int32) → Prop) : Prop :=
  ∀ P2 : Int32 → (Nat → Int32) → Prop, (∀ (x3 : Int32) (a_heard : Nat → Int32), (((9 : Int32) ≤ x3 → (post a_heard)) ∧ (¬ (9 : Int32) ≤ x3 → (q_z_X10_has_0 x2 x3 (fun r_1 => (r_1 = 0 → (q_wp_X7_markAtOnce_28 P2 a_heard x1 x2 x3 post)) ∧ (¬ r_1 = 0 → (vp_in ((x1 * (9 : Int32)) + x3) 81 ∧ (∀ a_heard_1 : Nat → Int32, a_heard_1 = upd a_heard (Int32.toNatClampNeg ((x1 * (9 : Int32)) + x3)) (0 : Int32) → (q_wp_X7_markAtOnce_28 P2 a_heard_1 x1 x2 x3 post)))))))) → P2 x3 a_heard) → P2 x3 a_heard
def q_wp_X7_markAtOnce_0 (a_heard : Nat → Int32) (x1 : Int32) (x2 : Int32) (post : (Nat → Int32) → Prop) : Prop :=
  q_wp_X7_markAtOnce_2 a_heard x1 x2 (0 : Int32) post
set_option maxRecDepth 20000 in
theorem t_wp_X7_markAtOnce_28 {p : Program} {l : Launch} {e : Env} {s : State} {m : MethodId} {args : Array Value} {below : List Frame} {meth : Method} {c : Code} {E : zE} {qp ql qs : Nat} {a_heard : Nat → Int32} {a_walked : Nat → Int32} {a_total : Nat → Int32} {a_longest : Nat → Int32} {a_next : Nat → Int32} {a_cover : Nat → Int32} {a_now : Nat → Int32} {a_then : Nat → Int32} {lf_huts : Int32} {lf_singers : Int32} {lf_villages : Int32} {lf_dams : Int32} {lf_echoes : Int32} {lf_deep : Int32} {lf_slide : Int32} {la_heights : Nat → Int32} {la_ladders : Nat → Int32} {la_minutes : Nat → Int32} {la_echoFrom : Nat → Int32} {la_echoTo : Nat → Int32} {la_homes : Nat → Int32} {la_talls : Nat → Int32} {la_known : Nat → Int32} {sf_facts : Int32} {sa_heard : Nat → Int32} {sa_huts : Nat → Int32} {sa_minutes : Nat → Int32} {P2 : Int32 → (Nat → Int32) → Prop} {post : (Nat → Int32) → Prop} {x1 : Int32} {x2 : Int32} {x3 : Int32} {ls : Array Slot} {H : Heap} {locs : List Loc}
    (zc : zC p s m args meth c cX7_markAtOnce 4 RX7 none)
    (hK : zK E s)
    (hM : wpW E qp ql qs a_heard a_walked a_total a_longest a_next a_cover a_now a_then lf_huts lf_singers lf_villages lf_dams lf_echoes lf_deep lf_slide la_heights la_ladders la_minutes la_echoFrom la_echoTo la_homes la_talls la_known sf_facts sa_heard sa_huts sa_minutes H)
    (hS : va_S (wpA qp ql qs) s.heap H locs)
    (hP2 : ∀ (x3 : Int32) (a_heard : Nat → Int32) (H : Heap) (locs : List Loc) (ls : Array Slot), P2 x3 a_heard → lv_has ls 4 [(0, .ref qp), (1, .int x1), (2, .int x2), (3, .int x3)] → wpW E qp ql qs a_heard a_walked a_total a_longest a_next a_cover a_now a_then lf_huts lf_singers lf_villages lf_dams lf_echoes lf_deep lf_slide la_heights la_ladders la_minutes la_echoFrom la_echoTo la_homes la_talls la_known sf_facts sa_heard sa_huts sa_minutes H → va_S (wpA qp ql qs) s.heap H locs → W p l e rm_wp_X7_markAtOnce s m args below meth c H locs 0 0 (MQ below (zQv (S := (Nat → Int32)) (fun u => post u) (fun u H => wpW E qp ql qs u a_walked a_total a_longest a_next a_cover a_now a_then lf_huts lf_singers lf_villages lf_dams lf_echoes lf_deep lf_slide la_heights la_ladders la_minutes la_echoFrom la_echoTo la_homes la_talls la_known sf_facts sa_heard sa_huts sa_minutes H) (wpA qp ql qs)) args s 0 0 (wpA qp ql qs)) (F0 m 2 ls []))
    (hl : lv_has ls 4 [(0, .ref qp), (1, .int x1), (2, .int x2), (3, .int x3)])
    (hw : q_wp_X7_markAtOnce_28 P2 a_heard x1 x2 x3 post) :
    W p l e rm_wp_X7_markAtOnce s m args below meth c H locs 0 0 (MQ below (zQv (S := (Nat → Int32)) (fun u => post u) (fun u H => wpW E qp ql qs u a_walked a_total a_longest a_next a_cover a_now a_then lf_huts lf_singers lf_villages lf_dams lf_echoes lf_deep lf_slide la_heights la_ladders la_minutes la_echoFrom la_echoTo la_homes la_talls la_known sf_facts sa_heard sa_huts sa_minutes H) (wpA qp ql qs)) args s 0 0 (wpA qp ql qs)) (F0 m 28 ls []) := by
  have hx := zc.1
  have hb := zc.2.1
  obtain ⟨v_1, ev_1⟩ : ∃ y : Int32, y = x3 + (1 : Int32) := ⟨_, rfl⟩
  have hw := hw v_1 ev_1
  refine lv_iinc (v := v_1) (k := 3) (lv' := [(3, .int v_1), (0, .ref qp), (1, .int x1), (2, .int x2)]) hx hb dX7_markAtOnce_28 hl rfl (by rw [ev_1]; rfl) (by decide) rfl (fun ls hl => ?_)
  refine lv_goto (tgt := 2) hx hb dX7_markAtOnce_31 (by decide) ?_
  exact hP2 _ _ _ _ _ hw (lv_sub hl [1, 2, 3, 0] rfl) hM hS
set_option maxRecDepth 20000 in
theorem t_wp_X7_markAtOnce_2 {p : Program} {l : Launch} {e : Env} {s : State} {m : MethodId} {args : Array Value} {below : List Frame} {meth : Method} {c : Code} {E : zE} {qp ql qs : Nat} {a_heard : Nat → Int32} {a_walked : Nat → Int32} {a_total : Nat → Int32} {a_longest : Nat → Int32} {a_next : Nat → Int32} {a_cover : Nat → Int32} {a_now : Nat → Int32} {a_then : Nat → Int32} {lf_huts : Int32} {lf_singers : Int32} {lf_villages : Int32} {lf_dams : Int32} {lf_echoes : Int32} {lf_deep : Int32} {lf_slide : Int32} {la_heights : Nat → Int32} {la_ladders : Nat → Int32} {la_minutes : Nat → Int32} {la_echoFrom : Nat → Int32} {la_echoTo : Nat → Int32} {la_homes : Nat → Int32} {la_talls : Nat → Int32} {la_known : Nat → Int32} {sf_facts : Int32} {sa_heard : Nat → Int32} {sa_huts : Nat → Int32} {sa_minutes : Nat → Int32} {post : (Nat → Int32) → Prop} {x1 : Int32} {x2 : Int32} {x3 : Int32} {ls : Array Slot} {H : Heap} {locs : List Loc}
    (zc : zC p s m args meth c cX7_markAtOnce 4 RX7 none)
    (hK : zK E s)
    (hM : wpW E qp ql qs a_heard a_walked a_total a_longest a_next a_cover a_now a_then lf_huts lf_singers lf_villages lf_dams lf_echoes lf_deep lf_slide la_heights la_ladders la_minutes la_echoFrom la_echoTo la_homes la_talls la_known sf_facts sa_heard sa_huts sa_minutes H)
    (hS : va_S (wpA qp ql qs) s.heap H locs)
    (hl : lv_has ls 4 [(0, .ref qp), (1, .int x1), (2, .int x2), (3, .int x3)])
    (hw : q_wp_X7_markAtOnce_2 a_heard x1 x2 x3 post) :
    W p l e rm_wp_X7_markAtOnce s m args below meth c H locs 0 0 (MQ below (zQv (S := (Nat → Int32)) (fun u => post u) (fun u H => wpW E qp ql qs u a_walked a_total a_longest a_next a_cover a_now a_then lf_huts lf_singers lf_villages lf_dams lf_echoes lf_deep lf_slide la_heights la_ladders la_minutes la_echoFrom la_echoTo la_homes la_talls la_known sf_facts sa_heard sa_huts sa_minutes H) (wpA qp ql qs)) args s 0 0 (wpA qp ql qs)) (F0 m 2 ls []) := by
  have hx := zc.1
  have hb := zc.2.1
  refine hw (fun x3 a_heard => ∀ (H : Heap) (locs : List Loc) (ls : Array Slot), lv_has ls 4 [(0, .ref qp), (1, .int x1), (2, .int x2), (3, .int x3)] → wpW E qp ql qs a_heard a_walked a_total a_longest a_next a_cover a_now a_then lf_huts lf_singers lf_villages lf_dams lf_echoes lf_deep lf_slide la_heights la_ladders la_minutes la_echoFrom la_echoTo la_homes la_talls la_known sf_facts sa_heard sa_huts sa_minutes H → va_S (wpA qp ql qs) s.heap H locs → W p l e rm_wp_X7_markAtOnce s m args below meth c H locs 0 0 (MQ below (zQv (S := (Nat → Int32)) (fun u => post u) (fun u H => wpW E qp ql qs u a_walked a_total a_longest a_next a_cover a_now a_then lf_huts lf_singers lf_villages lf_dams lf_echoes lf_deep lf_slide la_heights la_ladders la_minutes la_echoFrom la_echoTo la_homes la_talls la_known sf_facts sa_heard sa_huts sa_minutes H) (wpA qp ql qs)) args s 0 0 (wpA qp ql qs)) (F0 m 2 ls [])) ?_ _ _ _ hl hM hS
  intro x3 a_heard hw H locs ls hl hM hS
  refine lv_iload_n hx hb dX7_markAtOnce_2 rfl (lv_at hl 3 rfl) ?_
  refine lv_bipush (v := (9 : Int32)) hx hb dX7_markAtOnce_3 (by decide) ?_
  refine lv_icmp_ge (tgt := 34) hx hb dX7_markAtOnce_5 (by decide) (fun hc => ?_) (fun hc => ?_)
  · have hw := hw.1 hc
    exact zret_vw a_heard zc hS hw hM dX7_markAtOnce_34
  · have hw := hw.2 hc
    refine lv_iload_n hx hb dX7_markAtOnce_8 rfl (lv_at hl 2 rfl) ?_
    refine lv_iload_n hx hb dX7_markAtOnce_9 rfl (lv_at hl 3 rfl) ?_
    refine zSN_i [.int x2, .int x3] [] zc ky_X10_has kz_X10_has (hK.2 _ kn_7_70) (c_z_X10_has l hw) (zPre0 _) rfl rfl hl.1 (Nat.le_of_ble_eq_true rfl) ⟨rfl, rfl⟩ ⟨Nat.le_of_ble_eq_true rfl, Nat.le_of_ble_eq_true rfl⟩ ⟨(Nat.zero_le _), (Nat.zero_le _)⟩ dX7_markAtOnce_10 (fun r_1 hw => ?_)
    refine lv_if_eq (tgt := 28) hx hb dX7_markAtOnce_13 (by decide) (fun hc => ?_) (fun hc => ?_)
    · have hw := hw.1 hc
      exact t_wp_X7_markAtOnce_28 zc hK hM hS (fun _ _ H locs ls h hl hM hS => h H locs ls hl hM hS) (lv_sub hl [0, 1, 2, 3] rfl) hw
    · have hw := hw.2 hc
      refine lv_aload_n hx hb dX7_markAtOnce_16 rfl (lv_at hl 0 rfl) ?_
      refine wpg_7_9_0 zc hK hM dX7_markAtOnce_17 ?_
      refine lv_iload_n hx hb dX7_markAtOnce_20 rfl (lv_at hl 1 rfl) ?_
      refine lv_bipush (v := (9 : Int32)) hx hb dX7_markAtOnce_21 (by decide) ?_
      refine lv_imul hx hb dX7_markAtOnce_23 ?_
      refine lv_iload_n hx hb dX7_markAtOnce_24 rfl (lv_at hl 3 rfl) ?_
      refine lv_iadd hx hb dX7_markAtOnce_25 ?_
      refine lv_iconst (v := (0 : Int32)) hx hb dX7_markAtOnce_26 (by decide) ?_
      refine wpst_1 zc hK hM hS hw.1 dX7_markAtOnce_27 (fun a_heard_1 H locs ea_heard_1 hM hS => ?_)
      have hw := hw.2 a_heard_1 ea_heard_1
      exact t_wp_X7_markAtOnce_28 zc hK hM hS (fun _ _ H locs ls h hl hM hS => h H locs ls hl hM hS) (lv_sub hl [0, 1, 2, 3] rfl) hw
set_option maxRecDepth 20000 in
theorem t_wp_X7_markAtOnce_0 {p : Program} {l : Launch} {e : Env} {s : State} {m : MethodId} {args : Array Value} {below : List Frame} {meth : Method} {c : Code} {E : zE} {qp ql qs : Nat} {a_heard : Nat → Int32} {a_walked : Nat → Int32} {a_total : Nat → Int32} {a_longest : Nat → Int32} {a_next : Nat → Int32} {a_cover : Nat → Int32} {a_now : Nat → Int32} {a_then : Nat → Int32} {lf_huts : Int32} {lf_singers : Int32} {lf_villages : Int32} {lf_dams : Int32} {lf_echoes : Int32} {lf_deep : Int32} {lf_slide : Int32} {la_heights : Nat → Int32} {la_ladders : Nat → Int32} {la_minutes : Nat → Int32} {la_echoFrom : Nat → Int32} {la_echoTo : Nat → Int32} {la_homes : Nat → Int32} {la_talls : Nat → Int32} {la_known : Nat → Int32} {sf_facts : Int32} {sa_heard : Nat → Int32} {sa_huts : Nat → Int32} {sa_minutes : Nat → Int32} {post : (Nat → Int32) → Prop} {x1 : Int32} {x2 : Int32} {ls : Array Slot} {H : Heap} {locs : List Loc}
    (zc : zC p s m args meth c cX7_markAtOnce 4 RX7 none)
    (hK : zK E s)
    (hM : wpW E qp ql qs a_heard a_walked a_total a_longest a_next a_cover a_now a_then lf_huts lf_singers lf_villages lf_dams lf_echoes lf_deep lf_slide la_heights la_ladders la_minutes la_echoFrom la_echoTo la_homes la_talls la_known sf_facts sa_heard sa_huts sa_minutes H)
    (hS : va_S (wpA qp ql qs) s.heap H locs)
    (hl : lv_has ls 4 [(0, .ref qp), (1, .int x1), (2, .int x2)])
    (hw : q_wp_X7_markAtOnce_0 a_heard x1 x2 post) :
    W p l e rm_wp_X7_markAtOnce s m args below meth c H locs 0 0 (MQ below (zQv (S := (Nat → Int32)) (fun u => post u) (fun u H => wpW E qp ql qs u a_walked a_total a_longest a_next a_cover a_now a_then lf_huts lf_singers lf_villages lf_dams lf_echoes lf_deep lf_slide la_heights la_ladders la_minutes la_echoFrom la_echoTo la_homes la_talls la_known sf_facts sa_heard sa_huts sa_minutes H) (wpA qp ql qs)) args s 0 0 (wpA qp ql qs)) (F0 m 0 ls []) := by
  have hx := zc.1
  have hb := zc.2.1
  refine lv_iconst (v := (0 : Int32)) hx hb dX7_markAtOnce_0 (by decide) ?_
  refine lv_istore_n (lv' := [(3, .int (0 : Int32)), (0, .ref qp), (1, .int x1), (2, .int x2)]) hx hb dX7_markAtOnce_1 rfl hl (by decide) rfl (fun ls hl => ?_)
  exact t_wp_X7_markAtOnce_2 zc hK hM hS  (lv_sub hl [1, 2, 3, 0] rfl) hw
set_option maxRecDepth 20000 in
theorem c_wp_X7_markAtOnce (l : Launch) {E : zE} {qp ql qs : Nat} {a_heard : Nat → Int32} {a_walked : Nat → Int32} {a_total : Nat → Int32} {a_longest : Nat → Int32} {a_next : Nat → Int32} {a_cover : Nat → Int32} {a_now : Nat → Int32} {a_then : Nat → Int32} {lf_huts : Int32} {lf_singers : Int32} {lf_villages : Int32} {lf_dams : Int32} {lf_echoes : Int32} {lf_deep : Int32} {lf_slide : Int32} {la_heights : Nat → Int32} {la_ladders : Nat → Int32} {la_minutes : Nat → Int32} {la_echoFrom : Nat → Int32} {la_echoTo : Nat → Int32} {la_homes : Nat → Int32} {la_talls : Nat → Int32} {la_known : Nat → Int32} {sf_facts : Int32} {sa_heard : Nat → Int32} {sa_huts : Nat → Int32} {sa_minutes : Nat → Int32} {x1 : Int32} {x2 : Int32} {post : (Nat → Int32) → Prop} (hw : q_wp_X7_markAtOnce_0 a_heard x1 x2 post) : Met l yX7_markAtOnce (Cond.code yX7_markAtOnce cX7_markAtOnce 4 none :: zb) rm_wp_X7_markAtOnce (va_Pc [.ref qp, .int x1, .int x2] (fun U => wpW E qp ql qs a_heard a_walked a_total a_longest a_next a_cover a_now a_then lf_huts lf_singers lf_villages lf_dams lf_echoes lf_deep lf_slide la_heights la_ladders la_minutes la_echoFrom la_echoTo la_homes la_talls la_known sf_facts sa_heard sa_huts sa_minutes U.heap ∧ zK E U)) (zQv (S := (Nat → Int32)) (fun u => post u) (fun u H => wpW E qp ql qs u a_walked a_total a_longest a_next a_cover a_now a_then lf_huts lf_singers lf_villages lf_dams lf_echoes lf_deep lf_slide la_heights la_ladders la_minutes la_echoFrom la_echoTo la_homes la_talls la_known sf_facts sa_heard sa_huts sa_minutes H) (wpA qp ql qs)) 0 0 (wpA qp ql qs) := by
  refine Met.ofW (cc := cX7_markAtOnce) (maxL := 4) (ret := none) (by decide) rfl ?_
  intro p e s m args below meth c s₁ B hml hv
  obtain ⟨rfl, hM, hK⟩ := hv
  have zc := zc_of B hml
  have hl := lv_entry ([.ref qp, .int x1, .int x2]) (n := 4) (Nat.le_of_ble_eq_true rfl)
  rw [lg_entry_eq]
  generalize (lg_sl ([.ref qp, .int x1, .int x2]) ++ List.replicate (4 - (lg_sl ([.ref qp, .int x1, .int x2])).length) Slot.unset).toArray = ls at hl ⊢
  have hl : lv_has ls 4 [(0, .ref qp), (1, .int x1), (2, .int x2)] := hl
  exact t_wp_X7_markAtOnce_0 zc hK hM va_S.rf (lv_sub hl [0, 1, 2] rfl) hw
-- wp_X7_hear_9
abbrev rm_wp_X7_hear_9 : Room := { frames := 2, cells := 0, slots := 0, locals := 44 }
def q_wp_X7_hear_9_61 (P12 : Int32 → (Nat → Int32) → Prop) (P22 : Int32 → (Nat → Int32) → Prop) (a_heard : Nat → Int32) (lf_huts : Int32) (lf_dams : Int32) (lf_echoes : Int32) (la_heights : Nat → Int32) (la_minutes : Nat → Int32) (la_echoFrom : Nat → Int32) (la_echoTo : Nat → Int32) (x2 : Int32) (x3 : Int32) (post : (Nat → Int32) → Prop) : Prop :=
  ∀ v_1 : Int32, v_1 = x3 + (1 : Int32) → (P22 v_1 a_heard)
def q_wp_X7_hear_9_85 (P12 : Int32 → (Nat → Int32) → Prop) (a_heard : Nat → Int32) (lf_huts : Int32) (lf_dams : Int32) (lf_echoes : Int32) (la_heights : Nat → Int32) (la_minutes : Nat → Int32) (la_echoFrom : Nat → Int32) (la_echoTo : Nat → Int32) (x2 : Int32) (post : (Nat → Int32) → Prop) : Prop :=
  ∀ v_1 : Int32, v_1 = x2 + (1 : Int32) → (P12 v_1 a_heard)
def q_wp_X7_hear_9_22 (P12 : Int32 → (Nat → Int32) → Prop) (a_heard : Nat → Int32) (lf_huts : Int32) (lf_dams : Int32) (lf_echoes : Int32) (la_heights : Nat → Int32) (la_minutes : Nat → Int32) (la_echoFrom : Nat → Int32) (la_echoTo : Nat → Int32) (x2 : Int32) (x3 : Int32) (post : (Nat → Int32) → Prop) : Prop :=
  ∀ P22 : Int32 → (Nat → Int32) → Prop, (∀ (x3 : Int32) (a_heard : Nat → Int32), ((lf_huts ≤ x3 → (q_wl_X2_isDam_0 lf_dams x2 (fun r_1 => (¬ r_1 = 0 → (q_wp_X7_hear_9_85 P12 a_heard lf_huts lf_dams lf_echoes la_heights la_minutes la_echoFrom la_echoTo x2 post)) ∧ (r_1 = 0 → (q_wl_X2_earshot_0 lf_dams lf_echoes la_echoFrom la_echoTo x2 (fun r_2 => q_wp_X7_markAtOnce_0 a_heard x2 r_2 (fun a_heard_1 => q_wp_X7_hear_9_85 P12 a_heard_1 lf_huts lf_dams lf_echoes la_heights la_minutes la_echoFrom la_echoTo x2 post))))))) ∧ (¬ lf_huts ≤ x3 → (q_wl_X2_leads_0 lf_dams la_heights la_minutes x2 x3 (fun r_3 => (r_3 = 0 → (q_wp_X7_hear_9_61 P12 P22 a_heard lf_huts lf_dams lf_echoes la_heights la_minutes la_echoFrom la_echoTo x2 x3 post)) ∧ (¬ r_3 = 0 → (vp_in ((x2 * (9 : Int32)) + x3) 81 ∧ (∀ v_1 : Int32, v_1 = (la_minutes (Int32.toNatClampNeg ((x2 * (9 : Int32)) + x3))) → (vp_in ((x2 * (9 : Int32)) + x3) 81 ∧ (∀ a_heard_2 : Nat → Int32, a_heard_2 = upd a_heard (Int32.toNatClampNeg ((x2 * (9 : Int32)) + x3)) v_1 → (q_wp_X7_hear_9_61 P12 P22 a_heard_2 lf_huts lf_dams lf_echoes la_heights la_minutes la_echoFrom la_echoTo x2 x3 post)))))))))) → P22 x3 a_heard) → P22 x3 a_heard
def q_wp_X7_hear_9_12 (a_heard : Nat → Int32) (lf_huts : Int32) (lf_dams : Int32) (lf_echoes : Int32) (la_heights : Nat → Int32) (la_minutes : Nat → Int32) (la_echoFrom : Nat → Int32) (la_echoTo : Nat → Int32) (x2 : Int32) (post : (Nat → Int32) → Prop) : Prop :=
  ∀ P12 : Int32 → (Nat → Int32) → Prop, (∀ (x2 : Int32) (a_heard : Nat → Int32), ((lf_huts ≤ x2 → (q_wp_X7_shorten_1_0 a_heard lf_huts (fun a_heard_1 => post a_heard_1))) ∧ (¬ lf_huts ≤ x2 → (q_wp_X7_hear_9_22 P12 a_heard lf_huts lf_dams lf_echoes la_heights la_minutes la_echoFrom la_echoTo x2 (0 : Int32) post))) → P12 x2 a_heard) → P12 x2 a_heard
def q_wp_X7_hear_9_0 (a_heard : Nat → Int32) (lf_huts : Int32) (lf_dams : Int32) (lf_echoes : Int32) (la_heights : Nat → Int32) (la_minutes : Nat → Int32) (la_echoFrom : Nat → Int32) (la_echoTo : Nat → Int32) (post : (Nat → Int32) → Prop) : Prop :=
  q_wp_J7_fill_53178_1_0 a_heard (1000 : Int32) (fun a_heard_1 => q_wp_X7_hear_9_12 a_heard_1 lf_huts lf_dams lf_echoes la_heights la_minutes la_echoFrom la_echoTo (0 : Int32) post)
set_option maxRecDepth 20000 in
theorem t_wp_X7_hear_9_61 {p : Program} {l : Launch} {e : Env} {s : State} {m : MethodId} {args : Array Value} {below : List Frame} {meth : Method} {c : Code} {E : zE} {qp ql qs : Nat} {a_heard : Nat → Int32} {a_walked : Nat → Int32} {a_total : Nat → Int32} {a_longest : Nat → Int32} {a_next : Nat → Int32} {a_cover : Nat → Int32} {a_now : Nat → Int32} {a_then : Nat → Int32} {lf_huts : Int32} {lf_singers : Int32} {lf_villages : Int32} {lf_dams : Int32} {lf_echoes : Int32} {lf_deep : Int32} {lf_slide : Int32} {la_heights : Nat → Int32} {la_ladders : Nat → Int32} {la_minutes : Nat → Int32} {la_echoFrom : Nat → Int32} {la_echoTo : Nat → Int32} {la_homes : Nat → Int32} {la_talls : Nat → Int32} {la_known : Nat → Int32} {sf_facts : Int32} {sa_heard : Nat → Int32} {sa_huts : Nat → Int32} {sa_minutes : Nat → Int32} {P12 : Int32 → (Nat → Int32) → Prop} {P22 : Int32 → (Nat → Int32) → Prop} {post : (Nat → Int32) → Prop} {x2 : Int32} {x3 : Int32} {ls : Array Slot} {H : Heap} {locs : List Loc}
    (zc : zC p s m args meth c cX7_hear 4 RX7 none)
    (hK : zK E s)
    (hM : wpW E qp ql qs a_heard a_walked a_total a_longest a_next a_cover a_now a_then lf_huts lf_singers lf_villages lf_dams lf_echoes lf_deep lf_slide la_heights la_ladders la_minutes la_echoFrom la_echoTo la_homes la_talls la_known sf_facts sa_heard sa_huts sa_minutes H)
    (hS : va_S (wpA qp ql qs) s.heap H locs)
    (hP12 : ∀ (x2 : Int32) (a_heard : Nat → Int32) (H : Heap) (locs : List Loc) (ls : Array Slot), P12 x2 a_heard → lv_has ls 4 [(0, .ref qp), (1, .ref ql), (2, .int x2)] → wpW E qp ql qs a_heard a_walked a_total a_longest a_next a_cover a_now a_then lf_huts lf_singers lf_villages lf_dams lf_echoes lf_deep lf_slide la_heights la_ladders la_minutes la_echoFrom la_echoTo la_homes la_talls la_known sf_facts sa_heard sa_huts sa_minutes H → va_S (wpA qp ql qs) s.heap H locs → W p l e rm_wp_X7_hear_9 s m args below meth c H locs 0 0 (MQ below (zQv (S := (Nat → Int32)) (fun u => post u) (fun u H => wpW E qp ql qs u a_walked a_total a_longest a_next a_cover a_now a_then lf_huts lf_singers lf_villages lf_dams lf_echoes lf_deep lf_slide la_heights la_ladders la_minutes la_echoFrom la_echoTo la_homes la_talls la_known sf_facts sa_heard sa_huts sa_minutes H) (wpA qp ql qs)) args s 0 0 (wpA qp ql qs)) (F0 m 12 ls []))
    (hP22 : ∀ (x3 : Int32) (a_heard : Nat → Int32) (H : Heap) (locs : List Loc) (ls : Array Slot), P22 x3 a_heard → lv_has ls 4 [(0, .ref qp), (1, .ref ql), (2, .int x2), (3, .int x3)] → wpW E qp ql qs a_heard a_walked a_total a_longest a_next a_cover a_now a_then lf_huts lf_singers lf_villages lf_dams lf_echoes lf_deep lf_slide la_heights la_ladders la_minutes la_echoFrom la_echoTo la_homes la_talls la_known sf_facts sa_heard sa_huts sa_minutes H → va_S (wpA qp ql qs) s.heap H locs → W p l e rm_wp_X7_hear_9 s m args below meth c H locs 0 0 (MQ below (zQv (S := (Nat → Int32)) (fun u => post u) (fun u H => wpW E qp ql qs u a_walked a_total a_longest a_next a_cover a_now a_then lf_huts lf_singers lf_villages lf_dams lf_echoes lf_deep lf_slide la_heights la_ladders la_minutes la_echoFrom la_echoTo la_homes la_talls la_known sf_facts sa_heard sa_huts sa_minutes H) (wpA qp ql qs)) args s 0 0 (wpA qp ql qs)) (F0 m 22 ls []))
    (hl : lv_has ls 4 [(0, .ref qp), (1, .ref ql), (2, .int x2), (3, .int x3)])
    (hw : q_wp_X7_hear_9_61 P12 P22 a_heard lf_huts lf_dams lf_echoes la_heights la_minutes la_echoFrom la_echoTo x2 x3 post) :
    W p l e rm_wp_X7_hear_9 s m args below meth c H locs 0 0 (MQ below (zQv (S := (Nat → Int32)) (fun u => post u) (fun u H => wpW E qp ql qs u a_walked a_total a_longest a_next a_cover a_now a_then lf_huts lf_singers lf_villages lf_dams lf_echoes lf_deep lf_slide la_heights la_ladders la_minutes la_echoFrom la_echoTo la_homes la_talls la_known sf_facts sa_heard sa_huts sa_minutes H) (wpA qp ql qs)) args s 0 0 (wpA qp ql qs)) (F0 m 61 ls []) := by
  have hx := zc.1
  have hb := zc.2.1
  obtain ⟨v_1, ev_1⟩ : ∃ y : Int32, y = x3 + (1 : Int32) := ⟨_, rfl⟩
  have hw := hw v_1 ev_1
  refine lv_iinc (v := v_1) (k := 3) (lv' := [(3, .int v_1), (0, .ref qp), (1, .ref ql), (2, .int x2)]) hx hb dX7_hear_61 hl rfl (by rw [ev_1]; rfl) (by decide) rfl (fun ls hl => ?_)
  refine lv_goto (tgt := 22) hx hb dX7_hear_64 (by decide) ?_
  exact hP22 _ _ _ _ _ hw (lv_sub hl [1, 2, 3, 0] rfl) hM hS
set_option maxRecDepth 20000 in
theorem t_wp_X7_hear_9_85 {p : Program} {l : Launch} {e : Env} {s : State} {m : MethodId} {args : Array Value} {below : List Frame} {meth : Method} {c : Code} {E : zE} {qp ql qs : Nat} {a_heard : Nat → Int32} {a_walked : Nat → Int32} {a_total : Nat → Int32} {a_longest : Nat → Int32} {a_next : Nat → Int32} {a_cover : Nat → Int32} {a_now : Nat → Int32} {a_then : Nat → Int32} {lf_huts : Int32} {lf_singers : Int32} {lf_villages : Int32} {lf_dams : Int32} {lf_echoes : Int32} {lf_deep : Int32} {lf_slide : Int32} {la_heights : Nat → Int32} {la_ladders : Nat → Int32} {la_minutes : Nat → Int32} {la_echoFrom : Nat → Int32} {la_echoTo : Nat → Int32} {la_homes : Nat → Int32} {la_talls : Nat → Int32} {la_known : Nat → Int32} {sf_facts : Int32} {sa_heard : Nat → Int32} {sa_huts : Nat → Int32} {sa_minutes : Nat → Int32} {P12 : Int32 → (Nat → Int32) → Prop} {post : (Nat → Int32) → Prop} {x2 : Int32} {ls : Array Slot} {H : Heap} {locs : List Loc}
    (zc : zC p s m args meth c cX7_hear 4 RX7 none)
    (hK : zK E s)
    (hM : wpW E qp ql qs a_heard a_walked a_total a_longest a_next a_cover a_now a_then lf_huts lf_singers lf_villages lf_dams lf_echoes lf_deep lf_slide la_heights la_ladders la_minutes la_echoFrom la_echoTo la_homes la_talls la_known sf_facts sa_heard sa_huts sa_minutes H)
    (hS : va_S (wpA qp ql qs) s.heap H locs)
    (hP12 : ∀ (x2 : Int32) (a_heard : Nat → Int32) (H : Heap) (locs : List Loc) (ls : Array Slot), P12 x2 a_heard → lv_has ls 4 [(0, .ref qp), (1, .ref ql), (2, .int x2)] → wpW E qp ql qs a_heard a_walked a_total a_longest a_next a_cover a_now a_then lf_huts lf_singers lf_villages lf_dams lf_echoes lf_deep lf_slide la_heights la_ladders la_minutes la_echoFrom la_echoTo la_homes la_talls la_known sf_facts sa_heard sa_huts sa_minutes H → va_S (wpA qp ql qs) s.heap H locs → W p l e rm_wp_X7_hear_9 s m args below meth c H locs 0 0 (MQ below (zQv (S := (Nat → Int32)) (fun u => post u) (fun u H => wpW E qp ql qs u a_walked a_total a_longest a_next a_cover a_now a_then lf_huts lf_singers lf_villages lf_dams lf_echoes lf_deep lf_slide la_heights la_ladders la_minutes la_echoFrom la_echoTo la_homes la_talls la_known sf_facts sa_heard sa_huts sa_minutes H) (wpA qp ql qs)) args s 0 0 (wpA qp ql qs)) (F0 m 12 ls []))
    (hl : lv_has ls 4 [(0, .ref qp), (1, .ref ql), (2, .int x2)])
    (hw : q_wp_X7_hear_9_85 P12 a_heard lf_huts lf_dams lf_echoes la_heights la_minutes la_echoFrom la_echoTo x2 post) :
    W p l e rm_wp_X7_hear_9 s m args below meth c H locs 0 0 (MQ below (zQv (S := (Nat → Int32)) (fun u => post u) (fun u H => wpW E qp ql qs u a_walked a_total a_longest a_next a_cover a_now a_then lf_huts lf_singers lf_villages lf_dams lf_echoes lf_deep lf_slide la_heights la_ladders la_minutes la_echoFrom la_echoTo la_homes la_talls la_known sf_facts sa_heard sa_huts sa_minutes H) (wpA qp ql qs)) args s 0 0 (wpA qp ql qs)) (F0 m 85 ls []) := by
  have hx := zc.1
  have hb := zc.2.1
  obtain ⟨v_1, ev_1⟩ : ∃ y : Int32, y = x2 + (1 : Int32) := ⟨_, rfl⟩
  have hw := hw v_1 ev_1
  refine lv_iinc (v := v_1) (k := 2) (lv' := [(2, .int v_1), (0, .ref qp), (1, .ref ql)]) hx hb dX7_hear_85 hl rfl (by rw [ev_1]; rfl) (by decide) rfl (fun ls hl => ?_)
  refine lv_goto (tgt := 12) hx hb dX7_hear_88 (by decide) ?_
  exact hP12 _ _ _ _ _ hw (lv_sub hl [1, 2, 0] rfl) hM hS
set_option maxRecDepth 20000 in
theorem t_wp_X7_hear_9_22 {p : Program} {l : Launch} {e : Env} {s : State} {m : MethodId} {args : Array Value} {below : List Frame} {meth : Method} {c : Code} {E : zE} {qp ql qs : Nat} {a_heard : Nat → Int32} {a_walked : Nat → Int32} {a_total : Nat → Int32} {a_longest : Nat → Int32} {a_next : Nat → Int32} {a_cover : Nat → Int32} {a_now : Nat → Int32} {a_then : Nat → Int32} {lf_huts : Int32} {lf_singers : Int32} {lf_villages : Int32} {lf_dams : Int32} {lf_echoes : Int32} {lf_deep : Int32} {lf_slide : Int32} {la_heights : Nat → Int32} {la_ladders : Nat → Int32} {la_minutes : Nat → Int32} {la_echoFrom : Nat → Int32} {la_echoTo : Nat → Int32} {la_homes : Nat → Int32} {la_talls : Nat → Int32} {la_known : Nat → Int32} {sf_facts : Int32} {sa_heard : Nat → Int32} {sa_huts : Nat → Int32} {sa_minutes : Nat → Int32} {P12 : Int32 → (Nat → Int32) → Prop} {post : (Nat → Int32) → Prop} {x2 : Int32} {x3 : Int32} {ls : Array Slot} {H : Heap} {locs : List Loc}
    (zc : zC p s m args meth c cX7_hear 4 RX7 none)
    (hK : zK E s)
    (hM : wpW E qp ql qs a_heard a_walked a_total a_longest a_next a_cover a_now a_then lf_huts lf_singers lf_villages lf_dams lf_echoes lf_deep lf_slide la_heights la_ladders la_minutes la_echoFrom la_echoTo la_homes la_talls la_known sf_facts sa_heard sa_huts sa_minutes H)
    (hS : va_S (wpA qp ql qs) s.heap H locs)
    (hP12 : ∀ (x2 : Int32) (a_heard : Nat → Int32) (H : Heap) (locs : List Loc) (ls : Array Slot), P12 x2 a_heard → lv_has ls 4 [(0, .ref qp), (1, .ref ql), (2, .int x2)] → wpW E qp ql qs a_heard a_walked a_total a_longest a_next a_cover a_now a_then lf_huts lf_singers lf_villages lf_dams lf_echoes lf_deep lf_slide la_heights la_ladders la_minutes la_echoFrom la_echoTo la_homes la_talls la_known sf_facts sa_heard sa_huts sa_minutes H → va_S (wpA qp ql qs) s.heap H locs → W p l e rm_wp_X7_hear_9 s m args below meth c H locs 0 0 (MQ below (zQv (S := (Nat → Int32)) (fun u => post u) (fun u H => wpW E qp ql qs u a_walked a_total a_longest a_next a_cover a_now a_then lf_huts lf_singers lf_villages lf_dams lf_echoes lf_deep lf_slide la_heights la_ladders la_minutes la_echoFrom la_echoTo la_homes la_talls la_known sf_facts sa_heard sa_huts sa_minutes H) (wpA qp ql qs)) args s 0 0 (wpA qp ql qs)) (F0 m 12 ls []))
    (hl : lv_has ls 4 [(0, .ref qp), (1, .ref ql), (2, .int x2), (3, .int x3)])
    (hw : q_wp_X7_hear_9_22 P12 a_heard lf_huts lf_dams lf_echoes la_heights la_minutes la_echoFrom la_echoTo x2 x3 post) :
    W p l e rm_wp_X7_hear_9 s m args below meth c H locs 0 0 (MQ below (zQv (S := (Nat → Int32)) (fun u => post u) (fun u H => wpW E qp ql qs u a_walked a_total a_longest a_next a_cover a_now a_then lf_huts lf_singers lf_villages lf_dams lf_echoes lf_deep lf_slide la_heights la_ladders la_minutes la_echoFrom la_echoTo la_homes la_talls la_known sf_facts sa_heard sa_huts sa_minutes H) (wpA qp ql qs)) args s 0 0 (wpA qp ql qs)) (F0 m 22 ls []) := by
  have hx := zc.1
  have hb := zc.2.1
  refine hw (fun x3 a_heard => ∀ (H : Heap) (locs : List Loc) (ls : Array Slot), lv_has ls 4 [(0, .ref qp), (1, .ref ql), (2, .int x2), (3, .int x3)] → wpW E qp ql qs a_heard a_walked a_total a_longest a_next a_cover a_now a_then lf_huts lf_singers lf_villages lf_dams lf_echoes lf_deep lf_slide la_heights la_ladders la_minutes la_echoFrom la_echoTo la_homes la_talls la_known sf_facts sa_heard sa_huts sa_minutes H → va_S (wpA qp ql qs) s.heap H locs → W p l e rm_wp_X7_hear_9 s m args below meth c H locs 0 0 (MQ below (zQv (S := (Nat → Int32)) (fun u => post u) (fun u H => wpW E qp ql qs u a_walked a_total a_longest a_next a_cover a_now a_then lf_huts lf_singers lf_villages lf_dams lf_echoes lf_deep lf_slide la_heights la_ladders la_minutes la_echoFrom la_echoTo la_homes la_talls la_known sf_facts sa_heard sa_huts sa_minutes H) (wpA qp ql qs)) args s 0 0 (wpA qp ql qs)) (F0 m 22 ls [])) ?_ _ _ _ hl hM hS
  intro x3 a_heard hw H locs ls hl hM hS
  refine lv_iload_n hx hb dX7_hear_22 rfl (lv_at hl 3 rfl) ?_
  refine lv_aload_n hx hb dX7_hear_23 rfl (lv_at hl 1 rfl) ?_
  refine wpg_7_42_9 zc hK hM dX7_hear_24 ?_
  refine lv_icmp_ge (tgt := 67) hx hb dX7_hear_27 (by decide) (fun hc => ?_) (fun hc => ?_)
  · have hw := hw.1 hc
    refine lv_aload_n hx hb dX7_hear_67 rfl (lv_at hl 1 rfl) ?_
    refine lv_iload_n hx hb dX7_hear_68 rfl (lv_at hl 2 rfl) ?_
    refine zV_i [.int x2] [] zc ky_X2_isDam kz_X2_isDam km_7_55 (c_wl_X2_isDam l hw) (wlPreV0 hK (pj_wp_wl_9 hM)) rfl rfl hl.1 (Nat.le_of_ble_eq_true rfl) ⟨rfl, rfl⟩ ⟨Nat.le_of_ble_eq_true rfl, Nat.le_of_ble_eq_true rfl⟩ ⟨(Nat.zero_le _), (Nat.zero_le _)⟩ dX7_hear_69 (fun r_1 hw => ?_)
    refine lv_if_ne (tgt := 85) hx hb dX7_hear_72 (by decide) (fun hc => ?_) (fun hc => ?_)
    · have hw := hw.1 hc
      exact t_wp_X7_hear_9_85 zc hK hM hS hP12 (lv_sub hl [0, 1, 2] rfl) hw
    · have hw := hw.2 hc
      refine lv_aload_n hx hb dX7_hear_75 rfl (lv_at hl 0 rfl) ?_
      refine lv_iload_n hx hb dX7_hear_76 rfl (lv_at hl 2 rfl) ?_
      refine lv_aload_n hx hb dX7_hear_77 rfl (lv_at hl 1 rfl) ?_
      refine lv_iload_n hx hb dX7_hear_78 rfl (lv_at hl 2 rfl) ?_
      refine zV_i [.int x2] [.int x2, .ref qp] zc ky_X2_earshot kz_X2_earshot km_7_59 (c_wl_X2_earshot l hw) (wlPreV0 hK (pj_wp_wl_9 hM)) rfl rfl hl.1 (Nat.le_of_ble_eq_true rfl) ⟨rfl, rfl⟩ ⟨Nat.le_of_ble_eq_true rfl, Nat.le_of_ble_eq_true rfl⟩ ⟨(Nat.zero_le _), (Nat.zero_le _)⟩ dX7_hear_79 (fun r_2 hw => ?_)
      refine zVw_v [.int x2, .int r_2] [] zc ky_X7_markAtOnce kz_X7_markAtOnce km_7_63 (c_wp_X7_markAtOnce l hw) (wpPreV0 hK hM) hS rfl rfl hl.1 (Nat.le_of_ble_eq_true rfl) ⟨rfl, rfl⟩ ⟨Nat.le_of_ble_eq_true rfl, Nat.le_of_ble_eq_true rfl⟩ ⟨(Nat.zero_le _), (Nat.zero_le _)⟩ dX7_hear_82 (fun a_heard_1 H locs hw hM hS => ?_)
      exact t_wp_X7_hear_9_85 zc hK hM hS hP12 (lv_sub hl [0, 1, 2] rfl) hw
  · have hw := hw.2 hc
    refine lv_aload_n hx hb dX7_hear_30 rfl (lv_at hl 1 rfl) ?_
    refine lv_iload_n hx hb dX7_hear_31 rfl (lv_at hl 2 rfl) ?_
    refine lv_iload_n hx hb dX7_hear_32 rfl (lv_at hl 3 rfl) ?_
    refine zV_i [.int x2, .int x3] [] zc ky_X2_leads kz_X2_leads km_7_48 (c_wl_X2_leads l hw) (wlPreV0 hK (pj_wp_wl_9 hM)) rfl rfl hl.1 (Nat.le_of_ble_eq_true rfl) ⟨rfl, rfl⟩ ⟨Nat.le_of_ble_eq_true rfl, Nat.le_of_ble_eq_true rfl⟩ ⟨(Nat.zero_le _), (Nat.zero_le _)⟩ dX7_hear_33 (fun r_3 hw => ?_)
    refine lv_if_eq (tgt := 61) hx hb dX7_hear_36 (by decide) (fun hc => ?_) (fun hc => ?_)
    · have hw := hw.1 hc
      exact t_wp_X7_hear_9_61 zc hK hM hS hP12 (fun _ _ H locs ls h hl hM hS => h H locs ls hl hM hS) (lv_sub hl [0, 1, 2, 3] rfl) hw
    · have hw := hw.2 hc
      refine lv_aload_n hx hb dX7_hear_39 rfl (lv_at hl 0 rfl) ?_
      refine wpg_7_9_0 zc hK hM dX7_hear_40 ?_
      refine lv_iload_n hx hb dX7_hear_43 rfl (lv_at hl 2 rfl) ?_
      refine lv_bipush (v := (9 : Int32)) hx hb dX7_hear_44 (by decide) ?_
      refine lv_imul hx hb dX7_hear_46 ?_
      refine lv_iload_n hx hb dX7_hear_47 rfl (lv_at hl 3 rfl) ?_
      refine lv_iadd hx hb dX7_hear_48 ?_
      refine lv_aload_n hx hb dX7_hear_49 rfl (lv_at hl 1 rfl) ?_
      refine wpg_7_52_9 zc hK hM dX7_hear_50 ?_
      refine lv_iload_n hx hb dX7_hear_53 rfl (lv_at hl 2 rfl) ?_
      refine lv_bipush (v := (9 : Int32)) hx hb dX7_hear_54 (by decide) ?_
      refine lv_imul hx hb dX7_hear_56 ?_
      refine lv_iload_n hx hb dX7_hear_57 rfl (lv_at hl 3 rfl) ?_
      refine lv_iadd hx hb dX7_hear_58 ?_
      refine wpld_12 zc hK hM hw.1 dX7_hear_59 ?_
      have hw := hw.2
      refine lv_topi (fun v_1 ev_1 => ?_)
      have hw := hw v_1 ev_1
      refine wpst_1 zc hK hM hS hw.1 dX7_hear_60 (fun a_heard_2 H locs ea_heard_2 hM hS => ?_)
      have hw := hw.2 a_heard_2 ea_heard_2
      exact t_wp_X7_hear_9_61 zc hK hM hS hP12 (fun _ _ H locs ls h hl hM hS => h H locs ls hl hM hS) (lv_sub hl [0, 1, 2, 3] rfl) hw
set_option maxRecDepth 20000 in
theorem t_wp_X7_hear_9_12 {p : Program} {l : Launch} {e : Env} {s : State} {m : MethodId} {args : Array Value} {below : List Frame} {meth : Method} {c : Code} {E : zE} {qp ql qs : Nat} {a_heard : Nat → Int32} {a_walked : Nat → Int32} {a_total : Nat → Int32} {a_longest : Nat → Int32} {a_next : Nat → Int32} {a_cover : Nat → Int32} {a_now : Nat → Int32} {a_then : Nat → Int32} {lf_huts : Int32} {lf_singers : Int32} {lf_villages : Int32} {lf_dams : Int32} {lf_echoes : Int32} {lf_deep : Int32} {lf_slide : Int32} {la_heights : Nat → Int32} {la_ladders : Nat → Int32} {la_minutes : Nat → Int32} {la_echoFrom : Nat → Int32} {la_echoTo : Nat → Int32} {la_homes : Nat → Int32} {la_talls : Nat → Int32} {la_known : Nat → Int32} {sf_facts : Int32} {sa_heard : Nat → Int32} {sa_huts : Nat → Int32} {sa_minutes : Nat → Int32} {post : (Nat → Int32) → Prop} {x2 : Int32} {ls : Array Slot} {H : Heap} {locs : List Loc}
    (zc : zC p s m args meth c cX7_hear 4 RX7 none)
    (hK : zK E s)
    (hM : wpW E qp ql qs a_heard a_walked a_total a_longest a_next a_cover a_now a_then lf_huts lf_singers lf_villages lf_dams lf_echoes lf_deep lf_slide la_heights la_ladders la_minutes la_echoFrom la_echoTo la_homes la_talls la_known sf_facts sa_heard sa_huts sa_minutes H)
    (hS : va_S (wpA qp ql qs) s.heap H locs)
    (hl : lv_has ls 4 [(0, .ref qp), (1, .ref ql), (2, .int x2)])
    (hw : q_wp_X7_hear_9_12 a_heard lf_huts lf_dams lf_echoes la_heights la_minutes la_echoFrom la_echoTo x2 post) :
    W p l e rm_wp_X7_hear_9 s m args below meth c H locs 0 0 (MQ below (zQv (S := (Nat → Int32)) (fun u => post u) (fun u H => wpW E qp ql qs u a_walked a_total a_longest a_next a_cover a_now a_then lf_huts lf_singers lf_villages lf_dams lf_echoes lf_deep lf_slide la_heights la_ladders la_minutes la_echoFrom la_echoTo la_homes la_talls la_known sf_facts sa_heard sa_huts sa_minutes H) (wpA qp ql qs)) args s 0 0 (wpA qp ql qs)) (F0 m 12 ls []) := by
  have hx := zc.1
  have hb := zc.2.1
  refine hw (fun x2 a_heard => ∀ (H : Heap) (locs : List Loc) (ls : Array Slot), lv_has ls 4 [(0, .ref qp), (1, .ref ql), (2, .int x2)] → wpW E qp ql qs a_heard a_walked a_total a_longest a_next a_cover a_now a_then lf_huts lf_singers lf_villages lf_dams lf_echoes lf_deep lf_slide la_heights la_ladders la_minutes la_echoFrom la_echoTo la_homes la_talls la_known sf_facts sa_heard sa_huts sa_minutes H → va_S (wpA qp ql qs) s.heap H locs → W p l e rm_wp_X7_hear_9 s m args below meth c H locs 0 0 (MQ below (zQv (S := (Nat → Int32)) (fun u => post u) (fun u H => wpW E qp ql qs u a_walked a_total a_longest a_next a_cover a_now a_then lf_huts lf_singers lf_villages lf_dams lf_echoes lf_deep lf_slide la_heights la_ladders la_minutes la_echoFrom la_echoTo la_homes la_talls la_known sf_facts sa_heard sa_huts sa_minutes H) (wpA qp ql qs)) args s 0 0 (wpA qp ql qs)) (F0 m 12 ls [])) ?_ _ _ _ hl hM hS
  intro x2 a_heard hw H locs ls hl hM hS
  refine lv_iload_n hx hb dX7_hear_12 rfl (lv_at hl 2 rfl) ?_
  refine lv_aload_n hx hb dX7_hear_13 rfl (lv_at hl 1 rfl) ?_
  refine wpg_7_42_9 zc hK hM dX7_hear_14 ?_
  refine lv_icmp_ge (tgt := 91) hx hb dX7_hear_17 (by decide) (fun hc => ?_) (fun hc => ?_)
  · have hw := hw.1 hc
    refine lv_aload_n hx hb dX7_hear_91 rfl (lv_at hl 0 rfl) ?_
    refine wpg_7_9_0 zc hK hM dX7_hear_92 ?_
    refine lv_aload_n hx hb dX7_hear_95 rfl (lv_at hl 1 rfl) ?_
    refine wpg_7_42_9 zc hK hM dX7_hear_96 ?_
    refine zSw_v [.ref (qp + 1), .int lf_huts] [] zc ky_X7_shorten kz_X7_shorten km_7_67 (c_wp_X7_shorten_1 l hw) (wpPreS hK hM) hS rfl rfl hl.1 (Nat.le_of_ble_eq_true rfl) ⟨rfl, rfl⟩ ⟨Nat.le_of_ble_eq_true rfl, Nat.le_of_ble_eq_true rfl⟩ ⟨(Nat.zero_le _), (Nat.zero_le _)⟩ dX7_hear_99 (fun a_heard_1 H locs hw hM hS => ?_)
    exact zret_vw a_heard_1 zc hS hw hM dX7_hear_102
  · have hw := hw.2 hc
    refine lv_iconst (v := (0 : Int32)) hx hb dX7_hear_20 (by decide) ?_
    refine lv_istore_n (lv' := [(3, .int (0 : Int32)), (0, .ref qp), (1, .ref ql), (2, .int x2)]) hx hb dX7_hear_21 rfl hl (by decide) rfl (fun ls hl => ?_)
    exact t_wp_X7_hear_9_22 zc hK hM hS (fun _ _ H locs ls h hl hM hS => h H locs ls hl hM hS) (lv_sub hl [1, 2, 3, 0] rfl) hw
set_option maxRecDepth 20000 in
theorem t_wp_X7_hear_9_0 {p : Program} {l : Launch} {e : Env} {s : State} {m : MethodId} {args : Array Value} {below : List Frame} {meth : Method} {c : Code} {E : zE} {qp ql qs : Nat} {a_heard : Nat → Int32} {a_walked : Nat → Int32} {a_total : Nat → Int32} {a_longest : Nat → Int32} {a_next : Nat → Int32} {a_cover : Nat → Int32} {a_now : Nat → Int32} {a_then : Nat → Int32} {lf_huts : Int32} {lf_singers : Int32} {lf_villages : Int32} {lf_dams : Int32} {lf_echoes : Int32} {lf_deep : Int32} {lf_slide : Int32} {la_heights : Nat → Int32} {la_ladders : Nat → Int32} {la_minutes : Nat → Int32} {la_echoFrom : Nat → Int32} {la_echoTo : Nat → Int32} {la_homes : Nat → Int32} {la_talls : Nat → Int32} {la_known : Nat → Int32} {sf_facts : Int32} {sa_heard : Nat → Int32} {sa_huts : Nat → Int32} {sa_minutes : Nat → Int32} {post : (Nat → Int32) → Prop} {ls : Array Slot} {H : Heap} {locs : List Loc}
    (zc : zC p s m args meth c cX7_hear 4 RX7 none)
    (hK : zK E s)
    (hM : wpW E qp ql qs a_heard a_walked a_total a_longest a_next a_cover a_now a_then lf_huts lf_singers lf_villages lf_dams lf_echoes lf_deep lf_slide la_heights la_ladders la_minutes la_echoFrom la_echoTo la_homes la_talls la_known sf_facts sa_heard sa_huts sa_minutes H)
    (hS : va_S (wpA qp ql qs) s.heap H locs)
    (hl : lv_has ls 4 [(0, .ref qp), (1, .ref ql)])
    (hw : q_wp_X7_hear_9_0 a_heard lf_huts lf_dams lf_echoes la_heights la_minutes la_echoFrom la_echoTo post) :
    W p l e rm_wp_X7_hear_9 s m args below meth c H locs 0 0 (MQ below (zQv (S := (Nat → Int32)) (fun u => post u) (fun u H => wpW E qp ql qs u a_walked a_total a_longest a_next a_cover a_now a_then lf_huts lf_singers lf_villages lf_dams lf_echoes lf_deep lf_slide la_heights la_ladders la_minutes la_echoFrom la_echoTo la_homes la_talls la_known sf_facts sa_heard sa_huts sa_minutes H) (wpA qp ql qs)) args s 0 0 (wpA qp ql qs)) (F0 m 0 ls []) := by
  have hx := zc.1
  have hb := zc.2.1
  refine lv_aload_n hx hb dX7_hear_0 rfl (lv_at hl 0 rfl) ?_
  refine wpg_7_9_0 zc hK hM dX7_hear_1 ?_
  refine lv_sipush (v := (1000 : Int32)) hx hb dX7_hear_4 (by decide) ?_
  refine zSw_v [.ref (qp + 1), .int (1000 : Int32)] [] zc ky_J7_fill_53178 kz_J7_fill_53178 km_7_36 (c_wp_J7_fill_53178_1 l hw) (wpPreS hK hM) hS rfl rfl hl.1 (Nat.le_of_ble_eq_true rfl) ⟨rfl, rfl⟩ ⟨Nat.le_of_ble_eq_true rfl, Nat.le_of_ble_eq_true rfl⟩ ⟨(Nat.zero_le _), (Nat.zero_le _)⟩ dX7_hear_7 (fun a_heard_1 H locs hw hM hS => ?_)
  refine lv_iconst (v := (0 : Int32)) hx hb dX7_hear_10 (by decide) ?_
  refine lv_istore_n (lv' := [(2, .int (0 : Int32)), (0, .ref qp), (1, .ref ql)]) hx hb dX7_hear_11 rfl hl (by decide) rfl (fun ls hl => ?_)
  exact t_wp_X7_hear_9_12 zc hK hM hS  (lv_sub hl [1, 2, 0] rfl) hw
set_option maxRecDepth 20000 in
theorem c_wp_X7_hear_9 (l : Launch) {E : zE} {qp ql qs : Nat} {a_heard : Nat → Int32} {a_walked : Nat → Int32} {a_total : Nat → Int32} {a_longest : Nat → Int32} {a_next : Nat → Int32} {a_cover : Nat → Int32} {a_now : Nat → Int32} {a_then : Nat → Int32} {lf_huts : Int32} {lf_singers : Int32} {lf_villages : Int32} {lf_dams : Int32} {lf_echoes : Int32} {lf_deep : Int32} {lf_slide : Int32} {la_heights : Nat → Int32} {la_ladders : Nat → Int32} {la_minutes : Nat → Int32} {la_echoFrom : Nat → Int32} {la_echoTo : Nat → Int32} {la_homes : Nat → Int32} {la_talls : Nat → Int32} {la_known : Nat → Int32} {sf_facts : Int32} {sa_heard : Nat → Int32} {sa_huts : Nat → Int32} {sa_minutes : Nat → Int32} {post : (Nat → Int32) → Prop} (hw : q_wp_X7_hear_9_0 a_heard lf_huts lf_dams lf_echoes la_heights la_minutes la_echoFrom la_echoTo post) : Met l yX7_hear (Cond.code yX7_hear cX7_hear 4 none :: zb) rm_wp_X7_hear_9 (va_Pc [.ref qp, .ref ql] (fun U => wpW E qp ql qs a_heard a_walked a_total a_longest a_next a_cover a_now a_then lf_huts lf_singers lf_villages lf_dams lf_echoes lf_deep lf_slide la_heights la_ladders la_minutes la_echoFrom la_echoTo la_homes la_talls la_known sf_facts sa_heard sa_huts sa_minutes U.heap ∧ zK E U)) (zQv (S := (Nat → Int32)) (fun u => post u) (fun u H => wpW E qp ql qs u a_walked a_total a_longest a_next a_cover a_now a_then lf_huts lf_singers lf_villages lf_dams lf_echoes lf_deep lf_slide la_heights la_ladders la_minutes la_echoFrom la_echoTo la_homes la_talls la_known sf_facts sa_heard sa_huts sa_minutes H) (wpA qp ql qs)) 0 0 (wpA qp ql qs) := by
  refine Met.ofW (cc := cX7_hear) (maxL := 4) (ret := none) (by decide) rfl ?_
  intro p e s m args below meth c s₁ B hml hv
  obtain ⟨rfl, hM, hK⟩ := hv
  have zc := zc_of B hml
  have hl := lv_entry ([.ref qp, .ref ql]) (n := 4) (Nat.le_of_ble_eq_true rfl)
  rw [lg_entry_eq]
  generalize (lg_sl ([.ref qp, .ref ql]) ++ List.replicate (4 - (lg_sl ([.ref qp, .ref ql])).length) Slot.unset).toArray = ls at hl ⊢
  have hl : lv_has ls 4 [(0, .ref qp), (1, .ref ql)] := hl
  exact t_wp_X7_hear_9_0 zc hK hM va_S.rf (lv_sub hl [0, 1] rfl) hw
-- wp_J7_fill_53178_2
abbrev rm_wp_J7_fill_53178_2 : Room := { frames := 0, cells := 0, slots := 0, locals := 0 }
def q_wp_J7_fill_53178_2_5 (a_walked : Nat → Int32) (x1 : Int32) (x2 : Int32) (x3 : Int32) (post : (Nat → Int32) → Prop) : Prop :=
  ∀ P5 : Int32 → (Nat → Int32) → Prop, (∀ (x2 : Int32) (a_walked : Nat → Int32), ((x3 ≤ x2 → (post a_walked)) ∧ (¬ x3 ≤ x2 → (vp_in x2 81 ∧ (∀ a_walked_1 : Nat → Int32, a_walked_1 = upd a_walked (Int32.toNatClampNeg x2) x1 → (∀ v_1 : Int32, v_1 = x2 + (1 : Int32) → (P5 v_1 a_walked_1)))))) → P5 x2 a_walked) → P5 x2 a_walked
def q_wp_J7_fill_53178_2_0 (a_walked : Nat → Int32) (x1 : Int32) (post : (Nat → Int32) → Prop) : Prop :=
  q_wp_J7_fill_53178_2_5 a_walked x1 (0 : Int32) (81 : Int32) post
set_option maxRecDepth 20000 in
theorem t_wp_J7_fill_53178_2_5 {p : Program} {l : Launch} {e : Env} {s : State} {m : MethodId} {args : Array Value} {below : List Frame} {meth : Method} {c : Code} {E : zE} {qp ql qs : Nat} {a_heard : Nat → Int32} {a_walked : Nat → Int32} {a_total : Nat → Int32} {a_longest : Nat → Int32} {a_next : Nat → Int32} {a_cover : Nat → Int32} {a_now : Nat → Int32} {a_then : Nat → Int32} {lf_huts : Int32} {lf_singers : Int32} {lf_villages : Int32} {lf_dams : Int32} {lf_echoes : Int32} {lf_deep : Int32} {lf_slide : Int32} {la_heights : Nat → Int32} {la_ladders : Nat → Int32} {la_minutes : Nat → Int32} {la_echoFrom : Nat → Int32} {la_echoTo : Nat → Int32} {la_homes : Nat → Int32} {la_talls : Nat → Int32} {la_known : Nat → Int32} {sf_facts : Int32} {sa_heard : Nat → Int32} {sa_huts : Nat → Int32} {sa_minutes : Nat → Int32} {post : (Nat → Int32) → Prop} {x1 : Int32} {x2 : Int32} {x3 : Int32} {ls : Array Slot} {H : Heap} {locs : List Loc}
    (zc : zC p s m args meth c cJ7_fill_53178 4 RJ7 none)
    (hK : zK E s)
    (hM : wpW E qp ql qs a_heard a_walked a_total a_longest a_next a_cover a_now a_then lf_huts lf_singers lf_villages lf_dams lf_echoes lf_deep lf_slide la_heights la_ladders la_minutes la_echoFrom la_echoTo la_homes la_talls la_known sf_facts sa_heard sa_huts sa_minutes H)
    (hS : va_S (wpA qp ql qs) s.heap H locs)
    (hl : lv_has ls 4 [(0, .ref (qp + 2)), (1, .int x1), (2, .int x2), (3, .int x3)])
    (hw : q_wp_J7_fill_53178_2_5 a_walked x1 x2 x3 post) :
    W p l e rm_wp_J7_fill_53178_2 s m args below meth c H locs 0 0 (MQ below (zQv (S := (Nat → Int32)) (fun u => post u) (fun u H => wpW E qp ql qs a_heard u a_total a_longest a_next a_cover a_now a_then lf_huts lf_singers lf_villages lf_dams lf_echoes lf_deep lf_slide la_heights la_ladders la_minutes la_echoFrom la_echoTo la_homes la_talls la_known sf_facts sa_heard sa_huts sa_minutes H) (wpA qp ql qs)) args s 0 0 (wpA qp ql qs)) (F0 m 5 ls []) := by
  have hx := zc.1
  have hb := zc.2.1
  refine hw (fun x2 a_walked => ∀ (H : Heap) (locs : List Loc) (ls : Array Slot), lv_has ls 4 [(0, .ref (qp + 2)), (1, .int x1), (2, .int x2), (3, .int x3)] → wpW E qp ql qs a_heard a_walked a_total a_longest a_next a_cover a_now a_then lf_huts lf_singers lf_villages lf_dams lf_echoes lf_deep lf_slide la_heights la_ladders la_minutes la_echoFrom la_echoTo la_homes la_talls la_known sf_facts sa_heard sa_huts sa_minutes H → va_S (wpA qp ql qs) s.heap H locs → W p l e rm_wp_J7_fill_53178_2 s m args below meth c H locs 0 0 (MQ below (zQv (S := (Nat → Int32)) (fun u => post u) (fun u H => wpW E qp ql qs a_heard u a_total a_longest a_next a_cover a_now a_then lf_huts lf_singers lf_villages lf_dams lf_echoes lf_deep lf_slide la_heights la_ladders la_minutes la_echoFrom la_echoTo la_homes la_talls la_known sf_facts sa_heard sa_huts sa_minutes H) (wpA qp ql qs)) args s 0 0 (wpA qp ql qs)) (F0 m 5 ls [])) ?_ _ _ _ hl hM hS
  intro x2 a_walked hw H locs ls hl hM hS
  refine lv_iload_n hx hb dJ7_fill_53178_5 rfl (lv_at hl 2 rfl) ?_
  refine lv_iload_n hx hb dJ7_fill_53178_6 rfl (lv_at hl 3 rfl) ?_
  refine lv_icmp_ge (tgt := 20) hx hb dJ7_fill_53178_7 (by decide) (fun hc => ?_) (fun hc => ?_)
  · have hw := hw.1 hc
    exact zret_vw a_walked zc hS hw hM dJ7_fill_53178_20
  · have hw := hw.2 hc
    refine lv_aload_n hx hb dJ7_fill_53178_10 rfl (lv_at hl 0 rfl) ?_
    refine lv_iload_n hx hb dJ7_fill_53178_11 rfl (lv_at hl 2 rfl) ?_
    refine lv_iload_n hx hb dJ7_fill_53178_12 rfl (lv_at hl 1 rfl) ?_
    refine wpst_2 zc hK hM hS hw.1 dJ7_fill_53178_13 (fun a_walked_1 H locs ea_walked_1 hM hS => ?_)
    have hw := hw.2 a_walked_1 ea_walked_1
    obtain ⟨v_1, ev_1⟩ : ∃ y : Int32, y = x2 + (1 : Int32) := ⟨_, rfl⟩
    have hw := hw v_1 ev_1
    refine lv_iinc (v := v_1) (k := 2) (lv' := [(2, .int v_1), (0, .ref (qp + 2)), (1, .int x1), (3, .int x3)]) hx hb dJ7_fill_53178_14 hl rfl (by rw [ev_1]; rfl) (by decide) rfl (fun ls hl => ?_)
    refine lv_goto (tgt := 5) hx hb dJ7_fill_53178_17 (by decide) ?_
    exact hw _ _ _ (lv_sub hl [1, 2, 0, 3] rfl) hM hS
set_option maxRecDepth 20000 in
theorem t_wp_J7_fill_53178_2_0 {p : Program} {l : Launch} {e : Env} {s : State} {m : MethodId} {args : Array Value} {below : List Frame} {meth : Method} {c : Code} {E : zE} {qp ql qs : Nat} {a_heard : Nat → Int32} {a_walked : Nat → Int32} {a_total : Nat → Int32} {a_longest : Nat → Int32} {a_next : Nat → Int32} {a_cover : Nat → Int32} {a_now : Nat → Int32} {a_then : Nat → Int32} {lf_huts : Int32} {lf_singers : Int32} {lf_villages : Int32} {lf_dams : Int32} {lf_echoes : Int32} {lf_deep : Int32} {lf_slide : Int32} {la_heights : Nat → Int32} {la_ladders : Nat → Int32} {la_minutes : Nat → Int32} {la_echoFrom : Nat → Int32} {la_echoTo : Nat → Int32} {la_homes : Nat → Int32} {la_talls : Nat → Int32} {la_known : Nat → Int32} {sf_facts : Int32} {sa_heard : Nat → Int32} {sa_huts : Nat → Int32} {sa_minutes : Nat → Int32} {post : (Nat → Int32) → Prop} {x1 : Int32} {ls : Array Slot} {H : Heap} {locs : List Loc}
    (zc : zC p s m args meth c cJ7_fill_53178 4 RJ7 none)
    (hK : zK E s)
    (hM : wpW E qp ql qs a_heard a_walked a_total a_longest a_next a_cover a_now a_then lf_huts lf_singers lf_villages lf_dams lf_echoes lf_deep lf_slide la_heights la_ladders la_minutes la_echoFrom la_echoTo la_homes la_talls la_known sf_facts sa_heard sa_huts sa_minutes H)
    (hS : va_S (wpA qp ql qs) s.heap H locs)
    (hl : lv_has ls 4 [(0, .ref (qp + 2)), (1, .int x1)])
    (hw : q_wp_J7_fill_53178_2_0 a_walked x1 post) :
    W p l e rm_wp_J7_fill_53178_2 s m args below meth c H locs 0 0 (MQ below (zQv (S := (Nat → Int32)) (fun u => post u) (fun u H => wpW E qp ql qs a_heard u a_total a_longest a_next a_cover a_now a_then lf_huts lf_singers lf_villages lf_dams lf_echoes lf_deep lf_slide la_heights la_ladders la_minutes la_echoFrom la_echoTo la_homes la_talls la_known sf_facts sa_heard sa_huts sa_minutes H) (wpA qp ql qs)) args s 0 0 (wpA qp ql qs)) (F0 m 0 ls []) := by
  have hx := zc.1
  have hb := zc.2.1
  refine lv_iconst (v := (0 : Int32)) hx hb dJ7_fill_53178_0 (by decide) ?_
  refine lv_istore_n (lv' := [(2, .int (0 : Int32)), (0, .ref (qp + 2)), (1, .int x1)]) hx hb dJ7_fill_53178_1 rfl hl (by decide) rfl (fun ls hl => ?_)
  refine lv_aload_n hx hb dJ7_fill_53178_2 rfl (lv_at hl 1 rfl) ?_
  refine va_alen (v := (81 : Int32)) hx hb hK.1 hM.1 2 1 rfl rfl rfl dJ7_fill_53178_3 ?_
  refine lv_istore_n (lv' := [(3, .int (81 : Int32)), (2, .int (0 : Int32)), (0, .ref (qp + 2)), (1, .int x1)]) hx hb dJ7_fill_53178_4 rfl hl (by decide) rfl (fun ls hl => ?_)
  exact t_wp_J7_fill_53178_2_5 zc hK hM hS  (lv_sub hl [2, 3, 1, 0] rfl) hw
set_option maxRecDepth 20000 in
theorem c_wp_J7_fill_53178_2 (l : Launch) {E : zE} {qp ql qs : Nat} {a_heard : Nat → Int32} {a_walked : Nat → Int32} {a_total : Nat → Int32} {a_longest : Nat → Int32} {a_next : Nat → Int32} {a_cover : Nat → Int32} {a_now : Nat → Int32} {a_then : Nat → Int32} {lf_huts : Int32} {lf_singers : Int32} {lf_villages : Int32} {lf_dams : Int32} {lf_echoes : Int32} {lf_deep : Int32} {lf_slide : Int32} {la_heights : Nat → Int32} {la_ladders : Nat → Int32} {la_minutes : Nat → Int32} {la_echoFrom : Nat → Int32} {la_echoTo : Nat → Int32} {la_homes : Nat → Int32} {la_talls : Nat → Int32} {la_known : Nat → Int32} {sf_facts : Int32} {sa_heard : Nat → Int32} {sa_huts : Nat → Int32} {sa_minutes : Nat → Int32} {x1 : Int32} {post : (Nat → Int32) → Prop} (hw : q_wp_J7_fill_53178_2_0 a_walked x1 post) : Met l yJ7_fill_53178 (Cond.code yJ7_fill_53178 cJ7_fill_53178 4 none :: zb) rm_wp_J7_fill_53178_2 (va_Pc [.ref (qp + 2), .int x1] (fun U => wpW E qp ql qs a_heard a_walked a_total a_longest a_next a_cover a_now a_then lf_huts lf_singers lf_villages lf_dams lf_echoes lf_deep lf_slide la_heights la_ladders la_minutes la_echoFrom la_echoTo la_homes la_talls la_known sf_facts sa_heard sa_huts sa_minutes U.heap ∧ zK E U)) (zQv (S := (Nat → Int32)) (fun u => post u) (fun u H => wpW E qp ql qs a_heard u a_total a_longest a_next a_cover a_now a_then lf_huts lf_singers lf_villages lf_dams lf_echoes lf_deep lf_slide la_heights la_ladders la_minutes la_echoFrom la_echoTo la_homes la_talls la_known sf_facts sa_heard sa_huts sa_minutes H) (wpA qp ql qs)) 0 0 (wpA qp ql qs) := by
  refine Met.ofW (cc := cJ7_fill_53178) (maxL := 4) (ret := none) (by decide) rfl ?_
  intro p e s m args below meth c s₁ B hml hv
  obtain ⟨rfl, hM, hK⟩ := hv
  have zc := zc_of B hml
  have hl := lv_entry ([.ref (qp + 2), .int x1]) (n := 4) (Nat.le_of_ble_eq_true rfl)
  rw [lg_entry_eq]
  generalize (lg_sl ([.ref (qp + 2), .int x1]) ++ List.replicate (4 - (lg_sl ([.ref (qp + 2), .int x1])).length) Slot.unset).toArray = ls at hl ⊢
  have hl : lv_has ls 4 [(0, .ref (qp + 2)), (1, .int x1)] := hl
  exact t_wp_J7_fill_53178_2_0 zc hK hM va_S.rf (lv_sub hl [0, 1] rfl) hw
-- wp_X7_shorten_2
abbrev rm_wp_X7_shorten_2 : Room := { frames := 0, cells := 0, slots := 0, locals := 0 }
def q_wp_X7_shorten_2_80 (P2 : Int32 → (Nat → Int32) → Prop) (P9 : Int32 → (Nat → Int32) → Prop) (P27 : Int32 → (Nat → Int32) → Prop) (a_walked : Nat → Int32) (x1 : Int32) (x2 : Int32) (x3 : Int32) (x4 : Int32) (x5 : Int32) (post : (Nat → Int32) → Prop) : Prop :=
  ∀ v_1 : Int32, v_1 = x5 + (1 : Int32) → (P27 v_1 a_walked)
def q_wp_X7_shorten_2_86 (P2 : Int32 → (Nat → Int32) → Prop) (P9 : Int32 → (Nat → Int32) → Prop) (a_walked : Nat → Int32) (x1 : Int32) (x2 : Int32) (x3 : Int32) (post : (Nat → Int32) → Prop) : Prop :=
  ∀ v_1 : Int32, v_1 = x3 + (1 : Int32) → (P9 v_1 a_walked)
def q_wp_X7_shorten_2_27 (P2 : Int32 → (Nat → Int32) → Prop) (P9 : Int32 → (Nat → Int32) → Prop) (a_walked : Nat → Int32) (x1 : Int32) (x2 : Int32) (x3 : Int32) (x4 : Int32) (x5 : Int32) (post : (Nat → Int32) → Prop) : Prop :=
  ∀ P27 : Int32 → (Nat → Int32) → Prop, (∀ (x5 : Int32) (a_walked : Nat → Int32), ((x1 ≤ x5 → (q_wp_X7_shorten_2_86 P2 P9 a_walked x1 x2 x3 post)) ∧ (¬ x1 ≤ x5 → (((1000 : Int32) ≤ x4 → (q_wp_X7_shorten_2_86 P2 P9 a_walked x1 x2 x3 post)) ∧ (¬ (1000 : Int32) ≤ x4 → (vp_in ((x2 * (9 : Int32)) + x5) 81 ∧ (∀ v_1 : Int32, v_1 = (x4 + (a_walked (Int32.toNatClampNeg ((x2 * (9 : Int32)) + x5)))) → (vp_in ((x3 * (9 : Int32)) + x5) 81 ∧ (((a_walked (Int32.toNatClampNeg ((x3 * (9 : Int32)) + x5))) ≤ v_1 → (q_wp_X7_shorten_2_80 P2 P9 P27 a_walked x1 x2 x3 x4 x5 post)) ∧ (¬ (a_walked (Int32.toNatClampNeg ((x3 * (9 : Int32)) + x5))) ≤ v_1 → (vp_in ((x3 * (9 : Int32)) + x5) 81 ∧ (∀ a_walked_1 : Nat → Int32, a_walked_1 = upd a_walked (Int32.toNatClampNeg ((x3 * (9 : Int32)) + x5)) v_1 → (q_wp_X7_shorten_2_80 P2 P9 P27 a_walked_1 x1 x2 x3 x4 x5 post)))))))))))) → P27 x5 a_walked) → P27 x5 a_walked
def q_wp_X7_shorten_2_9 (P2 : Int32 → (Nat → Int32) → Prop) (a_walked : Nat → Int32) (x1 : Int32) (x2 : Int32) (x3 : Int32) (post : (Nat → Int32) → Prop) : Prop :=
  ∀ P9 : Int32 → (Nat → Int32) → Prop, (∀ (x3 : Int32) (a_walked : Nat → Int32), ((x1 ≤ x3 → (∀ v_1 : Int32, v_1 = x2 + (1 : Int32) → (P2 v_1 a_walked))) ∧ (¬ x1 ≤ x3 → (vp_in ((x3 * (9 : Int32)) + x2) 81 ∧ (∀ v_2 : Int32, v_2 = (a_walked (Int32.toNatClampNeg ((x3 * (9 : Int32)) + x2))) → (q_wp_X7_shorten_2_27 P2 P9 a_walked x1 x2 x3 v_2 (0 : Int32) post))))) → P9 x3 a_walked) → P9 x3 a_walked
def q_wp_X7_shorten_2_2 (a_walked : Nat → Int32) (x1 : Int32) (x2 : Int32) (post : (Nat → Int32) → Prop) : Prop :=
  ∀ P2 : Int32 → (Nat → Int32) → Prop, (∀ (x2 : Int32) (a_walked : Nat → Int32), ((x1 ≤ x2 → (post a_walked)) ∧ (¬ x1 ≤ x2 → (q_wp_X7_shorten_2_9 P2 a_walked x1 x2 (0 : Int32) post))) → P2 x2 a_walked) → P2 x2 a_walked
def q_wp_X7_shorten_2_0 (a_walked : Nat → Int32) (x1 : Int32) (post : (Nat → Int32) → Prop) : Prop :=
  q_wp_X7_shorten_2_2 a_walked x1 (0 : Int32) post
set_option maxRecDepth 20000 in
theorem t_wp_X7_shorten_2_80 {p : Program} {l : Launch} {e : Env} {s : State} {m : MethodId} {args : Array Value} {below : List Frame} {meth : Method} {c : Code} {E : zE} {qp ql qs : Nat} {a_heard : Nat → Int32} {a_walked : Nat → Int32} {a_total : Nat → Int32} {a_longest : Nat → Int32} {a_next : Nat → Int32} {a_cover : Nat → Int32} {a_now : Nat → Int32} {a_then : Nat → Int32} {lf_huts : Int32} {lf_singers : Int32} {lf_villages : Int32} {lf_dams : Int32} {lf_echoes : Int32} {lf_deep : Int32} {lf_slide : Int32} {la_heights : Nat → Int32} {la_ladders : Nat → Int32} {la_minutes : Nat → Int32} {la_echoFrom : Nat → Int32} {la_echoTo : Nat → Int32} {la_homes : Nat → Int32} {la_talls : Nat → Int32} {la_known : Nat → Int32} {sf_facts : Int32} {sa_heard : Nat → Int32} {sa_huts : Nat → Int32} {sa_minutes : Nat → Int32} {P2 : Int32 → (Nat → Int32) → Prop} {P9 : Int32 → (Nat → Int32) → Prop} {P27 : Int32 → (Nat → Int32) → Prop} {post : (Nat → Int32) → Prop} {x1 : Int32} {x2 : Int32} {x3 : Int32} {x4 : Int32} {x5 : Int32} {ls : Array Slot} {H : Heap} {locs : List Loc}
    (zc : zC p s m args meth c cX7_shorten 7 RX7 none)
    (hK : zK E s)
    (hM : wpW E qp ql qs a_heard a_walked a_total a_longest a_next a_cover a_now a_then lf_huts lf_singers lf_villages lf_dams lf_echoes lf_deep lf_slide la_heights la_ladders la_minutes la_echoFrom la_echoTo la_homes la_talls la_known sf_facts sa_heard sa_huts sa_minutes H)
    (hS : va_S (wpA qp ql qs) s.heap H locs)
    (hP2 : ∀ (x2 : Int32) (a_walked : Nat → Int32) (H : Heap) (locs : List Loc) (ls : Array Slot), P2 x2 a_walked → lv_has ls 7 [(0, .ref (qp + 2)), (1, .int x1), (2, .int x2)] → wpW E qp ql qs a_heard a_walked a_total a_longest a_next a_cover a_now a_then lf_huts lf_singers lf_villages lf_dams lf_echoes lf_deep lf_slide la_heights la_ladders la_minutes la_echoFrom la_echoTo la_homes la_talls la_known sf_facts sa_heard sa_huts sa_minutes H → va_S (wpA qp ql qs) s.heap H locs → W p l e rm_wp_X7_shorten_2 s m args below meth c H locs 0 0 (MQ below (zQv (S := (Nat → Int32)) (fun u => post u) (fun u H => wpW E qp ql qs a_heard u a_total a_longest a_next a_cover a_now a_then lf_huts lf_singers lf_villages lf_dams lf_echoes lf_deep lf_slide la_heights la_ladders la_minutes la_echoFrom la_echoTo la_homes la_talls la_known sf_facts sa_heard sa_huts sa_minutes H) (wpA qp ql qs)) args s 0 0 (wpA qp ql qs)) (F0 m 2 ls []))
    (hP9 : ∀ (x3 : Int32) (a_walked : Nat → Int32) (H : Heap) (locs : List Loc) (ls : Array Slot), P9 x3 a_walked → lv_has ls 7 [(0, .ref (qp + 2)), (1, .int x1), (2, .int x2), (3, .int x3)] → wpW E qp ql qs a_heard a_walked a_total a_longest a_next a_cover a_now a_then lf_huts lf_singers lf_villages lf_dams lf_echoes lf_deep lf_slide la_heights la_ladders la_minutes la_echoFrom la_echoTo la_homes la_talls la_known sf_facts sa_heard sa_huts sa_minutes H → va_S (wpA qp ql qs) s.heap H locs → W p l e rm_wp_X7_shorten_2 s m args below meth c H locs 0 0 (MQ below (zQv (S := (Nat → Int32)) (fun u => post u) (fun u H => wpW E qp ql qs a_heard u a_total a_longest a_next a_cover a_now a_then lf_huts lf_singers lf_villages lf_dams lf_echoes lf_deep lf_slide la_heights la_ladders la_minutes la_echoFrom la_echoTo la_homes la_talls la_known sf_facts sa_heard sa_huts sa_minutes H) (wpA qp ql qs)) args s 0 0 (wpA qp ql qs)) (F0 m 9 ls []))
    (hP27 : ∀ (x5 : Int32) (a_walked : Nat → Int32) (H : Heap) (locs : List Loc) (ls : Array Slot), P27 x5 a_walked → lv_has ls 7 [(0, .ref (qp + 2)), (1, .int x1), (2, .int x2), (3, .int x3), (4, .int x4), (5, .int x5)] → wpW E qp ql qs a_heard a_walked a_total a_longest a_next a_cover a_now a_then lf_huts lf_singers lf_villages lf_dams lf_echoes lf_deep lf_slide la_heights la_ladders la_minutes la_echoFrom la_echoTo la_homes la_talls la_known sf_facts sa_heard sa_huts sa_minutes H → va_S (wpA qp ql qs) s.heap H locs → W p l e rm_wp_X7_shorten_2 s m args below meth c H locs 0 0 (MQ below (zQv (S := (Nat → Int32)) (fun u => post u) (fun u H => wpW E qp ql qs a_heard u a_total a_longest a_next a_cover a_now a_then lf_huts lf_singers lf_villages lf_dams lf_echoes lf_deep lf_slide la_heights la_ladders la_minutes la_echoFrom la_echoTo la_homes la_talls la_known sf_facts sa_heard sa_huts sa_minutes H) (wpA qp ql qs)) args s 0 0 (wpA qp ql qs)) (F0 m 27 ls []))
    (hl : lv_has ls 7 [(0, .ref (qp + 2)), (1, .int x1), (2, .int x2), (3, .int x3), (4, .int x4), (5, .int x5)])
    (hw : q_wp_X7_shorten_2_80 P2 P9 P27 a_walked x1 x2 x3 x4 x5 post) :
    W p l e rm_wp_X7_shorten_2 s m args below meth c H locs 0 0 (MQ below (zQv (S := (Nat → Int32)) (fun u => post u) (fun u H => wpW E qp ql qs a_heard u a_total a_longest a_next a_cover a_now a_then lf_huts lf_singers lf_villages lf_dams lf_echoes lf_deep lf_slide la_heights la_ladders la_minutes la_echoFrom la_echoTo la_homes la_talls la_known sf_facts sa_heard sa_huts sa_minutes H) (wpA qp ql qs)) args s 0 0 (wpA qp ql qs)) (F0 m 80 ls []) := by
  have hx := zc.1
  have hb := zc.2.1
  obtain ⟨v_1, ev_1⟩ : ∃ y : Int32, y = x5 + (1 : Int32) := ⟨_, rfl⟩
  have hw := hw v_1 ev_1
  refine lv_iinc (v := v_1) (k := 5) (lv' := [(5, .int v_1), (0, .ref (qp + 2)), (1, .int x1), (2, .int x2), (3, .int x3), (4, .int x4)]) hx hb dX7_shorten_80 hl rfl (by rw [ev_1]; rfl) (by decide) rfl (fun ls hl => ?_)
  refine lv_goto (tgt := 27) hx hb dX7_shorten_83 (by decide) ?_
  exact hP27 _ _ _ _ _ hw (lv_sub hl [1, 2, 3, 4, 5, 0] rfl) hM hS
set_option maxRecDepth 20000 in
theorem t_wp_X7_shorten_2_86 {p : Program} {l : Launch} {e : Env} {s : State} {m : MethodId} {args : Array Value} {below : List Frame} {meth : Method} {c : Code} {E : zE} {qp ql qs : Nat} {a_heard : Nat → Int32} {a_walked : Nat → Int32} {a_total : Nat → Int32} {a_longest : Nat → Int32} {a_next : Nat → Int32} {a_cover : Nat → Int32} {a_now : Nat → Int32} {a_then : Nat → Int32} {lf_huts : Int32} {lf_singers : Int32} {lf_villages : Int32} {lf_dams : Int32} {lf_echoes : Int32} {lf_deep : Int32} {lf_slide : Int32} {la_heights : Nat → Int32} {la_ladders : Nat → Int32} {la_minutes : Nat → Int32} {la_echoFrom : Nat → Int32} {la_echoTo : Nat → Int32} {la_homes : Nat → Int32} {la_talls : Nat → Int32} {la_known : Nat → Int32} {sf_facts : Int32} {sa_heard : Nat → Int32} {sa_huts : Nat → Int32} {sa_minutes : Nat → Int32} {P2 : Int32 → (Nat → Int32) → Prop} {P9 : Int32 → (Nat → Int32) → Prop} {post : (Nat → Int32) → Prop} {x1 : Int32} {x2 : Int32} {x3 : Int32} {ls : Array Slot} {H : Heap} {locs : List Loc}
    (zc : zC p s m args meth c cX7_shorten 7 RX7 none)
    (hK : zK E s)
    (hM : wpW E qp ql qs a_heard a_walked a_total a_longest a_next a_cover a_now a_then lf_huts lf_singers lf_villages lf_dams lf_echoes lf_deep lf_slide la_heights la_ladders la_minutes la_echoFrom la_echoTo la_homes la_talls la_known sf_facts sa_heard sa_huts sa_minutes H)
    (hS : va_S (wpA qp ql qs) s.heap H locs)
    (hP2 : ∀ (x2 : Int32) (a_walked : Nat → Int32) (H : Heap) (locs : List Loc) (ls : Array Slot), P2 x2 a_walked → lv_has ls 7 [(0, .ref (qp + 2)), (1, .int x1), (2, .int x2)] → wpW E qp ql qs a_heard a_walked a_total a_longest a_next a_cover a_now a_then lf_huts lf_singers lf_villages lf_dams lf_echoes lf_deep lf_slide la_heights la_ladders la_minutes la_echoFrom la_echoTo la_homes la_talls la_known sf_facts sa_heard sa_huts sa_minutes H → va_S (wpA qp ql qs) s.heap H locs → W p l e rm_wp_X7_shorten_2 s m args below meth c H locs 0 0 (MQ below (zQv (S := (Nat → Int32)) (fun u => post u) (fun u H => wpW E qp ql qs a_heard u a_total a_longest a_next a_cover a_now a_then lf_huts lf_singers lf_villages lf_dams lf_echoes lf_deep lf_slide la_heights la_ladders la_minutes la_echoFrom la_echoTo la_homes la_talls la_known sf_facts sa_heard sa_huts sa_minutes H) (wpA qp ql qs)) args s 0 0 (wpA qp ql qs)) (F0 m 2 ls []))
    (hP9 : ∀ (x3 : Int32) (a_walked : Nat → Int32) (H : Heap) (locs : List Loc) (ls : Array Slot), P9 x3 a_walked → lv_has ls 7 [(0, .ref (qp + 2)), (1, .int x1), (2, .int x2), (3, .int x3)] → wpW E qp ql qs a_heard a_walked a_total a_longest a_next a_cover a_now a_then lf_huts lf_singers lf_villages lf_dams lf_echoes lf_deep lf_slide la_heights la_ladders la_minutes la_echoFrom la_echoTo la_homes la_talls la_known sf_facts sa_heard sa_huts sa_minutes H → va_S (wpA qp ql qs) s.heap H locs → W p l e rm_wp_X7_shorten_2 s m args below meth c H locs 0 0 (MQ below (zQv (S := (Nat → Int32)) (fun u => post u) (fun u H => wpW E qp ql qs a_heard u a_total a_longest a_next a_cover a_now a_then lf_huts lf_singers lf_villages lf_dams lf_echoes lf_deep lf_slide la_heights la_ladders la_minutes la_echoFrom la_echoTo la_homes la_talls la_known sf_facts sa_heard sa_huts sa_minutes H) (wpA qp ql qs)) args s 0 0 (wpA qp ql qs)) (F0 m 9 ls []))
    (hl : lv_has ls 7 [(0, .ref (qp + 2)), (1, .int x1), (2, .int x2), (3, .int x3)])
    (hw : q_wp_X7_shorten_2_86 P2 P9 a_walked x1 x2 x3 post) :
    W p l e rm_wp_X7_shorten_2 s m args below meth c H locs 0 0 (MQ below (zQv (S := (Nat → Int32)) (fun u => post u) (fun u H => wpW E qp ql qs a_heard u a_total a_longest a_next a_cover a_now a_then lf_huts lf_singers lf_villages lf_dams lf_echoes lf_deep lf_slide la_heights la_ladders la_minutes la_echoFrom la_echoTo la_homes la_talls la_known sf_facts sa_heard sa_huts sa_minutes H) (wpA qp ql qs)) args s 0 0 (wpA qp ql qs)) (F0 m 86 ls []) := by
  have hx := zc.1
  have hb := zc.2.1
  obtain ⟨v_1, ev_1⟩ : ∃ y : Int32, y = x3 + (1 : Int32) := ⟨_, rfl⟩
  have hw := hw v_1 ev_1
  refine lv_iinc (v := v_1) (k := 3) (lv' := [(3, .int v_1), (0, .ref (qp + 2)), (1, .int x1), (2, .int x2)]) hx hb dX7_shorten_86 hl rfl (by rw [ev_1]; rfl) (by decide) rfl (fun ls hl => ?_)
  refine lv_goto (tgt := 9) hx hb dX7_shorten_89 (by decide) ?_
  exact hP9 _ _ _ _ _ hw (lv_sub hl [1, 2, 3, 0] rfl) hM hS
set_option maxRecDepth 20000 in
theorem t_wp_X7_shorten_2_27 {p : Program} {l : Launch} {e : Env} {s : State} {m : MethodId} {args : Array Value} {below : List Frame} {meth : Method} {c : Code} {E : zE} {qp ql qs : Nat} {a_heard : Nat → Int32} {a_walked : Nat → Int32} {a_total : Nat → Int32} {a_longest : Nat → Int32} {a_next : Nat → Int32} {a_cover : Nat → Int32} {a_now : Nat → Int32} {a_then : Nat → Int32} {lf_huts : Int32} {lf_singers : Int32} {lf_villages : Int32} {lf_dams : Int32} {lf_echoes : Int32} {lf_deep : Int32} {lf_slide : Int32} {la_heights : Nat → Int32} {la_ladders : Nat → Int32} {la_minutes : Nat → Int32} {la_echoFrom : Nat → Int32} {la_echoTo : Nat → Int32} {la_homes : Nat → Int32} {la_talls : Nat → Int32} {la_known : Nat → Int32} {sf_facts : Int32} {sa_heard : Nat → Int32} {sa_huts : Nat → Int32} {sa_minutes : Nat → Int32} {P2 : Int32 → (Nat → Int32) → Prop} {P9 : Int32 → (Nat → Int32) → Prop} {post : (Nat → Int32) → Prop} {x1 : Int32} {x2 : Int32} {x3 : Int32} {x4 : Int32} {x5 : Int32} {ls : Array Slot} {H : Heap} {locs : List Loc}
    (zc : zC p s m args meth c cX7_shorten 7 RX7 none)
    (hK : zK E s)
    (hM : wpW E qp ql qs a_heard a_walked a_total a_longest a_next a_cover a_now a_then lf_huts lf_singers lf_villages lf_dams lf_echoes lf_deep lf_slide la_heights la_ladders la_minutes la_echoFrom la_echoTo la_homes la_talls la_known sf_facts sa_heard sa_huts sa_minutes H)
    (hS : va_S (wpA qp ql qs) s.heap H locs)
    (hP2 : ∀ (x2 : Int32) (a_walked : Nat → Int32) (H : Heap) (locs : List Loc) (ls : Array Slot), P2 x2 a_walked → lv_has ls 7 [(0, .ref (qp + 2)), (1, .int x1), (2, .int x2)] → wpW E qp ql qs a_heard a_walked a_total a_longest a_next a_cover a_now a_then lf_huts lf_singers lf_villages lf_dams lf_echoes lf_deep lf_slide la_heights la_ladders la_minutes la_echoFrom la_echoTo la_homes la_talls la_known sf_facts sa_heard sa_huts sa_minutes H → va_S (wpA qp ql qs) s.heap H locs → W p l e rm_wp_X7_shorten_2 s m args below meth c H locs 0 0 (MQ below (zQv (S := (Nat → Int32)) (fun u => post u) (fun u H => wpW E qp ql qs a_heard u a_total a_longest a_next a_cover a_now a_then lf_huts lf_singers lf_villages lf_dams lf_echoes lf_deep lf_slide la_heights la_ladders la_minutes la_echoFrom la_echoTo la_homes la_talls la_known sf_facts sa_heard sa_huts sa_minutes H) (wpA qp ql qs)) args s 0 0 (wpA qp ql qs)) (F0 m 2 ls []))
    (hP9 : ∀ (x3 : Int32) (a_walked : Nat → Int32) (H : Heap) (locs : List Loc) (ls : Array Slot), P9 x3 a_walked → lv_has ls 7 [(0, .ref (qp + 2)), (1, .int x1), (2, .int x2), (3, .int x3)] → wpW E qp ql qs a_heard a_walked a_total a_longest a_next a_cover a_now a_then lf_huts lf_singers lf_villages lf_dams lf_echoes lf_deep lf_slide la_heights la_ladders la_minutes la_echoFrom la_echoTo la_homes la_talls la_known sf_facts sa_heard sa_huts sa_minutes H → va_S (wpA qp ql qs) s.heap H locs → W p l e rm_wp_X7_shorten_2 s m args below meth c H locs 0 0 (MQ below (zQv (S := (Nat → Int32)) (fun u => post u) (fun u H => wpW E qp ql qs a_heard u a_total a_longest a_next a_cover a_now a_then lf_huts lf_singers lf_villages lf_dams lf_echoes lf_deep lf_slide la_heights la_ladders la_minutes la_echoFrom la_echoTo la_homes la_talls la_known sf_facts sa_heard sa_huts sa_minutes H) (wpA qp ql qs)) args s 0 0 (wpA qp ql qs)) (F0 m 9 ls []))
    (hl : lv_has ls 7 [(0, .ref (qp + 2)), (1, .int x1), (2, .int x2), (3, .int x3), (4, .int x4), (5, .int x5)])
    (hw : q_wp_X7_shorten_2_27 P2 P9 a_walked x1 x2 x3 x4 x5 post) :
    W p l e rm_wp_X7_shorten_2 s m args below meth c H locs 0 0 (MQ below (zQv (S := (Nat → Int32)) (fun u => post u) (fun u H => wpW E qp ql qs a_heard u a_total a_longest a_next a_cover a_now a_then lf_huts lf_singers lf_villages lf_dams lf_echoes lf_deep lf_slide la_heights la_ladders la_minutes la_echoFrom la_echoTo la_homes la_talls la_known sf_facts sa_heard sa_huts sa_minutes H) (wpA qp ql qs)) args s 0 0 (wpA qp ql qs)) (F0 m 27 ls []) := by
  have hx := zc.1
  have hb := zc.2.1
  refine hw (fun x5 a_walked => ∀ (H : Heap) (locs : List Loc) (ls : Array Slot), lv_has ls 7 [(0, .ref (qp + 2)), (1, .int x1), (2, .int x2), (3, .int x3), (4, .int x4), (5, .int x5)] → wpW E qp ql qs a_heard a_walked a_total a_longest a_next a_cover a_now a_then lf_huts lf_singers lf_villages lf_dams lf_echoes lf_deep lf_slide la_heights la_ladders la_minutes la_echoFrom la_echoTo la_homes la_talls la_known sf_facts sa_heard sa_huts sa_minutes H → va_S (wpA qp ql qs) s.heap H locs → W p l e rm_wp_X7_shorten_2 s m args below meth c H locs 0 0 (MQ below (zQv (S := (Nat → Int32)) (fun u => post u) (fun u H => wpW E qp ql qs a_heard u a_total a_longest a_next a_cover a_now a_then lf_huts lf_singers lf_villages lf_dams lf_echoes lf_deep lf_slide la_heights la_ladders la_minutes la_echoFrom la_echoTo la_homes la_talls la_known sf_facts sa_heard sa_huts sa_minutes H) (wpA qp ql qs)) args s 0 0 (wpA qp ql qs)) (F0 m 27 ls [])) ?_ _ _ _ hl hM hS
  intro x5 a_walked hw H locs ls hl hM hS
  refine lv_iload hx hb dX7_shorten_27 (lv_at hl 5 rfl) ?_
  refine lv_iload_n hx hb dX7_shorten_29 rfl (lv_at hl 1 rfl) ?_
  refine lv_icmp_ge (tgt := 86) hx hb dX7_shorten_30 (by decide) (fun hc => ?_) (fun hc => ?_)
  · have hw := hw.1 hc
    exact t_wp_X7_shorten_2_86 zc hK hM hS hP2 hP9 (lv_sub hl [0, 1, 2, 3] rfl) hw
  · have hw := hw.2 hc
    refine lv_iload hx hb dX7_shorten_33 (lv_at hl 4 rfl) ?_
    refine lv_sipush (v := (1000 : Int32)) hx hb dX7_shorten_35 (by decide) ?_
    refine lv_icmp_ge (tgt := 86) hx hb dX7_shorten_38 (by decide) (fun hc => ?_) (fun hc => ?_)
    · have hw := hw.1 hc
      exact t_wp_X7_shorten_2_86 zc hK hM hS hP2 hP9 (lv_sub hl [0, 1, 2, 3] rfl) hw
    · have hw := hw.2 hc
      refine lv_iload hx hb dX7_shorten_41 (lv_at hl 4 rfl) ?_
      refine lv_aload_n hx hb dX7_shorten_43 rfl (lv_at hl 0 rfl) ?_
      refine lv_iload_n hx hb dX7_shorten_44 rfl (lv_at hl 2 rfl) ?_
      refine lv_bipush (v := (9 : Int32)) hx hb dX7_shorten_45 (by decide) ?_
      refine lv_imul hx hb dX7_shorten_47 ?_
      refine lv_iload hx hb dX7_shorten_48 (lv_at hl 5 rfl) ?_
      refine lv_iadd hx hb dX7_shorten_50 ?_
      refine wpld_2 zc hK hM hw.1 dX7_shorten_51 ?_
      have hw := hw.2
      refine lv_iadd hx hb dX7_shorten_52 ?_
      refine lv_topi (fun v_1 ev_1 => ?_)
      have hw := hw v_1 ev_1
      refine lv_istore (lv' := [(6, .int v_1), (0, .ref (qp + 2)), (1, .int x1), (2, .int x2), (3, .int x3), (4, .int x4), (5, .int x5)]) hx hb dX7_shorten_53 hl (by decide) rfl (fun ls hl => ?_)
      refine lv_iload hx hb dX7_shorten_55 (lv_at hl 0 rfl) ?_
      refine lv_aload_n hx hb dX7_shorten_57 rfl (lv_at hl 1 rfl) ?_
      refine lv_iload_n hx hb dX7_shorten_58 rfl (lv_at hl 4 rfl) ?_
      refine lv_bipush (v := (9 : Int32)) hx hb dX7_shorten_59 (by decide) ?_
      refine lv_imul hx hb dX7_shorten_61 ?_
      refine lv_iload hx hb dX7_shorten_62 (lv_at hl 6 rfl) ?_
      refine lv_iadd hx hb dX7_shorten_64 ?_
      refine wpld_2 zc hK hM hw.1 dX7_shorten_65 ?_
      have hw := hw.2
      refine lv_icmp_ge (tgt := 80) hx hb dX7_shorten_66 (by decide) (fun hc => ?_) (fun hc => ?_)
      · have hw := hw.1 hc
        exact t_wp_X7_shorten_2_80 zc hK hM hS hP2 hP9 (fun _ _ H locs ls h hl hM hS => h H locs ls hl hM hS) (lv_sub hl [1, 2, 3, 4, 5, 6] rfl) hw
      · have hw := hw.2 hc
        refine lv_aload_n hx hb dX7_shorten_69 rfl (lv_at hl 1 rfl) ?_
        refine lv_iload_n hx hb dX7_shorten_70 rfl (lv_at hl 4 rfl) ?_
        refine lv_bipush (v := (9 : Int32)) hx hb dX7_shorten_71 (by decide) ?_
        refine lv_imul hx hb dX7_shorten_73 ?_
        refine lv_iload hx hb dX7_shorten_74 (lv_at hl 6 rfl) ?_
        refine lv_iadd hx hb dX7_shorten_76 ?_
        refine lv_iload hx hb dX7_shorten_77 (lv_at hl 0 rfl) ?_
        refine wpst_2 zc hK hM hS hw.1 dX7_shorten_79 (fun a_walked_1 H locs ea_walked_1 hM hS => ?_)
        have hw := hw.2 a_walked_1 ea_walked_1
        exact t_wp_X7_shorten_2_80 zc hK hM hS hP2 hP9 (fun _ _ H locs ls h hl hM hS => h H locs ls hl hM hS) (lv_sub hl [1, 2, 3, 4, 5, 6] rfl) hw
set_option maxRecDepth 20000 in
theorem t_wp_X7_shorten_2_9 {p : Program} {l : Launch} {e : Env} {s : State} {m : MethodId} {args : Array Value} {below : List Frame} {meth : Method} {c : Code} {E : zE} {qp ql qs : Nat} {a_heard : Nat → Int32} {a_walked : Nat → Int32} {a_total : Nat → Int32} {a_longest : Nat → Int32} {a_next : Nat → Int32} {a_cover : Nat → Int32} {a_now : Nat → Int32} {a_then : Nat → Int32} {lf_huts : Int32} {lf_singers : Int32} {lf_villages : Int32} {lf_dams : Int32} {lf_echoes : Int32} {lf_deep : Int32} {lf_slide : Int32} {la_heights : Nat → Int32} {la_ladders : Nat → Int32} {la_minutes : Nat → Int32} {la_echoFrom : Nat → Int32} {la_echoTo : Nat → Int32} {la_homes : Nat → Int32} {la_talls : Nat → Int32} {la_known : Nat → Int32} {sf_facts : Int32} {sa_heard : Nat → Int32} {sa_huts : Nat → Int32} {sa_minutes : Nat → Int32} {P2 : Int32 → (Nat → Int32) → Prop} {post : (Nat → Int32) → Prop} {x1 : Int32} {x2 : Int32} {x3 : Int32} {ls : Array Slot} {H : Heap} {locs : List Loc}
    (zc : zC p s m args meth c cX7_shorten 7 RX7 none)
    (hK : zK E s)
    (hM : wpW E qp ql qs a_heard a_walked a_total a_longest a_next a_cover a_now a_then lf_huts lf_singers lf_villages lf_dams lf_echoes lf_deep lf_slide la_heights la_ladders la_minutes la_echoFrom la_echoTo la_homes la_talls la_known sf_facts sa_heard sa_huts sa_minutes H)
    (hS : va_S (wpA qp ql qs) s.heap H locs)
    (hP2 : ∀ (x2 : Int32) (a_walked : Nat → Int32) (H : Heap) (locs : List Loc) (ls : Array Slot), P2 x2 a_walked → lv_has ls 7 [(0, .ref (qp + 2)), (1, .int x1), (2, .int x2)] → wpW E qp ql qs a_heard a_walked a_total a_longest a_next a_cover a_now a_then lf_huts lf_singers lf_villages lf_dams lf_echoes lf_deep lf_slide la_heights la_ladders la_minutes la_echoFrom la_echoTo la_homes la_talls la_known sf_facts sa_heard sa_huts sa_minutes H → va_S (wpA qp ql qs) s.heap H locs → W p l e rm_wp_X7_shorten_2 s m args below meth c H locs 0 0 (MQ below (zQv (S := (Nat → Int32)) (fun u => post u) (fun u H => wpW E qp ql qs a_heard u a_total a_longest a_next a_cover a_now a_then lf_huts lf_singers lf_villages lf_dams lf_echoes lf_deep lf_slide la_heights la_ladders la_minutes la_echoFrom la_echoTo la_homes la_talls la_known sf_facts sa_heard sa_huts sa_minutes H) (wpA qp ql qs)) args s 0 0 (wpA qp ql qs)) (F0 m 2 ls []))
    (hl : lv_has ls 7 [(0, .ref (qp + 2)), (1, .int x1), (2, .int x2), (3, .int x3)])
    (hw : q_wp_X7_shorten_2_9 P2 a_walked x1 x2 x3 post) :
    W p l e rm_wp_X7_shorten_2 s m args below meth c H locs 0 0 (MQ below (zQv (S := (Nat → Int32)) (fun u => post u) (fun u H => wpW E qp ql qs a_heard u a_total a_longest a_next a_cover a_now a_then lf_huts lf_singers lf_villages lf_dams lf_echoes lf_deep lf_slide la_heights la_ladders la_minutes la_echoFrom la_echoTo la_homes la_talls la_known sf_facts sa_heard sa_huts sa_minutes H) (wpA qp ql qs)) args s 0 0 (wpA qp ql qs)) (F0 m 9 ls []) := by
  have hx := zc.1
  have hb := zc.2.1
  refine hw (fun x3 a_walked => ∀ (H : Heap) (locs : List Loc) (ls : Array Slot), lv_has ls 7 [(0, .ref (qp + 2)), (1, .int x1), (2, .int x2), (3, .int x3)] → wpW E qp ql qs a_heard a_walked a_total a_longest a_next a_cover a_now a_then lf_huts lf_singers lf_villages lf_dams lf_echoes lf_deep lf_slide la_heights la_ladders la_minutes la_echoFrom la_echoTo la_homes la_talls la_known sf_facts sa_heard sa_huts sa_minutes H → va_S (wpA qp ql qs) s.heap H locs → W p l e rm_wp_X7_shorten_2 s m args below meth c H locs 0 0 (MQ below (zQv (S := (Nat → Int32)) (fun u => post u) (fun u H => wpW E qp ql qs a_heard u a_total a_longest a_next a_cover a_now a_then lf_huts lf_singers lf_villages lf_dams lf_echoes lf_deep lf_slide la_heights la_ladders la_minutes la_echoFrom la_echoTo la_homes la_talls la_known sf_facts sa_heard sa_huts sa_minutes H) (wpA qp ql qs)) args s 0 0 (wpA qp ql qs)) (F0 m 9 ls [])) ?_ _ _ _ hl hM hS
  intro x3 a_walked hw H locs ls hl hM hS
  refine lv_iload_n hx hb dX7_shorten_9 rfl (lv_at hl 3 rfl) ?_
  refine lv_iload_n hx hb dX7_shorten_10 rfl (lv_at hl 1 rfl) ?_
  refine lv_icmp_ge (tgt := 92) hx hb dX7_shorten_11 (by decide) (fun hc => ?_) (fun hc => ?_)
  · have hw := hw.1 hc
    obtain ⟨v_1, ev_1⟩ : ∃ y : Int32, y = x2 + (1 : Int32) := ⟨_, rfl⟩
    have hw := hw v_1 ev_1
    refine lv_iinc (v := v_1) (k := 2) (lv' := [(2, .int v_1), (0, .ref (qp + 2)), (1, .int x1), (3, .int x3)]) hx hb dX7_shorten_92 hl rfl (by rw [ev_1]; rfl) (by decide) rfl (fun ls hl => ?_)
    refine lv_goto (tgt := 2) hx hb dX7_shorten_95 (by decide) ?_
    exact hP2 _ _ _ _ _ hw (lv_sub hl [1, 2, 0] rfl) hM hS
  · have hw := hw.2 hc
    refine lv_aload_n hx hb dX7_shorten_14 rfl (lv_at hl 0 rfl) ?_
    refine lv_iload_n hx hb dX7_shorten_15 rfl (lv_at hl 3 rfl) ?_
    refine lv_bipush (v := (9 : Int32)) hx hb dX7_shorten_16 (by decide) ?_
    refine lv_imul hx hb dX7_shorten_18 ?_
    refine lv_iload_n hx hb dX7_shorten_19 rfl (lv_at hl 2 rfl) ?_
    refine lv_iadd hx hb dX7_shorten_20 ?_
    refine wpld_2 zc hK hM hw.1 dX7_shorten_21 ?_
    have hw := hw.2
    refine lv_topi (fun v_2 ev_2 => ?_)
    have hw := hw v_2 ev_2
    refine lv_istore (lv' := [(4, .int v_2), (0, .ref (qp + 2)), (1, .int x1), (2, .int x2), (3, .int x3)]) hx hb dX7_shorten_22 hl (by decide) rfl (fun ls hl => ?_)
    refine lv_iconst (v := (0 : Int32)) hx hb dX7_shorten_24 (by decide) ?_
    refine lv_istore (lv' := [(5, .int (0 : Int32)), (4, .int v_2), (0, .ref (qp + 2)), (1, .int x1), (2, .int x2), (3, .int x3)]) hx hb dX7_shorten_25 hl (by decide) rfl (fun ls hl => ?_)
    exact t_wp_X7_shorten_2_27 zc hK hM hS hP2 (fun _ _ H locs ls h hl hM hS => h H locs ls hl hM hS) (lv_sub hl [2, 3, 4, 5, 1, 0] rfl) hw
set_option maxRecDepth 20000 in
theorem t_wp_X7_shorten_2_2 {p : Program} {l : Launch} {e : Env} {s : State} {m : MethodId} {args : Array Value} {below : List Frame} {meth : Method} {c : Code} {E : zE} {qp ql qs : Nat} {a_heard : Nat → Int32} {a_walked : Nat → Int32} {a_total : Nat → Int32} {a_longest : Nat → Int32} {a_next : Nat → Int32} {a_cover : Nat → Int32} {a_now : Nat → Int32} {a_then : Nat → Int32} {lf_huts : Int32} {lf_singers : Int32} {lf_villages : Int32} {lf_dams : Int32} {lf_echoes : Int32} {lf_deep : Int32} {lf_slide : Int32} {la_heights : Nat → Int32} {la_ladders : Nat → Int32} {la_minutes : Nat → Int32} {la_echoFrom : Nat → Int32} {la_echoTo : Nat → Int32} {la_homes : Nat → Int32} {la_talls : Nat → Int32} {la_known : Nat → Int32} {sf_facts : Int32} {sa_heard : Nat → Int32} {sa_huts : Nat → Int32} {sa_minutes : Nat → Int32} {post : (Nat → Int32) → Prop} {x1 : Int32} {x2 : Int32} {ls : Array Slot} {H : Heap} {locs : List Loc}
    (zc : zC p s m args meth c cX7_shorten 7 RX7 none)
    (hK : zK E s)
    (hM : wpW E qp ql qs a_heard a_walked a_total a_longest a_next a_cover a_now a_then lf_huts lf_singers lf_villages lf_dams lf_echoes lf_deep lf_slide la_heights la_ladders la_minutes la_echoFrom la_echoTo la_homes la_talls la_known sf_facts sa_heard sa_huts sa_minutes H)
    (hS : va_S (wpA qp ql qs) s.heap H locs)
    (hl : lv_has ls 7 [(0, .ref (qp + 2)), (1, .int x1), (2, .int x2)])
    (hw : q_wp_X7_shorten_2_2 a_walked x1 x2 post) :
    W p l e rm_wp_X7_shorten_2 s m args below meth c H locs 0 0 (MQ below (zQv (S := (Nat → Int32)) (fun u => post u) (fun u H => wpW E qp ql qs a_heard u a_total a_longest a_next a_cover a_now a_then lf_huts lf_singers lf_villages lf_dams lf_echoes lf_deep lf_slide la_heights la_ladders la_minutes la_echoFrom la_echoTo la_homes la_talls la_known sf_facts sa_heard sa_huts sa_minutes H) (wpA qp ql qs)) args s 0 0 (wpA qp ql qs)) (F0 m 2 ls []) := by
  have hx := zc.1
  have hb := zc.2.1
  refine hw (fun x2 a_walked => ∀ (H : Heap) (locs : List Loc) (ls : Array Slot), lv_has ls 7 [(0, .ref (qp + 2)), (1, .int x1), (2, .int x2)] → wpW E qp ql qs a_heard a_walked a_total a_longest a_next a_cover a_now a_then lf_huts lf_singers lf_villages lf_dams lf_echoes lf_deep lf_slide la_heights la_ladders la_minutes la_echoFrom la_echoTo la_homes la_talls la_known sf_facts sa_heard sa_huts sa_minutes H → va_S (wpA qp ql qs) s.heap H locs → W p l e rm_wp_X7_shorten_2 s m args below meth c H locs 0 0 (MQ below (zQv (S := (Nat → Int32)) (fun u => post u) (fun u H => wpW E qp ql qs a_heard u a_total a_longest a_next a_cover a_now a_then lf_huts lf_singers lf_villages lf_dams lf_echoes lf_deep lf_slide la_heights la_ladders la_minutes la_echoFrom la_echoTo la_homes la_talls la_known sf_facts sa_heard sa_huts sa_minutes H) (wpA qp ql qs)) args s 0 0 (wpA qp ql qs)) (F0 m 2 ls [])) ?_ _ _ _ hl hM hS
  intro x2 a_walked hw H locs ls hl hM hS
  refine lv_iload_n hx hb dX7_shorten_2 rfl (lv_at hl 2 rfl) ?_
  refine lv_iload_n hx hb dX7_shorten_3 rfl (lv_at hl 1 rfl) ?_
  refine lv_icmp_ge (tgt := 98) hx hb dX7_shorten_4 (by decide) (fun hc => ?_) (fun hc => ?_)
  · have hw := hw.1 hc
    exact zret_vw a_walked zc hS hw hM dX7_shorten_98
  · have hw := hw.2 hc
    refine lv_iconst (v := (0 : Int32)) hx hb dX7_shorten_7 (by decide) ?_
    refine lv_istore_n (lv' := [(3, .int (0 : Int32)), (0, .ref (qp + 2)), (1, .int x1), (2, .int x2)]) hx hb dX7_shorten_8 rfl hl (by decide) rfl (fun ls hl => ?_)
    exact t_wp_X7_shorten_2_9 zc hK hM hS (fun _ _ H locs ls h hl hM hS => h H locs ls hl hM hS) (lv_sub hl [1, 2, 3, 0] rfl) hw
set_option maxRecDepth 20000 in
theorem t_wp_X7_shorten_2_0 {p : Program} {l : Launch} {e : Env} {s : State} {m : MethodId} {args : Array Value} {below : List Frame} {meth : Method} {c : Code} {E : zE} {qp ql qs : Nat} {a_heard : Nat → Int32} {a_walked : Nat → Int32} {a_total : Nat → Int32} {a_longest : Nat → Int32} {a_next : Nat → Int32} {a_cover : Nat → Int32} {a_now : Nat → Int32} {a_then : Nat → Int32} {lf_huts : Int32} {lf_singers : Int32} {lf_villages : Int32} {lf_dams : Int32} {lf_echoes : Int32} {lf_deep : Int32} {lf_slide : Int32} {la_heights : Nat → Int32} {la_ladders : Nat → Int32} {la_minutes : Nat → Int32} {la_echoFrom : Nat → Int32} {la_echoTo : Nat → Int32} {la_homes : Nat → Int32} {la_talls : Nat → Int32} {la_known : Nat → Int32} {sf_facts : Int32} {sa_heard : Nat → Int32} {sa_huts : Nat → Int32} {sa_minutes : Nat → Int32} {post : (Nat → Int32) → Prop} {x1 : Int32} {ls : Array Slot} {H : Heap} {locs : List Loc}
    (zc : zC p s m args meth c cX7_shorten 7 RX7 none)
    (hK : zK E s)
    (hM : wpW E qp ql qs a_heard a_walked a_total a_longest a_next a_cover a_now a_then lf_huts lf_singers lf_villages lf_dams lf_echoes lf_deep lf_slide la_heights la_ladders la_minutes la_echoFrom la_echoTo la_homes la_talls la_known sf_facts sa_heard sa_huts sa_minutes H)
    (hS : va_S (wpA qp ql qs) s.heap H locs)
    (hl : lv_has ls 7 [(0, .ref (qp + 2)), (1, .int x1)])
    (hw : q_wp_X7_shorten_2_0 a_walked x1 post) :
    W p l e rm_wp_X7_shorten_2 s m args below meth c H locs 0 0 (MQ below (zQv (S := (Nat → Int32)) (fun u => post u) (fun u H => wpW E qp ql qs a_heard u a_total a_longest a_next a_cover a_now a_then lf_huts lf_singers lf_villages lf_dams lf_echoes lf_deep lf_slide la_heights la_ladders la_minutes la_echoFrom la_echoTo la_homes la_talls la_known sf_facts sa_heard sa_huts sa_minutes H) (wpA qp ql qs)) args s 0 0 (wpA qp ql qs)) (F0 m 0 ls []) := by
  have hx := zc.1
  have hb := zc.2.1
  refine lv_iconst (v := (0 : Int32)) hx hb dX7_shorten_0 (by decide) ?_
  refine lv_istore_n (lv' := [(2, .int (0 : Int32)), (0, .ref (qp + 2)), (1, .int x1)]) hx hb dX7_shorten_1 rfl hl (by decide) rfl (fun ls hl => ?_)
  exact t_wp_X7_shorten_2_2 zc hK hM hS  (lv_sub hl [1, 2, 0] rfl) hw
set_option maxRecDepth 20000 in
theorem c_wp_X7_shorten_2 (l : Launch) {E : zE} {qp ql qs : Nat} {a_heard : Nat → Int32} {a_walked : Nat → Int32} {a_total : Nat → Int32} {a_longest : Nat → Int32} {a_next : Nat → Int32} {a_cover : Nat → Int32} {a_now : Nat → Int32} {a_then : Nat → Int32} {lf_huts : Int32} {lf_singers : Int32} {lf_villages : Int32} {lf_dams : Int32} {lf_echoes : Int32} {lf_deep : Int32} {lf_slide : Int32} {la_heights : Nat → Int32} {la_ladders : Nat → Int32} {la_minutes : Nat → Int32} {la_echoFrom : Nat → Int32} {la_echoTo : Nat → Int32} {la_homes : Nat → Int32} {la_talls : Nat → Int32} {la_known : Nat → Int32} {sf_facts : Int32} {sa_heard : Nat → Int32} {sa_huts : Nat → Int32} {sa_minutes : Nat → Int32} {x1 : Int32} {post : (Nat → Int32) → Prop} (hw : q_wp_X7_shorten_2_0 a_walked x1 post) : Met l yX7_shorten (Cond.code yX7_shorten cX7_shorten 7 none :: zb) rm_wp_X7_shorten_2 (va_Pc [.ref (qp + 2), .int x1] (fun U => wpW E qp ql qs a_heard a_walked a_total a_longest a_next a_cover a_now a_then lf_huts lf_singers lf_villages lf_dams lf_echoes lf_deep lf_slide la_heights la_ladders la_minutes la_echoFrom la_echoTo la_homes la_talls la_known sf_facts sa_heard sa_huts sa_minutes U.heap ∧ zK E U)) (zQv (S := (Nat → Int32)) (fun u => post u) (fun u H => wpW E qp ql qs a_heard u a_total a_longest a_next a_cover a_now a_then lf_huts lf_singers lf_villages lf_dams lf_echoes lf_deep lf_slide la_heights la_ladders la_minutes la_echoFrom la_echoTo la_homes la_talls la_known sf_facts sa_heard sa_huts sa_minutes H) (wpA qp ql qs)) 0 0 (wpA qp ql qs) := by
  refine Met.ofW (cc := cX7_shorten) (maxL := 7) (ret := none) (by decide) rfl ?_
  intro p e s m args below meth c s₁ B hml hv
  obtain ⟨rfl, hM, hK⟩ := hv
  have zc := zc_of B hml
  have hl := lv_entry ([.ref (qp + 2), .int x1]) (n := 7) (Nat.le_of_ble_eq_true rfl)
  rw [lg_entry_eq]
  generalize (lg_sl ([.ref (qp + 2), .int x1]) ++ List.replicate (7 - (lg_sl ([.ref (qp + 2), .int x1])).length) Slot.unset).toArray = ls at hl ⊢
  have hl : lv_has ls 7 [(0, .ref (qp + 2)), (1, .int x1)] := hl
  exact t_wp_X7_shorten_2_0 zc hK hM va_S.rf (lv_sub hl [0, 1] rfl) hw
-- wp_X7_walk_9
abbrev rm_wp_X7_walk_9 : Room := { frames := 1, cells := 0, slots := 0, locals := 26 }
def q_wp_X7_walk_9_61 (P12 : Int32 → (Nat → Int32) → Prop) (P22 : Int32 → (Nat → Int32) → Prop) (a_walked : Nat → Int32) (lf_huts : Int32) (la_minutes : Nat → Int32) (x2 : Int32) (x3 : Int32) (post : (Nat → Int32) → Prop) : Prop :=
  ∀ v_1 : Int32, v_1 = x3 + (1 : Int32) → (P22 v_1 a_walked)
def q_wp_X7_walk_9_22 (P12 : Int32 → (Nat → Int32) → Prop) (a_walked : Nat → Int32) (lf_huts : Int32) (la_minutes : Nat → Int32) (x2 : Int32) (x3 : Int32) (post : (Nat → Int32) → Prop) : Prop :=
  ∀ P22 : Int32 → (Nat → Int32) → Prop, (∀ (x3 : Int32) (a_walked : Nat → Int32), ((lf_huts ≤ x3 → (vp_in ((x2 * (9 : Int32)) + x2) 81 ∧ (∀ a_walked_1 : Nat → Int32, a_walked_1 = upd a_walked (Int32.toNatClampNeg ((x2 * (9 : Int32)) + x2)) (0 : Int32) → (∀ v_1 : Int32, v_1 = x2 + (1 : Int32) → (P12 v_1 a_walked_1))))) ∧ (¬ lf_huts ≤ x3 → (vp_in ((x2 * (9 : Int32)) + x3) 81 ∧ (∀ v_2 : Int32, v_2 = (la_minutes (Int32.toNatClampNeg ((x2 * (9 : Int32)) + x3))) → ((v_2 ≤ 0 → (q_wp_X7_walk_9_61 P12 P22 a_walked lf_huts la_minutes x2 x3 post)) ∧ (¬ v_2 ≤ 0 → (vp_in ((x2 * (9 : Int32)) + x3) 81 ∧ (∀ a_walked_2 : Nat → Int32, a_walked_2 = upd a_walked (Int32.toNatClampNeg ((x2 * (9 : Int32)) + x3)) v_2 → (q_wp_X7_walk_9_61 P12 P22 a_walked_2 lf_huts la_minutes x2 x3 post))))))))) → P22 x3 a_walked) → P22 x3 a_walked
def q_wp_X7_walk_9_12 (a_walked : Nat → Int32) (lf_huts : Int32) (la_minutes : Nat → Int32) (x2 : Int32) (post : (Nat → Int32) → Prop) : Prop :=
  ∀ P12 : Int32 → (Nat → Int32) → Prop, (∀ (x2 : Int32) (a_walked : Nat → Int32), ((lf_huts ≤ x2 → (q_wp_X7_shorten_2_0 a_walked lf_huts (fun a_walked_1 => post a_walked_1))) ∧ (¬ lf_huts ≤ x2 → (q_wp_X7_walk_9_22 P12 a_walked lf_huts la_minutes x2 (0 : Int32) post))) → P12 x2 a_walked) → P12 x2 a_walked
def q_wp_X7_walk_9_0 (a_walked : Nat → Int32) (lf_huts : Int32) (la_minutes : Nat → Int32) (post : (Nat → Int32) → Prop) : Prop :=
  q_wp_J7_fill_53178_2_0 a_walked (1000 : Int32) (fun a_walked_1 => q_wp_X7_walk_9_12 a_walked_1 lf_huts la_minutes (0 : Int32) post)
set_option maxRecDepth 20000 in
theorem t_wp_X7_walk_9_61 {p : Program} {l : Launch} {e : Env} {s : State} {m : MethodId} {args : Array Value} {below : List Frame} {meth : Method} {c : Code} {E : zE} {qp ql qs : Nat} {a_heard : Nat → Int32} {a_walked : Nat → Int32} {a_total : Nat → Int32} {a_longest : Nat → Int32} {a_next : Nat → Int32} {a_cover : Nat → Int32} {a_now : Nat → Int32} {a_then : Nat → Int32} {lf_huts : Int32} {lf_singers : Int32} {lf_villages : Int32} {lf_dams : Int32} {lf_echoes : Int32} {lf_deep : Int32} {lf_slide : Int32} {la_heights : Nat → Int32} {la_ladders : Nat → Int32} {la_minutes : Nat → Int32} {la_echoFrom : Nat → Int32} {la_echoTo : Nat → Int32} {la_homes : Nat → Int32} {la_talls : Nat → Int32} {la_known : Nat → Int32} {sf_facts : Int32} {sa_heard : Nat → Int32} {sa_huts : Nat → Int32} {sa_minutes : Nat → Int32} {P12 : Int32 → (Nat → Int32) → Prop} {P22 : Int32 → (Nat → Int32) → Prop} {post : (Nat → Int32) → Prop} {x2 : Int32} {x3 : Int32} {ls : Array Slot} {H : Heap} {locs : List Loc}
    (zc : zC p s m args meth c cX7_walk 5 RX7 none)
    (hK : zK E s)
    (hM : wpW E qp ql qs a_heard a_walked a_total a_longest a_next a_cover a_now a_then lf_huts lf_singers lf_villages lf_dams lf_echoes lf_deep lf_slide la_heights la_ladders la_minutes la_echoFrom la_echoTo la_homes la_talls la_known sf_facts sa_heard sa_huts sa_minutes H)
    (hS : va_S (wpA qp ql qs) s.heap H locs)
    (hP12 : ∀ (x2 : Int32) (a_walked : Nat → Int32) (H : Heap) (locs : List Loc) (ls : Array Slot), P12 x2 a_walked → lv_has ls 5 [(0, .ref qp), (1, .ref ql), (2, .int x2)] → wpW E qp ql qs a_heard a_walked a_total a_longest a_next a_cover a_now a_then lf_huts lf_singers lf_villages lf_dams lf_echoes lf_deep lf_slide la_heights la_ladders la_minutes la_echoFrom la_echoTo la_homes la_talls la_known sf_facts sa_heard sa_huts sa_minutes H → va_S (wpA qp ql qs) s.heap H locs → W p l e rm_wp_X7_walk_9 s m args below meth c H locs 0 0 (MQ below (zQv (S := (Nat → Int32)) (fun u => post u) (fun u H => wpW E qp ql qs a_heard u a_total a_longest a_next a_cover a_now a_then lf_huts lf_singers lf_villages lf_dams lf_echoes lf_deep lf_slide la_heights la_ladders la_minutes la_echoFrom la_echoTo la_homes la_talls la_known sf_facts sa_heard sa_huts sa_minutes H) (wpA qp ql qs)) args s 0 0 (wpA qp ql qs)) (F0 m 12 ls []))
    (hP22 : ∀ (x3 : Int32) (a_walked : Nat → Int32) (H : Heap) (locs : List Loc) (ls : Array Slot), P22 x3 a_walked → lv_has ls 5 [(0, .ref qp), (1, .ref ql), (2, .int x2), (3, .int x3)] → wpW E qp ql qs a_heard a_walked a_total a_longest a_next a_cover a_now a_then lf_huts lf_singers lf_villages lf_dams lf_echoes lf_deep lf_slide la_heights la_ladders la_minutes la_echoFrom la_echoTo la_homes la_talls la_known sf_facts sa_heard sa_huts sa_minutes H → va_S (wpA qp ql qs) s.heap H locs → W p l e rm_wp_X7_walk_9 s m args below meth c H locs 0 0 (MQ below (zQv (S := (Nat → Int32)) (fun u => post u) (fun u H => wpW E qp ql qs a_heard u a_total a_longest a_next a_cover a_now a_then lf_huts lf_singers lf_villages lf_dams lf_echoes lf_deep lf_slide la_heights la_ladders la_minutes la_echoFrom la_echoTo la_homes la_talls la_known sf_facts sa_heard sa_huts sa_minutes H) (wpA qp ql qs)) args s 0 0 (wpA qp ql qs)) (F0 m 22 ls []))
    (hl : lv_has ls 5 [(0, .ref qp), (1, .ref ql), (2, .int x2), (3, .int x3)])
    (hw : q_wp_X7_walk_9_61 P12 P22 a_walked lf_huts la_minutes x2 x3 post) :
    W p l e rm_wp_X7_walk_9 s m args below meth c H locs 0 0 (MQ below (zQv (S := (Nat → Int32)) (fun u => post u) (fun u H => wpW E qp ql qs a_heard u a_total a_longest a_next a_cover a_now a_then lf_huts lf_singers lf_villages lf_dams lf_echoes lf_deep lf_slide la_heights la_ladders la_minutes la_echoFrom la_echoTo la_homes la_talls la_known sf_facts sa_heard sa_huts sa_minutes H) (wpA qp ql qs)) args s 0 0 (wpA qp ql qs)) (F0 m 61 ls []) := by
  have hx := zc.1
  have hb := zc.2.1
  obtain ⟨v_1, ev_1⟩ : ∃ y : Int32, y = x3 + (1 : Int32) := ⟨_, rfl⟩
  have hw := hw v_1 ev_1
  refine lv_iinc (v := v_1) (k := 3) (lv' := [(3, .int v_1), (0, .ref qp), (1, .ref ql), (2, .int x2)]) hx hb dX7_walk_61 hl rfl (by rw [ev_1]; rfl) (by decide) rfl (fun ls hl => ?_)
  refine lv_goto (tgt := 22) hx hb dX7_walk_64 (by decide) ?_
  exact hP22 _ _ _ _ _ hw (lv_sub hl [1, 2, 3, 0] rfl) hM hS
set_option maxRecDepth 20000 in
theorem t_wp_X7_walk_9_22 {p : Program} {l : Launch} {e : Env} {s : State} {m : MethodId} {args : Array Value} {below : List Frame} {meth : Method} {c : Code} {E : zE} {qp ql qs : Nat} {a_heard : Nat → Int32} {a_walked : Nat → Int32} {a_total : Nat → Int32} {a_longest : Nat → Int32} {a_next : Nat → Int32} {a_cover : Nat → Int32} {a_now : Nat → Int32} {a_then : Nat → Int32} {lf_huts : Int32} {lf_singers : Int32} {lf_villages : Int32} {lf_dams : Int32} {lf_echoes : Int32} {lf_deep : Int32} {lf_slide : Int32} {la_heights : Nat → Int32} {la_ladders : Nat → Int32} {la_minutes : Nat → Int32} {la_echoFrom : Nat → Int32} {la_echoTo : Nat → Int32} {la_homes : Nat → Int32} {la_talls : Nat → Int32} {la_known : Nat → Int32} {sf_facts : Int32} {sa_heard : Nat → Int32} {sa_huts : Nat → Int32} {sa_minutes : Nat → Int32} {P12 : Int32 → (Nat → Int32) → Prop} {post : (Nat → Int32) → Prop} {x2 : Int32} {x3 : Int32} {ls : Array Slot} {H : Heap} {locs : List Loc}
    (zc : zC p s m args meth c cX7_walk 5 RX7 none)
    (hK : zK E s)
    (hM : wpW E qp ql qs a_heard a_walked a_total a_longest a_next a_cover a_now a_then lf_huts lf_singers lf_villages lf_dams lf_echoes lf_deep lf_slide la_heights la_ladders la_minutes la_echoFrom la_echoTo la_homes la_talls la_known sf_facts sa_heard sa_huts sa_minutes H)
    (hS : va_S (wpA qp ql qs) s.heap H locs)
    (hP12 : ∀ (x2 : Int32) (a_walked : Nat → Int32) (H : Heap) (locs : List Loc) (ls : Array Slot), P12 x2 a_walked → lv_has ls 5 [(0, .ref qp), (1, .ref ql), (2, .int x2)] → wpW E qp ql qs a_heard a_walked a_total a_longest a_next a_cover a_now a_then lf_huts lf_singers lf_villages lf_dams lf_echoes lf_deep lf_slide la_heights la_ladders la_minutes la_echoFrom la_echoTo la_homes la_talls la_known sf_facts sa_heard sa_huts sa_minutes H → va_S (wpA qp ql qs) s.heap H locs → W p l e rm_wp_X7_walk_9 s m args below meth c H locs 0 0 (MQ below (zQv (S := (Nat → Int32)) (fun u => post u) (fun u H => wpW E qp ql qs a_heard u a_total a_longest a_next a_cover a_now a_then lf_huts lf_singers lf_villages lf_dams lf_echoes lf_deep lf_slide la_heights la_ladders la_minutes la_echoFrom la_echoTo la_homes la_talls la_known sf_facts sa_heard sa_huts sa_minutes H) (wpA qp ql qs)) args s 0 0 (wpA qp ql qs)) (F0 m 12 ls []))
    (hl : lv_has ls 5 [(0, .ref qp), (1, .ref ql), (2, .int x2), (3, .int x3)])
    (hw : q_wp_X7_walk_9_22 P12 a_walked lf_huts la_minutes x2 x3 post) :
    W p l e rm_wp_X7_walk_9 s m args below meth c H locs 0 0 (MQ below (zQv (S := (Nat → Int32)) (fun u => post u) (fun u H => wpW E qp ql qs a_heard u a_total a_longest a_next a_cover a_now a_then lf_huts lf_singers lf_villages lf_dams lf_echoes lf_deep lf_slide la_heights la_ladders la_minutes la_echoFrom la_echoTo la_homes la_talls la_known sf_facts sa_heard sa_huts sa_minutes H) (wpA qp ql qs)) args s 0 0 (wpA qp ql qs)) (F0 m 22 ls []) := by
  have hx := zc.1
  have hb := zc.2.1
  refine hw (fun x3 a_walked => ∀ (H : Heap) (locs : List Loc) (ls : Array Slot), lv_has ls 5 [(0, .ref qp), (1, .ref ql), (2, .int x2), (3, .int x3)] → wpW E qp ql qs a_heard a_walked a_total a_longest a_next a_cover a_now a_then lf_huts lf_singers lf_villages lf_dams lf_echoes lf_deep lf_slide la_heights la_ladders la_minutes la_echoFrom la_echoTo la_homes la_talls la_known sf_facts sa_heard sa_huts sa_minutes H → va_S (wpA qp ql qs) s.heap H locs → W p l e rm_wp_X7_walk_9 s m args below meth c H locs 0 0 (MQ below (zQv (S := (Nat → Int32)) (fun u => post u) (fun u H => wpW E qp ql qs a_heard u a_total a_longest a_next a_cover a_now a_then lf_huts lf_singers lf_villages lf_dams lf_echoes lf_deep lf_slide la_heights la_ladders la_minutes la_echoFrom la_echoTo la_homes la_talls la_known sf_facts sa_heard sa_huts sa_minutes H) (wpA qp ql qs)) args s 0 0 (wpA qp ql qs)) (F0 m 22 ls [])) ?_ _ _ _ hl hM hS
  intro x3 a_walked hw H locs ls hl hM hS
  refine lv_iload_n hx hb dX7_walk_22 rfl (lv_at hl 3 rfl) ?_
  refine lv_aload_n hx hb dX7_walk_23 rfl (lv_at hl 1 rfl) ?_
  refine wpg_7_42_9 zc hK hM dX7_walk_24 ?_
  refine lv_icmp_ge (tgt := 67) hx hb dX7_walk_27 (by decide) (fun hc => ?_) (fun hc => ?_)
  · have hw := hw.1 hc
    refine lv_aload_n hx hb dX7_walk_67 rfl (lv_at hl 0 rfl) ?_
    refine wpg_7_15_0 zc hK hM dX7_walk_68 ?_
    refine lv_iload_n hx hb dX7_walk_71 rfl (lv_at hl 2 rfl) ?_
    refine lv_bipush (v := (9 : Int32)) hx hb dX7_walk_72 (by decide) ?_
    refine lv_imul hx hb dX7_walk_74 ?_
    refine lv_iload_n hx hb dX7_walk_75 rfl (lv_at hl 2 rfl) ?_
    refine lv_iadd hx hb dX7_walk_76 ?_
    refine lv_iconst (v := (0 : Int32)) hx hb dX7_walk_77 (by decide) ?_
    refine wpst_2 zc hK hM hS hw.1 dX7_walk_78 (fun a_walked_1 H locs ea_walked_1 hM hS => ?_)
    have hw := hw.2 a_walked_1 ea_walked_1
    obtain ⟨v_1, ev_1⟩ : ∃ y : Int32, y = x2 + (1 : Int32) := ⟨_, rfl⟩
    have hw := hw v_1 ev_1
    refine lv_iinc (v := v_1) (k := 2) (lv' := [(2, .int v_1), (0, .ref qp), (1, .ref ql), (3, .int x3)]) hx hb dX7_walk_79 hl rfl (by rw [ev_1]; rfl) (by decide) rfl (fun ls hl => ?_)
    refine lv_goto (tgt := 12) hx hb dX7_walk_82 (by decide) ?_
    exact hP12 _ _ _ _ _ hw (lv_sub hl [1, 2, 0] rfl) hM hS
  · have hw := hw.2 hc
    refine lv_aload_n hx hb dX7_walk_30 rfl (lv_at hl 1 rfl) ?_
    refine wpg_7_52_9 zc hK hM dX7_walk_31 ?_
    refine lv_iload_n hx hb dX7_walk_34 rfl (lv_at hl 2 rfl) ?_
    refine lv_bipush (v := (9 : Int32)) hx hb dX7_walk_35 (by decide) ?_
    refine lv_imul hx hb dX7_walk_37 ?_
    refine lv_iload_n hx hb dX7_walk_38 rfl (lv_at hl 3 rfl) ?_
    refine lv_iadd hx hb dX7_walk_39 ?_
    refine wpld_12 zc hK hM hw.1 dX7_walk_40 ?_
    have hw := hw.2
    refine lv_topi (fun v_2 ev_2 => ?_)
    have hw := hw v_2 ev_2
    refine lv_istore (lv' := [(4, .int v_2), (0, .ref qp), (1, .ref ql), (2, .int x2), (3, .int x3)]) hx hb dX7_walk_41 hl (by decide) rfl (fun ls hl => ?_)
    refine lv_iload hx hb dX7_walk_43 (lv_at hl 0 rfl) ?_
    refine lv_if_le (tgt := 61) hx hb dX7_walk_45 (by decide) (fun hc => ?_) (fun hc => ?_)
    · have hw := hw.1 hc
      exact t_wp_X7_walk_9_61 zc hK hM hS hP12 (fun _ _ H locs ls h hl hM hS => h H locs ls hl hM hS) (lv_sub hl [1, 2, 3, 4] rfl) hw
    · have hw := hw.2 hc
      refine lv_aload_n hx hb dX7_walk_48 rfl (lv_at hl 1 rfl) ?_
      refine wpg_7_15_0 zc hK hM dX7_walk_49 ?_
      refine lv_iload_n hx hb dX7_walk_52 rfl (lv_at hl 3 rfl) ?_
      refine lv_bipush (v := (9 : Int32)) hx hb dX7_walk_53 (by decide) ?_
      refine lv_imul hx hb dX7_walk_55 ?_
      refine lv_iload_n hx hb dX7_walk_56 rfl (lv_at hl 4 rfl) ?_
      refine lv_iadd hx hb dX7_walk_57 ?_
      refine lv_iload hx hb dX7_walk_58 (lv_at hl 0 rfl) ?_
      refine wpst_2 zc hK hM hS hw.1 dX7_walk_60 (fun a_walked_2 H locs ea_walked_2 hM hS => ?_)
      have hw := hw.2 a_walked_2 ea_walked_2
      exact t_wp_X7_walk_9_61 zc hK hM hS hP12 (fun _ _ H locs ls h hl hM hS => h H locs ls hl hM hS) (lv_sub hl [1, 2, 3, 4] rfl) hw
set_option maxRecDepth 20000 in
theorem t_wp_X7_walk_9_12 {p : Program} {l : Launch} {e : Env} {s : State} {m : MethodId} {args : Array Value} {below : List Frame} {meth : Method} {c : Code} {E : zE} {qp ql qs : Nat} {a_heard : Nat → Int32} {a_walked : Nat → Int32} {a_total : Nat → Int32} {a_longest : Nat → Int32} {a_next : Nat → Int32} {a_cover : Nat → Int32} {a_now : Nat → Int32} {a_then : Nat → Int32} {lf_huts : Int32} {lf_singers : Int32} {lf_villages : Int32} {lf_dams : Int32} {lf_echoes : Int32} {lf_deep : Int32} {lf_slide : Int32} {la_heights : Nat → Int32} {la_ladders : Nat → Int32} {la_minutes : Nat → Int32} {la_echoFrom : Nat → Int32} {la_echoTo : Nat → Int32} {la_homes : Nat → Int32} {la_talls : Nat → Int32} {la_known : Nat → Int32} {sf_facts : Int32} {sa_heard : Nat → Int32} {sa_huts : Nat → Int32} {sa_minutes : Nat → Int32} {post : (Nat → Int32) → Prop} {x2 : Int32} {ls : Array Slot} {H : Heap} {locs : List Loc}
    (zc : zC p s m args meth c cX7_walk 5 RX7 none)
    (hK : zK E s)
    (hM : wpW E qp ql qs a_heard a_walked a_total a_longest a_next a_cover a_now a_then lf_huts lf_singers lf_villages lf_dams lf_echoes lf_deep lf_slide la_heights la_ladders la_minutes la_echoFrom la_echoTo la_homes la_talls la_known sf_facts sa_heard sa_huts sa_minutes H)
    (hS : va_S (wpA qp ql qs) s.heap H locs)
    (hl : lv_has ls 5 [(0, .ref qp), (1, .ref ql), (2, .int x2)])
    (hw : q_wp_X7_walk_9_12 a_walked lf_huts la_minutes x2 post) :
    W p l e rm_wp_X7_walk_9 s m args below meth c H locs 0 0 (MQ below (zQv (S := (Nat → Int32)) (fun u => post u) (fun u H => wpW E qp ql qs a_heard u a_total a_longest a_next a_cover a_now a_then lf_huts lf_singers lf_villages lf_dams lf_echoes lf_deep lf_slide la_heights la_ladders la_minutes la_echoFrom la_echoTo la_homes la_talls la_known sf_facts sa_heard sa_huts sa_minutes H) (wpA qp ql qs)) args s 0 0 (wpA qp ql qs)) (F0 m 12 ls []) := by
  have hx := zc.1
  have hb := zc.2.1
  refine hw (fun x2 a_walked => ∀ (H : Heap) (locs : List Loc) (ls : Array Slot), lv_has ls 5 [(0, .ref qp), (1, .ref ql), (2, .int x2)] → wpW E qp ql qs a_heard a_walked a_total a_longest a_next a_cover a_now a_then lf_huts lf_singers lf_villages lf_dams lf_echoes lf_deep lf_slide la_heights la_ladders la_minutes la_echoFrom la_echoTo la_homes la_talls la_known sf_facts sa_heard sa_huts sa_minutes H → va_S (wpA qp ql qs) s.heap H locs → W p l e rm_wp_X7_walk_9 s m args below meth c H locs 0 0 (MQ below (zQv (S := (Nat → Int32)) (fun u => post u) (fun u H => wpW E qp ql qs a_heard u a_total a_longest a_next a_cover a_now a_then lf_huts lf_singers lf_villages lf_dams lf_echoes lf_deep lf_slide la_heights la_ladders la_minutes la_echoFrom la_echoTo la_homes la_talls la_known sf_facts sa_heard sa_huts sa_minutes H) (wpA qp ql qs)) args s 0 0 (wpA qp ql qs)) (F0 m 12 ls [])) ?_ _ _ _ hl hM hS
  intro x2 a_walked hw H locs ls hl hM hS
  refine lv_iload_n hx hb dX7_walk_12 rfl (lv_at hl 2 rfl) ?_
  refine lv_aload_n hx hb dX7_walk_13 rfl (lv_at hl 1 rfl) ?_
  refine wpg_7_42_9 zc hK hM dX7_walk_14 ?_
  refine lv_icmp_ge (tgt := 85) hx hb dX7_walk_17 (by decide) (fun hc => ?_) (fun hc => ?_)
  · have hw := hw.1 hc
    refine lv_aload_n hx hb dX7_walk_85 rfl (lv_at hl 0 rfl) ?_
    refine wpg_7_15_0 zc hK hM dX7_walk_86 ?_
    refine lv_aload_n hx hb dX7_walk_89 rfl (lv_at hl 1 rfl) ?_
    refine wpg_7_42_9 zc hK hM dX7_walk_90 ?_
    refine zSw_v [.ref (qp + 2), .int lf_huts] [] zc ky_X7_shorten kz_X7_shorten km_7_67 (c_wp_X7_shorten_2 l hw) (wpPreS hK hM) hS rfl rfl hl.1 (Nat.le_of_ble_eq_true rfl) ⟨rfl, rfl⟩ ⟨Nat.le_of_ble_eq_true rfl, Nat.le_of_ble_eq_true rfl⟩ ⟨(Nat.zero_le _), (Nat.zero_le _)⟩ dX7_walk_93 (fun a_walked_1 H locs hw hM hS => ?_)
    exact zret_vw a_walked_1 zc hS hw hM dX7_walk_96
  · have hw := hw.2 hc
    refine lv_iconst (v := (0 : Int32)) hx hb dX7_walk_20 (by decide) ?_
    refine lv_istore_n (lv' := [(3, .int (0 : Int32)), (0, .ref qp), (1, .ref ql), (2, .int x2)]) hx hb dX7_walk_21 rfl hl (by decide) rfl (fun ls hl => ?_)
    exact t_wp_X7_walk_9_22 zc hK hM hS (fun _ _ H locs ls h hl hM hS => h H locs ls hl hM hS) (lv_sub hl [1, 2, 3, 0] rfl) hw
set_option maxRecDepth 20000 in
theorem t_wp_X7_walk_9_0 {p : Program} {l : Launch} {e : Env} {s : State} {m : MethodId} {args : Array Value} {below : List Frame} {meth : Method} {c : Code} {E : zE} {qp ql qs : Nat} {a_heard : Nat → Int32} {a_walked : Nat → Int32} {a_total : Nat → Int32} {a_longest : Nat → Int32} {a_next : Nat → Int32} {a_cover : Nat → Int32} {a_now : Nat → Int32} {a_then : Nat → Int32} {lf_huts : Int32} {lf_singers : Int32} {lf_villages : Int32} {lf_dams : Int32} {lf_echoes : Int32} {lf_deep : Int32} {lf_slide : Int32} {la_heights : Nat → Int32} {la_ladders : Nat → Int32} {la_minutes : Nat → Int32} {la_echoFrom : Nat → Int32} {la_echoTo : Nat → Int32} {la_homes : Nat → Int32} {la_talls : Nat → Int32} {la_known : Nat → Int32} {sf_facts : Int32} {sa_heard : Nat → Int32} {sa_huts : Nat → Int32} {sa_minutes : Nat → Int32} {post : (Nat → Int32) → Prop} {ls : Array Slot} {H : Heap} {locs : List Loc}
    (zc : zC p s m args meth c cX7_walk 5 RX7 none)
    (hK : zK E s)
    (hM : wpW E qp ql qs a_heard a_walked a_total a_longest a_next a_cover a_now a_then lf_huts lf_singers lf_villages lf_dams lf_echoes lf_deep lf_slide la_heights la_ladders la_minutes la_echoFrom la_echoTo la_homes la_talls la_known sf_facts sa_heard sa_huts sa_minutes H)
    (hS : va_S (wpA qp ql qs) s.heap H locs)
    (hl : lv_has ls 5 [(0, .ref qp), (1, .ref ql)])
    (hw : q_wp_X7_walk_9_0 a_walked lf_huts la_minutes post) :
    W p l e rm_wp_X7_walk_9 s m args below meth c H locs 0 0 (MQ below (zQv (S := (Nat → Int32)) (fun u => post u) (fun u H => wpW E qp ql qs a_heard u a_total a_longest a_next a_cover a_now a_then lf_huts lf_singers lf_villages lf_dams lf_echoes lf_deep lf_slide la_heights la_ladders la_minutes la_echoFrom la_echoTo la_homes la_talls la_known sf_facts sa_heard sa_huts sa_minutes H) (wpA qp ql qs)) args s 0 0 (wpA qp ql qs)) (F0 m 0 ls []) := by
  have hx := zc.1
  have hb := zc.2.1
  refine lv_aload_n hx hb dX7_walk_0 rfl (lv_at hl 0 rfl) ?_
  refine wpg_7_15_0 zc hK hM dX7_walk_1 ?_
  refine lv_sipush (v := (1000 : Int32)) hx hb dX7_walk_4 (by decide) ?_
  refine zSw_v [.ref (qp + 2), .int (1000 : Int32)] [] zc ky_J7_fill_53178 kz_J7_fill_53178 km_7_36 (c_wp_J7_fill_53178_2 l hw) (wpPreS hK hM) hS rfl rfl hl.1 (Nat.le_of_ble_eq_true rfl) ⟨rfl, rfl⟩ ⟨Nat.le_of_ble_eq_true rfl, Nat.le_of_ble_eq_true rfl⟩ ⟨(Nat.zero_le _), (Nat.zero_le _)⟩ dX7_walk_7 (fun a_walked_1 H locs hw hM hS => ?_)
  refine lv_iconst (v := (0 : Int32)) hx hb dX7_walk_10 (by decide) ?_
  refine lv_istore_n (lv' := [(2, .int (0 : Int32)), (0, .ref qp), (1, .ref ql)]) hx hb dX7_walk_11 rfl hl (by decide) rfl (fun ls hl => ?_)
  exact t_wp_X7_walk_9_12 zc hK hM hS  (lv_sub hl [1, 2, 0] rfl) hw
set_option maxRecDepth 20000 in
theorem c_wp_X7_walk_9 (l : Launch) {E : zE} {qp ql qs : Nat} {a_heard : Nat → Int32} {a_walked : Nat → Int32} {a_total : Nat → Int32} {a_longest : Nat → Int32} {a_next : Nat → Int32} {a_cover : Nat → Int32} {a_now : Nat → Int32} {a_then : Nat → Int32} {lf_huts : Int32} {lf_singers : Int32} {lf_villages : Int32} {lf_dams : Int32} {lf_echoes : Int32} {lf_deep : Int32} {lf_slide : Int32} {la_heights : Nat → Int32} {la_ladders : Nat → Int32} {la_minutes : Nat → Int32} {la_echoFrom : Nat → Int32} {la_echoTo : Nat → Int32} {la_homes : Nat → Int32} {la_talls : Nat → Int32} {la_known : Nat → Int32} {sf_facts : Int32} {sa_heard : Nat → Int32} {sa_huts : Nat → Int32} {sa_minutes : Nat → Int32} {post : (Nat → Int32) → Prop} (hw : q_wp_X7_walk_9_0 a_walked lf_huts la_minutes post) : Met l yX7_walk (Cond.code yX7_walk cX7_walk 5 none :: zb) rm_wp_X7_walk_9 (va_Pc [.ref qp, .ref ql] (fun U => wpW E qp ql qs a_heard a_walked a_total a_longest a_next a_cover a_now a_then lf_huts lf_singers lf_villages lf_dams lf_echoes lf_deep lf_slide la_heights la_ladders la_minutes la_echoFrom la_echoTo la_homes la_talls la_known sf_facts sa_heard sa_huts sa_minutes U.heap ∧ zK E U)) (zQv (S := (Nat → Int32)) (fun u => post u) (fun u H => wpW E qp ql qs a_heard u a_total a_longest a_next a_cover a_now a_then lf_huts lf_singers lf_villages lf_dams lf_echoes lf_deep lf_slide la_heights la_ladders la_minutes la_echoFrom la_echoTo la_homes la_talls la_known sf_facts sa_heard sa_huts sa_minutes H) (wpA qp ql qs)) 0 0 (wpA qp ql qs) := by
  refine Met.ofW (cc := cX7_walk) (maxL := 5) (ret := none) (by decide) rfl ?_
  intro p e s m args below meth c s₁ B hml hv
  obtain ⟨rfl, hM, hK⟩ := hv
  have zc := zc_of B hml
  have hl := lv_entry ([.ref qp, .ref ql]) (n := 5) (Nat.le_of_ble_eq_true rfl)
  rw [lg_entry_eq]
  generalize (lg_sl ([.ref qp, .ref ql]) ++ List.replicate (5 - (lg_sl ([.ref qp, .ref ql])).length) Slot.unset).toArray = ls at hl ⊢
  have hl : lv_has ls 5 [(0, .ref qp), (1, .ref ql)] := hl
  exact t_wp_X7_walk_9_0 zc hK hM va_S.rf (lv_sub hl [0, 1] rfl) hw
-- wp_X7_link_9
abbrev rm_wp_X7_link_9 : Room := { frames := 2, cells := 0, slots := 0, locals := 44 }
def q_wp_X7_link_9_64 (P2 : Int32 → (Nat → Int32) → Prop) (P35 : Int32 → (Nat → Int32) → Prop) (a_next : Nat → Int32) (lf_huts : Int32) (lf_dams : Int32) (lf_echoes : Int32) (la_heights : Nat → Int32) (la_minutes : Nat → Int32) (la_echoFrom : Nat → Int32) (la_echoTo : Nat → Int32) (x2 : Int32) (x3 : Int32) (post : (Nat → Int32) → Prop) : Prop :=
  ∀ v_1 : Int32, v_1 = x3 + (1 : Int32) → (P35 v_1 a_next)
def q_wp_X7_link_9_35 (P2 : Int32 → (Nat → Int32) → Prop) (a_next : Nat → Int32) (lf_huts : Int32) (lf_dams : Int32) (lf_echoes : Int32) (la_heights : Nat → Int32) (la_minutes : Nat → Int32) (la_echoFrom : Nat → Int32) (la_echoTo : Nat → Int32) (x2 : Int32) (x3 : Int32) (post : (Nat → Int32) → Prop) : Prop :=
  ∀ P35 : Int32 → (Nat → Int32) → Prop, (∀ (x3 : Int32) (a_next : Nat → Int32), ((lf_huts ≤ x3 → (∀ v_1 : Int32, v_1 = x2 + (1 : Int32) → (P2 v_1 a_next))) ∧ (¬ lf_huts ≤ x3 → (q_wl_X2_leads_0 lf_dams la_heights la_minutes x2 x3 (fun r_1 => (r_1 = 0 → (q_wp_X7_link_9_64 P2 P35 a_next lf_huts lf_dams lf_echoes la_heights la_minutes la_echoFrom la_echoTo x2 x3 post)) ∧ (¬ r_1 = 0 → (vp_in x2 9 ∧ (∀ v_2 : Int32, v_2 = ((a_next (Int32.toNatClampNeg x2)) ||| ((1 : Int32) <<< (x3 &&& 31))) → (vp_in x2 9 ∧ (∀ a_next_1 : Nat → Int32, a_next_1 = upd a_next (Int32.toNatClampNeg x2) v_2 → (q_wp_X7_link_9_64 P2 P35 a_next_1 lf_huts lf_dams lf_echoes la_heights la_minutes la_echoFrom la_echoTo x2 x3 post)))))))))) → P35 x3 a_next) → P35 x3 a_next
def q_wp_X7_link_9_32 (P2 : Int32 → (Nat → Int32) → Prop) (a_next : Nat → Int32) (lf_huts : Int32) (lf_dams : Int32) (lf_echoes : Int32) (la_heights : Nat → Int32) (la_minutes : Nat → Int32) (la_echoFrom : Nat → Int32) (la_echoTo : Nat → Int32) (x2 : Int32) (y0 : Int32) (y1 : Int32) (post : (Nat → Int32) → Prop) : Prop :=
  vp_in y0 9 ∧ (∀ a_next_1 : Nat → Int32, a_next_1 = upd a_next (Int32.toNatClampNeg y0) y1 → (q_wp_X7_link_9_35 P2 a_next_1 lf_huts lf_dams lf_echoes la_heights la_minutes la_echoFrom la_echoTo x2 (0 : Int32) post))
def q_wp_X7_link_9_2 (a_next : Nat → Int32) (lf_huts : Int32) (lf_dams : Int32) (lf_echoes : Int32) (la_heights : Nat → Int32) (la_minutes : Nat → Int32) (la_echoFrom : Nat → Int32) (la_echoTo : Nat → Int32) (x2 : Int32) (post : (Nat → Int32) → Prop) : Prop :=
  ∀ P2 : Int32 → (Nat → Int32) → Prop, (∀ (x2 : Int32) (a_next : Nat → Int32), ((lf_huts ≤ x2 → (post a_next)) ∧ (¬ lf_huts ≤ x2 → (q_wl_X2_isDam_0 lf_dams x2 (fun r_1 => (r_1 = 0 → (q_wl_X2_earshot_0 lf_dams lf_echoes la_echoFrom la_echoTo x2 (fun r_2 => q_wp_X7_link_9_32 P2 a_next lf_huts lf_dams lf_echoes la_heights la_minutes la_echoFrom la_echoTo x2 x2 r_2 post))) ∧ (¬ r_1 = 0 → (q_wp_X7_link_9_32 P2 a_next lf_huts lf_dams lf_echoes la_heights la_minutes la_echoFrom la_echoTo x2 x2 (0 : Int32) post)))))) → P2 x2 a_next) → P2 x2 a_next
def q_wp_X7_link_9_0 (a_next : Nat → Int32) (lf_huts : Int32) (lf_dams : Int32) (lf_echoes : Int32) (la_heights : Nat → Int32) (la_minutes : Nat → Int32) (la_echoFrom : Nat → Int32) (la_echoTo : Nat → Int32) (post : (Nat → Int32) → Prop) : Prop :=
  q_wp_X7_link_9_2 a_next lf_huts lf_dams lf_echoes la_heights la_minutes la_echoFrom la_echoTo (0 : Int32) post
set_option maxRecDepth 20000 in
theorem t_wp_X7_link_9_64 {p : Program} {l : Launch} {e : Env} {s : State} {m : MethodId} {args : Array Value} {below : List Frame} {meth : Method} {c : Code} {E : zE} {qp ql qs : Nat} {a_heard : Nat → Int32} {a_walked : Nat → Int32} {a_total : Nat → Int32} {a_longest : Nat → Int32} {a_next : Nat → Int32} {a_cover : Nat → Int32} {a_now : Nat → Int32} {a_then : Nat → Int32} {lf_huts : Int32} {lf_singers : Int32} {lf_villages : Int32} {lf_dams : Int32} {lf_echoes : Int32} {lf_deep : Int32} {lf_slide : Int32} {la_heights : Nat → Int32} {la_ladders : Nat → Int32} {la_minutes : Nat → Int32} {la_echoFrom : Nat → Int32} {la_echoTo : Nat → Int32} {la_homes : Nat → Int32} {la_talls : Nat → Int32} {la_known : Nat → Int32} {sf_facts : Int32} {sa_heard : Nat → Int32} {sa_huts : Nat → Int32} {sa_minutes : Nat → Int32} {P2 : Int32 → (Nat → Int32) → Prop} {P35 : Int32 → (Nat → Int32) → Prop} {post : (Nat → Int32) → Prop} {x2 : Int32} {x3 : Int32} {ls : Array Slot} {H : Heap} {locs : List Loc}
    (zc : zC p s m args meth c cX7_link 4 RX7 none)
    (hK : zK E s)
    (hM : wpW E qp ql qs a_heard a_walked a_total a_longest a_next a_cover a_now a_then lf_huts lf_singers lf_villages lf_dams lf_echoes lf_deep lf_slide la_heights la_ladders la_minutes la_echoFrom la_echoTo la_homes la_talls la_known sf_facts sa_heard sa_huts sa_minutes H)
    (hS : va_S (wpA qp ql qs) s.heap H locs)
    (hP2 : ∀ (x2 : Int32) (a_next : Nat → Int32) (H : Heap) (locs : List Loc) (ls : Array Slot), P2 x2 a_next → lv_has ls 4 [(0, .ref qp), (1, .ref ql), (2, .int x2)] → wpW E qp ql qs a_heard a_walked a_total a_longest a_next a_cover a_now a_then lf_huts lf_singers lf_villages lf_dams lf_echoes lf_deep lf_slide la_heights la_ladders la_minutes la_echoFrom la_echoTo la_homes la_talls la_known sf_facts sa_heard sa_huts sa_minutes H → va_S (wpA qp ql qs) s.heap H locs → W p l e rm_wp_X7_link_9 s m args below meth c H locs 0 0 (MQ below (zQv (S := (Nat → Int32)) (fun u => post u) (fun u H => wpW E qp ql qs a_heard a_walked a_total a_longest u a_cover a_now a_then lf_huts lf_singers lf_villages lf_dams lf_echoes lf_deep lf_slide la_heights la_ladders la_minutes la_echoFrom la_echoTo la_homes la_talls la_known sf_facts sa_heard sa_huts sa_minutes H) (wpA qp ql qs)) args s 0 0 (wpA qp ql qs)) (F0 m 2 ls []))
    (hP35 : ∀ (x3 : Int32) (a_next : Nat → Int32) (H : Heap) (locs : List Loc) (ls : Array Slot), P35 x3 a_next → lv_has ls 4 [(0, .ref qp), (1, .ref ql), (2, .int x2), (3, .int x3)] → wpW E qp ql qs a_heard a_walked a_total a_longest a_next a_cover a_now a_then lf_huts lf_singers lf_villages lf_dams lf_echoes lf_deep lf_slide la_heights la_ladders la_minutes la_echoFrom la_echoTo la_homes la_talls la_known sf_facts sa_heard sa_huts sa_minutes H → va_S (wpA qp ql qs) s.heap H locs → W p l e rm_wp_X7_link_9 s m args below meth c H locs 0 0 (MQ below (zQv (S := (Nat → Int32)) (fun u => post u) (fun u H => wpW E qp ql qs a_heard a_walked a_total a_longest u a_cover a_now a_then lf_huts lf_singers lf_villages lf_dams lf_echoes lf_deep lf_slide la_heights la_ladders la_minutes la_echoFrom la_echoTo la_homes la_talls la_known sf_facts sa_heard sa_huts sa_minutes H) (wpA qp ql qs)) args s 0 0 (wpA qp ql qs)) (F0 m 35 ls []))
    (hl : lv_has ls 4 [(0, .ref qp), (1, .ref ql), (2, .int x2), (3, .int x3)])
    (hw : q_wp_X7_link_9_64 P2 P35 a_next lf_huts lf_dams lf_echoes la_heights la_minutes la_echoFrom la_echoTo x2 x3 post) :
    W p l e rm_wp_X7_link_9 s m args below meth c H locs 0 0 (MQ below (zQv (S := (Nat → Int32)) (fun u => post u) (fun u H => wpW E qp ql qs a_heard a_walked a_total a_longest u a_cover a_now a_then lf_huts lf_singers lf_villages lf_dams lf_echoes lf_deep lf_slide la_heights la_ladders la_minutes la_echoFrom la_echoTo la_homes la_talls la_known sf_facts sa_heard sa_huts sa_minutes H) (wpA qp ql qs)) args s 0 0 (wpA qp ql qs)) (F0 m 64 ls []) := by
  have hx := zc.1
  have hb := zc.2.1
  obtain ⟨v_1, ev_1⟩ : ∃ y : Int32, y = x3 + (1 : Int32) := ⟨_, rfl⟩
  have hw := hw v_1 ev_1
  refine lv_iinc (v := v_1) (k := 3) (lv' := [(3, .int v_1), (0, .ref qp), (1, .ref ql), (2, .int x2)]) hx hb dX7_link_64 hl rfl (by rw [ev_1]; rfl) (by decide) rfl (fun ls hl => ?_)
  refine lv_goto (tgt := 35) hx hb dX7_link_67 (by decide) ?_
  exact hP35 _ _ _ _ _ hw (lv_sub hl [1, 2, 3, 0] rfl) hM hS
set_option maxRecDepth 20000 in
theorem t_wp_X7_link_9_35 {p : Program} {l : Launch} {e : Env} {s : State} {m : MethodId} {args : Array Value} {below : List Frame} {meth : Method} {c : Code} {E : zE} {qp ql qs : Nat} {a_heard : Nat → Int32} {a_walked : Nat → Int32} {a_total : Nat → Int32} {a_longest : Nat → Int32} {a_next : Nat → Int32} {a_cover : Nat → Int32} {a_now : Nat → Int32} {a_then : Nat → Int32} {lf_huts : Int32} {lf_singers : Int32} {lf_villages : Int32} {lf_dams : Int32} {lf_echoes : Int32} {lf_deep : Int32} {lf_slide : Int32} {la_heights : Nat → Int32} {la_ladders : Nat → Int32} {la_minutes : Nat → Int32} {la_echoFrom : Nat → Int32} {la_echoTo : Nat → Int32} {la_homes : Nat → Int32} {la_talls : Nat → Int32} {la_known : Nat → Int32} {sf_facts : Int32} {sa_heard : Nat → Int32} {sa_huts : Nat → Int32} {sa_minutes : Nat → Int32} {P2 : Int32 → (Nat → Int32) → Prop} {post : (Nat → Int32) → Prop} {x2 : Int32} {x3 : Int32} {ls : Array Slot} {H : Heap} {locs : List Loc}
    (zc : zC p s m args meth c cX7_link 4 RX7 none)
    (hK : zK E s)
    (hM : wpW E qp ql qs a_heard a_walked a_total a_longest a_next a_cover a_now a_then lf_huts lf_singers lf_villages lf_dams lf_echoes lf_deep lf_slide la_heights la_ladders la_minutes la_echoFrom la_echoTo la_homes la_talls la_known sf_facts sa_heard sa_huts sa_minutes H)
    (hS : va_S (wpA qp ql qs) s.heap H locs)
    (hP2 : ∀ (x2 : Int32) (a_next : Nat → Int32) (H : Heap) (locs : List Loc) (ls : Array Slot), P2 x2 a_next → lv_has ls 4 [(0, .ref qp), (1, .ref ql), (2, .int x2)] → wpW E qp ql qs a_heard a_walked a_total a_longest a_next a_cover a_now a_then lf_huts lf_singers lf_villages lf_dams lf_echoes lf_deep lf_slide la_heights la_ladders la_minutes la_echoFrom la_echoTo la_homes la_talls la_known sf_facts sa_heard sa_huts sa_minutes H → va_S (wpA qp ql qs) s.heap H locs → W p l e rm_wp_X7_link_9 s m args below meth c H locs 0 0 (MQ below (zQv (S := (Nat → Int32)) (fun u => post u) (fun u H => wpW E qp ql qs a_heard a_walked a_total a_longest u a_cover a_now a_then lf_huts lf_singers lf_villages lf_dams lf_echoes lf_deep lf_slide la_heights la_ladders la_minutes la_echoFrom la_echoTo la_homes la_talls la_known sf_facts sa_heard sa_huts sa_minutes H) (wpA qp ql qs)) args s 0 0 (wpA qp ql qs)) (F0 m 2 ls []))
    (hl : lv_has ls 4 [(0, .ref qp), (1, .ref ql), (2, .int x2), (3, .int x3)])
    (hw : q_wp_X7_link_9_35 P2 a_next lf_huts lf_dams lf_echoes la_heights la_minutes la_echoFrom la_echoTo x2 x3 post) :
    W p l e rm_wp_X7_link_9 s m args below meth c H locs 0 0 (MQ below (zQv (S := (Nat → Int32)) (fun u => post u) (fun u H => wpW E qp ql qs a_heard a_walked a_total a_longest u a_cover a_now a_then lf_huts lf_singers lf_villages lf_dams lf_echoes lf_deep lf_slide la_heights la_ladders la_minutes la_echoFrom la_echoTo la_homes la_talls la_known sf_facts sa_heard sa_huts sa_minutes H) (wpA qp ql qs)) args s 0 0 (wpA qp ql qs)) (F0 m 35 ls []) := by
  have hx := zc.1
  have hb := zc.2.1
  refine hw (fun x3 a_next => ∀ (H : Heap) (locs : List Loc) (ls : Array Slot), lv_has ls 4 [(0, .ref qp), (1, .ref ql), (2, .int x2), (3, .int x3)] → wpW E qp ql qs a_heard a_walked a_total a_longest a_next a_cover a_now a_then lf_huts lf_singers lf_villages lf_dams lf_echoes lf_deep lf_slide la_heights la_ladders la_minutes la_echoFrom la_echoTo la_homes la_talls la_known sf_facts sa_heard sa_huts sa_minutes H → va_S (wpA qp ql qs) s.heap H locs → W p l e rm_wp_X7_link_9 s m args below meth c H locs 0 0 (MQ below (zQv (S := (Nat → Int32)) (fun u => post u) (fun u H => wpW E qp ql qs a_heard a_walked a_total a_longest u a_cover a_now a_then lf_huts lf_singers lf_villages lf_dams lf_echoes lf_deep lf_slide la_heights la_ladders la_minutes la_echoFrom la_echoTo la_homes la_talls la_known sf_facts sa_heard sa_huts sa_minutes H) (wpA qp ql qs)) args s 0 0 (wpA qp ql qs)) (F0 m 35 ls [])) ?_ _ _ _ hl hM hS
  intro x3 a_next hw H locs ls hl hM hS
  refine lv_iload_n hx hb dX7_link_35 rfl (lv_at hl 3 rfl) ?_
  refine lv_aload_n hx hb dX7_link_36 rfl (lv_at hl 1 rfl) ?_
  refine wpg_7_42_9 zc hK hM dX7_link_37 ?_
  refine lv_icmp_ge (tgt := 70) hx hb dX7_link_40 (by decide) (fun hc => ?_) (fun hc => ?_)
  · have hw := hw.1 hc
    obtain ⟨v_1, ev_1⟩ : ∃ y : Int32, y = x2 + (1 : Int32) := ⟨_, rfl⟩
    have hw := hw v_1 ev_1
    refine lv_iinc (v := v_1) (k := 2) (lv' := [(2, .int v_1), (0, .ref qp), (1, .ref ql), (3, .int x3)]) hx hb dX7_link_70 hl rfl (by rw [ev_1]; rfl) (by decide) rfl (fun ls hl => ?_)
    refine lv_goto (tgt := 2) hx hb dX7_link_73 (by decide) ?_
    exact hP2 _ _ _ _ _ hw (lv_sub hl [1, 2, 0] rfl) hM hS
  · have hw := hw.2 hc
    refine lv_aload_n hx hb dX7_link_43 rfl (lv_at hl 1 rfl) ?_
    refine lv_iload_n hx hb dX7_link_44 rfl (lv_at hl 2 rfl) ?_
    refine lv_iload_n hx hb dX7_link_45 rfl (lv_at hl 3 rfl) ?_
    refine zV_i [.int x2, .int x3] [] zc ky_X2_leads kz_X2_leads km_7_48 (c_wl_X2_leads l hw) (wlPreV0 hK (pj_wp_wl_9 hM)) rfl rfl hl.1 (Nat.le_of_ble_eq_true rfl) ⟨rfl, rfl⟩ ⟨Nat.le_of_ble_eq_true rfl, Nat.le_of_ble_eq_true rfl⟩ ⟨(Nat.zero_le _), (Nat.zero_le _)⟩ dX7_link_46 (fun r_1 hw => ?_)
    refine lv_if_eq (tgt := 64) hx hb dX7_link_49 (by decide) (fun hc => ?_) (fun hc => ?_)
    · have hw := hw.1 hc
      exact t_wp_X7_link_9_64 zc hK hM hS hP2 (fun _ _ H locs ls h hl hM hS => h H locs ls hl hM hS) (lv_sub hl [0, 1, 2, 3] rfl) hw
    · have hw := hw.2 hc
      refine lv_aload_n hx hb dX7_link_52 rfl (lv_at hl 0 rfl) ?_
      refine wpg_7_24_0 zc hK hM dX7_link_53 ?_
      refine lv_iload_n hx hb dX7_link_56 rfl (lv_at hl 2 rfl) ?_
      refine lv_dup2_11 hx hb dX7_link_57 rfl rfl ?_
      refine wpld_5 zc hK hM hw.1 dX7_link_58 ?_
      have hw := hw.2
      refine lv_iconst (v := (1 : Int32)) hx hb dX7_link_59 (by decide) ?_
      refine lv_iload_n hx hb dX7_link_60 rfl (lv_at hl 3 rfl) ?_
      refine lv_ishl hx hb dX7_link_61 ?_
      refine lv_ior hx hb dX7_link_62 ?_
      refine lv_topi (fun v_2 ev_2 => ?_)
      have hw := hw v_2 ev_2
      refine wpst_5 zc hK hM hS hw.1 dX7_link_63 (fun a_next_1 H locs ea_next_1 hM hS => ?_)
      have hw := hw.2 a_next_1 ea_next_1
      exact t_wp_X7_link_9_64 zc hK hM hS hP2 (fun _ _ H locs ls h hl hM hS => h H locs ls hl hM hS) (lv_sub hl [0, 1, 2, 3] rfl) hw
set_option maxRecDepth 20000 in
theorem t_wp_X7_link_9_32 {p : Program} {l : Launch} {e : Env} {s : State} {m : MethodId} {args : Array Value} {below : List Frame} {meth : Method} {c : Code} {E : zE} {qp ql qs : Nat} {a_heard : Nat → Int32} {a_walked : Nat → Int32} {a_total : Nat → Int32} {a_longest : Nat → Int32} {a_next : Nat → Int32} {a_cover : Nat → Int32} {a_now : Nat → Int32} {a_then : Nat → Int32} {lf_huts : Int32} {lf_singers : Int32} {lf_villages : Int32} {lf_dams : Int32} {lf_echoes : Int32} {lf_deep : Int32} {lf_slide : Int32} {la_heights : Nat → Int32} {la_ladders : Nat → Int32} {la_minutes : Nat → Int32} {la_echoFrom : Nat → Int32} {la_echoTo : Nat → Int32} {la_homes : Nat → Int32} {la_talls : Nat → Int32} {la_known : Nat → Int32} {sf_facts : Int32} {sa_heard : Nat → Int32} {sa_huts : Nat → Int32} {sa_minutes : Nat → Int32} {P2 : Int32 → (Nat → Int32) → Prop} {post : (Nat → Int32) → Prop} {x2 : Int32} {y0 : Int32} {y1 : Int32} {ls : Array Slot} {H : Heap} {locs : List Loc}
    (zc : zC p s m args meth c cX7_link 4 RX7 none)
    (hK : zK E s)
    (hM : wpW E qp ql qs a_heard a_walked a_total a_longest a_next a_cover a_now a_then lf_huts lf_singers lf_villages lf_dams lf_echoes lf_deep lf_slide la_heights la_ladders la_minutes la_echoFrom la_echoTo la_homes la_talls la_known sf_facts sa_heard sa_huts sa_minutes H)
    (hS : va_S (wpA qp ql qs) s.heap H locs)
    (hP2 : ∀ (x2 : Int32) (a_next : Nat → Int32) (H : Heap) (locs : List Loc) (ls : Array Slot), P2 x2 a_next → lv_has ls 4 [(0, .ref qp), (1, .ref ql), (2, .int x2)] → wpW E qp ql qs a_heard a_walked a_total a_longest a_next a_cover a_now a_then lf_huts lf_singers lf_villages lf_dams lf_echoes lf_deep lf_slide la_heights la_ladders la_minutes la_echoFrom la_echoTo la_homes la_talls la_known sf_facts sa_heard sa_huts sa_minutes H → va_S (wpA qp ql qs) s.heap H locs → W p l e rm_wp_X7_link_9 s m args below meth c H locs 0 0 (MQ below (zQv (S := (Nat → Int32)) (fun u => post u) (fun u H => wpW E qp ql qs a_heard a_walked a_total a_longest u a_cover a_now a_then lf_huts lf_singers lf_villages lf_dams lf_echoes lf_deep lf_slide la_heights la_ladders la_minutes la_echoFrom la_echoTo la_homes la_talls la_known sf_facts sa_heard sa_huts sa_minutes H) (wpA qp ql qs)) args s 0 0 (wpA qp ql qs)) (F0 m 2 ls []))
    (hl : lv_has ls 4 [(0, .ref qp), (1, .ref ql), (2, .int x2)])
    (hw : q_wp_X7_link_9_32 P2 a_next lf_huts lf_dams lf_echoes la_heights la_minutes la_echoFrom la_echoTo x2 y0 y1 post) :
    W p l e rm_wp_X7_link_9 s m args below meth c H locs 0 0 (MQ below (zQv (S := (Nat → Int32)) (fun u => post u) (fun u H => wpW E qp ql qs a_heard a_walked a_total a_longest u a_cover a_now a_then lf_huts lf_singers lf_villages lf_dams lf_echoes lf_deep lf_slide la_heights la_ladders la_minutes la_echoFrom la_echoTo la_homes la_talls la_known sf_facts sa_heard sa_huts sa_minutes H) (wpA qp ql qs)) args s 0 0 (wpA qp ql qs)) (F0 m 32 ls [.int y1, .int y0, .ref (qp + 5)]) := by
  have hx := zc.1
  have hb := zc.2.1
  refine wpst_5 zc hK hM hS hw.1 dX7_link_32 (fun a_next_1 H locs ea_next_1 hM hS => ?_)
  have hw := hw.2 a_next_1 ea_next_1
  refine lv_iconst (v := (0 : Int32)) hx hb dX7_link_33 (by decide) ?_
  refine lv_istore_n (lv' := [(3, .int (0 : Int32)), (0, .ref qp), (1, .ref ql), (2, .int x2)]) hx hb dX7_link_34 rfl hl (by decide) rfl (fun ls hl => ?_)
  exact t_wp_X7_link_9_35 zc hK hM hS hP2 (lv_sub hl [1, 2, 3, 0] rfl) hw
set_option maxRecDepth 20000 in
theorem t_wp_X7_link_9_2 {p : Program} {l : Launch} {e : Env} {s : State} {m : MethodId} {args : Array Value} {below : List Frame} {meth : Method} {c : Code} {E : zE} {qp ql qs : Nat} {a_heard : Nat → Int32} {a_walked : Nat → Int32} {a_total : Nat → Int32} {a_longest : Nat → Int32} {a_next : Nat → Int32} {a_cover : Nat → Int32} {a_now : Nat → Int32} {a_then : Nat → Int32} {lf_huts : Int32} {lf_singers : Int32} {lf_villages : Int32} {lf_dams : Int32} {lf_echoes : Int32} {lf_deep : Int32} {lf_slide : Int32} {la_heights : Nat → Int32} {la_ladders : Nat → Int32} {la_minutes : Nat → Int32} {la_echoFrom : Nat → Int32} {la_echoTo : Nat → Int32} {la_homes : Nat → Int32} {la_talls : Nat → Int32} {la_known : Nat → Int32} {sf_facts : Int32} {sa_heard : Nat → Int32} {sa_huts : Nat → Int32} {sa_minutes : Nat → Int32} {post : (Nat → Int32) → Prop} {x2 : Int32} {ls : Array Slot} {H : Heap} {locs : List Loc}
    (zc : zC p s m args meth c cX7_link 4 RX7 none)
    (hK : zK E s)
    (hM : wpW E qp ql qs a_heard a_walked a_total a_longest a_next a_cover a_now a_then lf_huts lf_singers lf_villages lf_dams lf_echoes lf_deep lf_slide la_heights la_ladders la_minutes la_echoFrom la_echoTo la_homes la_talls la_known sf_facts sa_heard sa_huts sa_minutes H)
    (hS : va_S (wpA qp ql qs) s.heap H locs)
    (hl : lv_has ls 4 [(0, .ref qp), (1, .ref ql), (2, .int x2)])
    (hw : q_wp_X7_link_9_2 a_next lf_huts lf_dams lf_echoes la_heights la_minutes la_echoFrom la_echoTo x2 post) :
    W p l e rm_wp_X7_link_9 s m args below meth c H locs 0 0 (MQ below (zQv (S := (Nat → Int32)) (fun u => post u) (fun u H => wpW E qp ql qs a_heard a_walked a_total a_longest u a_cover a_now a_then lf_huts lf_singers lf_villages lf_dams lf_echoes lf_deep lf_slide la_heights la_ladders la_minutes la_echoFrom la_echoTo la_homes la_talls la_known sf_facts sa_heard sa_huts sa_minutes H) (wpA qp ql qs)) args s 0 0 (wpA qp ql qs)) (F0 m 2 ls []) := by
  have hx := zc.1
  have hb := zc.2.1
  refine hw (fun x2 a_next => ∀ (H : Heap) (locs : List Loc) (ls : Array Slot), lv_has ls 4 [(0, .ref qp), (1, .ref ql), (2, .int x2)] → wpW E qp ql qs a_heard a_walked a_total a_longest a_next a_cover a_now a_then lf_huts lf_singers lf_villages lf_dams lf_echoes lf_deep lf_slide la_heights la_ladders la_minutes la_echoFrom la_echoTo la_homes la_talls la_known sf_facts sa_heard sa_huts sa_minutes H → va_S (wpA qp ql qs) s.heap H locs → W p l e rm_wp_X7_link_9 s m args below meth c H locs 0 0 (MQ below (zQv (S := (Nat → Int32)) (fun u => post u) (fun u H => wpW E qp ql qs a_heard a_walked a_total a_longest u a_cover a_now a_then lf_huts lf_singers lf_villages lf_dams lf_echoes lf_deep lf_slide la_heights la_ladders la_minutes la_echoFrom la_echoTo la_homes la_talls la_known sf_facts sa_heard sa_huts sa_minutes H) (wpA qp ql qs)) args s 0 0 (wpA qp ql qs)) (F0 m 2 ls [])) ?_ _ _ _ hl hM hS
  intro x2 a_next hw H locs ls hl hM hS
  refine lv_iload_n hx hb dX7_link_2 rfl (lv_at hl 2 rfl) ?_
  refine lv_aload_n hx hb dX7_link_3 rfl (lv_at hl 1 rfl) ?_
  refine wpg_7_42_9 zc hK hM dX7_link_4 ?_
  refine lv_icmp_ge (tgt := 76) hx hb dX7_link_7 (by decide) (fun hc => ?_) (fun hc => ?_)
  · have hw := hw.1 hc
    exact zret_vw a_next zc hS hw hM dX7_link_76
  · have hw := hw.2 hc
    refine lv_aload_n hx hb dX7_link_10 rfl (lv_at hl 0 rfl) ?_
    refine wpg_7_24_0 zc hK hM dX7_link_11 ?_
    refine lv_iload_n hx hb dX7_link_14 rfl (lv_at hl 2 rfl) ?_
    refine lv_aload_n hx hb dX7_link_15 rfl (lv_at hl 1 rfl) ?_
    refine lv_iload_n hx hb dX7_link_16 rfl (lv_at hl 2 rfl) ?_
    refine zV_i [.int x2] [.int x2, .ref (qp + 5)] zc ky_X2_isDam kz_X2_isDam km_7_55 (c_wl_X2_isDam l hw) (wlPreV0 hK (pj_wp_wl_9 hM)) rfl rfl hl.1 (Nat.le_of_ble_eq_true rfl) ⟨rfl, rfl⟩ ⟨Nat.le_of_ble_eq_true rfl, Nat.le_of_ble_eq_true rfl⟩ ⟨(Nat.zero_le _), (Nat.zero_le _)⟩ dX7_link_17 (fun r_1 hw => ?_)
    refine lv_if_eq (tgt := 27) hx hb dX7_link_20 (by decide) (fun hc => ?_) (fun hc => ?_)
    · have hw := hw.1 hc
      refine lv_aload_n hx hb dX7_link_27 rfl (lv_at hl 1 rfl) ?_
      refine lv_iload_n hx hb dX7_link_28 rfl (lv_at hl 2 rfl) ?_
      refine zV_i [.int x2] [.int x2, .ref (qp + 5)] zc ky_X2_earshot kz_X2_earshot km_7_59 (c_wl_X2_earshot l hw) (wlPreV0 hK (pj_wp_wl_9 hM)) rfl rfl hl.1 (Nat.le_of_ble_eq_true rfl) ⟨rfl, rfl⟩ ⟨Nat.le_of_ble_eq_true rfl, Nat.le_of_ble_eq_true rfl⟩ ⟨(Nat.zero_le _), (Nat.zero_le _)⟩ dX7_link_29 (fun r_2 hw => ?_)
      exact t_wp_X7_link_9_32 zc hK hM hS (fun _ _ H locs ls h hl hM hS => h H locs ls hl hM hS) (lv_sub hl [0, 1, 2] rfl) hw
    · have hw := hw.2 hc
      refine lv_iconst (v := (0 : Int32)) hx hb dX7_link_23 (by decide) ?_
      refine lv_goto (tgt := 32) hx hb dX7_link_24 (by decide) ?_
      exact t_wp_X7_link_9_32 zc hK hM hS (fun _ _ H locs ls h hl hM hS => h H locs ls hl hM hS) (lv_sub hl [0, 1, 2] rfl) hw
set_option maxRecDepth 20000 in
theorem t_wp_X7_link_9_0 {p : Program} {l : Launch} {e : Env} {s : State} {m : MethodId} {args : Array Value} {below : List Frame} {meth : Method} {c : Code} {E : zE} {qp ql qs : Nat} {a_heard : Nat → Int32} {a_walked : Nat → Int32} {a_total : Nat → Int32} {a_longest : Nat → Int32} {a_next : Nat → Int32} {a_cover : Nat → Int32} {a_now : Nat → Int32} {a_then : Nat → Int32} {lf_huts : Int32} {lf_singers : Int32} {lf_villages : Int32} {lf_dams : Int32} {lf_echoes : Int32} {lf_deep : Int32} {lf_slide : Int32} {la_heights : Nat → Int32} {la_ladders : Nat → Int32} {la_minutes : Nat → Int32} {la_echoFrom : Nat → Int32} {la_echoTo : Nat → Int32} {la_homes : Nat → Int32} {la_talls : Nat → Int32} {la_known : Nat → Int32} {sf_facts : Int32} {sa_heard : Nat → Int32} {sa_huts : Nat → Int32} {sa_minutes : Nat → Int32} {post : (Nat → Int32) → Prop} {ls : Array Slot} {H : Heap} {locs : List Loc}
    (zc : zC p s m args meth c cX7_link 4 RX7 none)
    (hK : zK E s)
    (hM : wpW E qp ql qs a_heard a_walked a_total a_longest a_next a_cover a_now a_then lf_huts lf_singers lf_villages lf_dams lf_echoes lf_deep lf_slide la_heights la_ladders la_minutes la_echoFrom la_echoTo la_homes la_talls la_known sf_facts sa_heard sa_huts sa_minutes H)
    (hS : va_S (wpA qp ql qs) s.heap H locs)
    (hl : lv_has ls 4 [(0, .ref qp), (1, .ref ql)])
    (hw : q_wp_X7_link_9_0 a_next lf_huts lf_dams lf_echoes la_heights la_minutes la_echoFrom la_echoTo post) :
    W p l e rm_wp_X7_link_9 s m args below meth c H locs 0 0 (MQ below (zQv (S := (Nat → Int32)) (fun u => post u) (fun u H => wpW E qp ql qs a_heard a_walked a_total a_longest u a_cover a_now a_then lf_huts lf_singers lf_villages lf_dams lf_echoes lf_deep lf_slide la_heights la_ladders la_minutes la_echoFrom la_echoTo la_homes la_talls la_known sf_facts sa_heard sa_huts sa_minutes H) (wpA qp ql qs)) args s 0 0 (wpA qp ql qs)) (F0 m 0 ls []) := by
  have hx := zc.1
  have hb := zc.2.1
  refine lv_iconst (v := (0 : Int32)) hx hb dX7_link_0 (by decide) ?_
  refine lv_istore_n (lv' := [(2, .int (0 : Int32)), (0, .ref qp), (1, .ref ql)]) hx hb dX7_link_1 rfl hl (by decide) rfl (fun ls hl => ?_)
  exact t_wp_X7_link_9_2 zc hK hM hS  (lv_sub hl [1, 2, 0] rfl) hw
set_option maxRecDepth 20000 in
theorem c_wp_X7_link_9 (l : Launch) {E : zE} {qp ql qs : Nat} {a_heard : Nat → Int32} {a_walked : Nat → Int32} {a_total : Nat → Int32} {a_longest : Nat → Int32} {a_next : Nat → Int32} {a_cover : Nat → Int32} {a_now : Nat → Int32} {a_then : Nat → Int32} {lf_huts : Int32} {lf_singers : Int32} {lf_villages : Int32} {lf_dams : Int32} {lf_echoes : Int32} {lf_deep : Int32} {lf_slide : Int32} {la_heights : Nat → Int32} {la_ladders : Nat → Int32} {la_minutes : Nat → Int32} {la_echoFrom : Nat → Int32} {la_echoTo : Nat → Int32} {la_homes : Nat → Int32} {la_talls : Nat → Int32} {la_known : Nat → Int32} {sf_facts : Int32} {sa_heard : Nat → Int32} {sa_huts : Nat → Int32} {sa_minutes : Nat → Int32} {post : (Nat → Int32) → Prop} (hw : q_wp_X7_link_9_0 a_next lf_huts lf_dams lf_echoes la_heights la_minutes la_echoFrom la_echoTo post) : Met l yX7_link (Cond.code yX7_link cX7_link 4 none :: zb) rm_wp_X7_link_9 (va_Pc [.ref qp, .ref ql] (fun U => wpW E qp ql qs a_heard a_walked a_total a_longest a_next a_cover a_now a_then lf_huts lf_singers lf_villages lf_dams lf_echoes lf_deep lf_slide la_heights la_ladders la_minutes la_echoFrom la_echoTo la_homes la_talls la_known sf_facts sa_heard sa_huts sa_minutes U.heap ∧ zK E U)) (zQv (S := (Nat → Int32)) (fun u => post u) (fun u H => wpW E qp ql qs a_heard a_walked a_total a_longest u a_cover a_now a_then lf_huts lf_singers lf_villages lf_dams lf_echoes lf_deep lf_slide la_heights la_ladders la_minutes la_echoFrom la_echoTo la_homes la_talls la_known sf_facts sa_heard sa_huts sa_minutes H) (wpA qp ql qs)) 0 0 (wpA qp ql qs) := by
  refine Met.ofW (cc := cX7_link) (maxL := 4) (ret := none) (by decide) rfl ?_
  intro p e s m args below meth c s₁ B hml hv
  obtain ⟨rfl, hM, hK⟩ := hv
  have zc := zc_of B hml
  have hl := lv_entry ([.ref qp, .ref ql]) (n := 4) (Nat.le_of_ble_eq_true rfl)
  rw [lg_entry_eq]
  generalize (lg_sl ([.ref qp, .ref ql]) ++ List.replicate (4 - (lg_sl ([.ref qp, .ref ql])).length) Slot.unset).toArray = ls at hl ⊢
  have hl : lv_has ls 4 [(0, .ref qp), (1, .ref ql)] := hl
  exact t_wp_X7_link_9_0 zc hK hM va_S.rf (lv_sub hl [0, 1] rfl) hw
-- wp_X7_lastVillage_9
abbrev rm_wp_X7_lastVillage_9 : Room := { frames := 1, cells := 0, slots := 0, locals := 40 }
def q_wp_X7_lastVillage_9_52 (P5 : Int32 → Int32 → Prop) (a_heard : Nat → Int32) (lf_huts : Int32) (lf_villages : Int32) (lf_dams : Int32) (x2 : Int32) (x3 : Int32) (x4 : Int32) (post : Int32 → Prop) : Prop :=
  ∀ v_1 : Int32, v_1 = x4 + (1 : Int32) → (P5 x3 v_1)
def q_wp_X7_lastVillage_9_5 (a_heard : Nat → Int32) (lf_huts : Int32) (lf_villages : Int32) (lf_dams : Int32) (x2 : Int32) (x3 : Int32) (x4 : Int32) (post : Int32 → Prop) : Prop :=
  ∀ P5 : Int32 → Int32 → Prop, (∀ (x3 : Int32) (x4 : Int32), ((lf_huts ≤ x4 → (post x3)) ∧ (¬ lf_huts ≤ x4 → (q_z_X10_has_0 lf_villages x4 (fun r_1 => (r_1 = 0 → (q_wp_X7_lastVillage_9_52 P5 a_heard lf_huts lf_villages lf_dams x2 x3 x4 post)) ∧ (¬ r_1 = 0 → (q_wl_X2_isDam_0 lf_dams x4 (fun r_2 => (¬ r_2 = 0 → (q_wp_X7_lastVillage_9_52 P5 a_heard lf_huts lf_villages lf_dams x2 x3 x4 post)) ∧ (r_2 = 0 → (vp_in ((x2 * (9 : Int32)) + x4) 81 ∧ (∀ v_1 : Int32, v_1 = (if x3 < (a_heard (Int32.toNatClampNeg ((x2 * (9 : Int32)) + x4))) then (a_heard (Int32.toNatClampNeg ((x2 * (9 : Int32)) + x4))) else x3) → (q_wp_X7_lastVillage_9_52 P5 a_heard lf_huts lf_villages lf_dams x2 v_1 x4 post))))))))))) → P5 x3 x4) → P5 x3 x4
def q_wp_X7_lastVillage_9_0 (a_heard : Nat → Int32) (lf_huts : Int32) (lf_villages : Int32) (lf_dams : Int32) (x2 : Int32) (post : Int32 → Prop) : Prop :=
  q_wp_X7_lastVillage_9_5 a_heard lf_huts lf_villages lf_dams x2 (0 : Int32) (0 : Int32) post
set_option maxRecDepth 20000 in
theorem t_wp_X7_lastVillage_9_52 {p : Program} {l : Launch} {e : Env} {s : State} {m : MethodId} {args : Array Value} {below : List Frame} {meth : Method} {c : Code} {E : zE} {qp ql qs : Nat} {a_heard : Nat → Int32} {a_walked : Nat → Int32} {a_total : Nat → Int32} {a_longest : Nat → Int32} {a_next : Nat → Int32} {a_cover : Nat → Int32} {a_now : Nat → Int32} {a_then : Nat → Int32} {lf_huts : Int32} {lf_singers : Int32} {lf_villages : Int32} {lf_dams : Int32} {lf_echoes : Int32} {lf_deep : Int32} {lf_slide : Int32} {la_heights : Nat → Int32} {la_ladders : Nat → Int32} {la_minutes : Nat → Int32} {la_echoFrom : Nat → Int32} {la_echoTo : Nat → Int32} {la_homes : Nat → Int32} {la_talls : Nat → Int32} {la_known : Nat → Int32} {sf_facts : Int32} {sa_heard : Nat → Int32} {sa_huts : Nat → Int32} {sa_minutes : Nat → Int32} {P5 : Int32 → Int32 → Prop} {post : Int32 → Prop} {x2 : Int32} {x3 : Int32} {x4 : Int32} {ls : Array Slot}
    (zc : zC p s m args meth c cX7_lastVillage 5 RX7 (some .int))
    (hK : zK E s)
    (hM : wpW E qp ql qs a_heard a_walked a_total a_longest a_next a_cover a_now a_then lf_huts lf_singers lf_villages lf_dams lf_echoes lf_deep lf_slide la_heights la_ladders la_minutes la_echoFrom la_echoTo la_homes la_talls la_known sf_facts sa_heard sa_huts sa_minutes s.heap)
    (hP5 : ∀ (x3 : Int32) (x4 : Int32) (ls : Array Slot), P5 x3 x4 → lv_has ls 5 [(0, .ref qp), (1, .ref ql), (2, .int x2), (3, .int x3), (4, .int x4)] → W p l e rm_wp_X7_lastVillage_9 s m args below meth c s.heap [] 0 0 (MQ below (vp_Si post) args s 0 0 (fun _ => False)) (F0 m 5 ls []))
    (hl : lv_has ls 5 [(0, .ref qp), (1, .ref ql), (2, .int x2), (3, .int x3), (4, .int x4)])
    (hw : q_wp_X7_lastVillage_9_52 P5 a_heard lf_huts lf_villages lf_dams x2 x3 x4 post) :
    W p l e rm_wp_X7_lastVillage_9 s m args below meth c s.heap [] 0 0 (MQ below (vp_Si post) args s 0 0 (fun _ => False)) (F0 m 52 ls []) := by
  have hx := zc.1
  have hb := zc.2.1
  obtain ⟨v_1, ev_1⟩ : ∃ y : Int32, y = x4 + (1 : Int32) := ⟨_, rfl⟩
  have hw := hw v_1 ev_1
  refine lv_iinc (v := v_1) (k := 4) (lv' := [(4, .int v_1), (0, .ref qp), (1, .ref ql), (2, .int x2), (3, .int x3)]) hx hb dX7_lastVillage_52 hl rfl (by rw [ev_1]; rfl) (by decide) rfl (fun ls hl => ?_)
  refine lv_goto (tgt := 5) hx hb dX7_lastVillage_55 (by decide) ?_
  exact hP5 _ _ _ hw (lv_sub hl [1, 2, 3, 4, 0] rfl)
set_option maxRecDepth 20000 in
theorem t_wp_X7_lastVillage_9_5 {p : Program} {l : Launch} {e : Env} {s : State} {m : MethodId} {args : Array Value} {below : List Frame} {meth : Method} {c : Code} {E : zE} {qp ql qs : Nat} {a_heard : Nat → Int32} {a_walked : Nat → Int32} {a_total : Nat → Int32} {a_longest : Nat → Int32} {a_next : Nat → Int32} {a_cover : Nat → Int32} {a_now : Nat → Int32} {a_then : Nat → Int32} {lf_huts : Int32} {lf_singers : Int32} {lf_villages : Int32} {lf_dams : Int32} {lf_echoes : Int32} {lf_deep : Int32} {lf_slide : Int32} {la_heights : Nat → Int32} {la_ladders : Nat → Int32} {la_minutes : Nat → Int32} {la_echoFrom : Nat → Int32} {la_echoTo : Nat → Int32} {la_homes : Nat → Int32} {la_talls : Nat → Int32} {la_known : Nat → Int32} {sf_facts : Int32} {sa_heard : Nat → Int32} {sa_huts : Nat → Int32} {sa_minutes : Nat → Int32} {post : Int32 → Prop} {x2 : Int32} {x3 : Int32} {x4 : Int32} {ls : Array Slot}
    (zc : zC p s m args meth c cX7_lastVillage 5 RX7 (some .int))
    (hK : zK E s)
    (hM : wpW E qp ql qs a_heard a_walked a_total a_longest a_next a_cover a_now a_then lf_huts lf_singers lf_villages lf_dams lf_echoes lf_deep lf_slide la_heights la_ladders la_minutes la_echoFrom la_echoTo la_homes la_talls la_known sf_facts sa_heard sa_huts sa_minutes s.heap)
    (hl : lv_has ls 5 [(0, .ref qp), (1, .ref ql), (2, .int x2), (3, .int x3), (4, .int x4)])
    (hw : q_wp_X7_lastVillage_9_5 a_heard lf_huts lf_villages lf_dams x2 x3 x4 post) :
    W p l e rm_wp_X7_lastVillage_9 s m args below meth c s.heap [] 0 0 (MQ below (vp_Si post) args s 0 0 (fun _ => False)) (F0 m 5 ls []) := by
  have hx := zc.1
  have hb := zc.2.1
  refine hw (fun x3 x4 => ∀ (ls : Array Slot), lv_has ls 5 [(0, .ref qp), (1, .ref ql), (2, .int x2), (3, .int x3), (4, .int x4)] → W p l e rm_wp_X7_lastVillage_9 s m args below meth c s.heap [] 0 0 (MQ below (vp_Si post) args s 0 0 (fun _ => False)) (F0 m 5 ls [])) ?_ _ hl
  intro x3 x4 hw ls hl
  refine lv_iload hx hb dX7_lastVillage_5 (lv_at hl 4 rfl) ?_
  refine lv_aload_n hx hb dX7_lastVillage_7 rfl (lv_at hl 1 rfl) ?_
  refine wpg_7_42_9 zc hK hM dX7_lastVillage_8 ?_
  refine lv_icmp_ge (tgt := 58) hx hb dX7_lastVillage_11 (by decide) (fun hc => ?_) (fun hc => ?_)
  · have hw := hw.1 hc
    refine lv_iload_n hx hb dX7_lastVillage_58 rfl (lv_at hl 3 rfl) ?_
    exact zret_i zc hw dX7_lastVillage_59
  · have hw := hw.2 hc
    refine lv_aload_n hx hb dX7_lastVillage_14 rfl (lv_at hl 1 rfl) ?_
    refine wpg_7_73_9 zc hK hM dX7_lastVillage_15 ?_
    refine lv_iload hx hb dX7_lastVillage_18 (lv_at hl 4 rfl) ?_
    refine zSN_i [.int lf_villages, .int x4] [] zc ky_X10_has kz_X10_has (hK.2 _ kn_7_70) (c_z_X10_has l hw) (zPre0 _) rfl rfl hl.1 (Nat.le_of_ble_eq_true rfl) ⟨rfl, rfl⟩ ⟨Nat.le_of_ble_eq_true rfl, Nat.le_of_ble_eq_true rfl⟩ ⟨(Nat.zero_le _), (Nat.zero_le _)⟩ dX7_lastVillage_20 (fun r_1 hw => ?_)
    refine lv_if_eq (tgt := 52) hx hb dX7_lastVillage_23 (by decide) (fun hc => ?_) (fun hc => ?_)
    · have hw := hw.1 hc
      exact t_wp_X7_lastVillage_9_52 zc hK hM (fun _ _ ls h hl => h ls hl) (lv_sub hl [0, 1, 2, 3, 4] rfl) hw
    · have hw := hw.2 hc
      refine lv_aload_n hx hb dX7_lastVillage_26 rfl (lv_at hl 1 rfl) ?_
      refine lv_iload hx hb dX7_lastVillage_27 (lv_at hl 4 rfl) ?_
      refine zV_i [.int x4] [] zc ky_X2_isDam kz_X2_isDam km_7_55 (c_wl_X2_isDam l hw) (wlPreV0 hK (pj_wp_wl_9 hM)) rfl rfl hl.1 (Nat.le_of_ble_eq_true rfl) ⟨rfl, rfl⟩ ⟨Nat.le_of_ble_eq_true rfl, Nat.le_of_ble_eq_true rfl⟩ ⟨(Nat.zero_le _), (Nat.zero_le _)⟩ dX7_lastVillage_29 (fun r_2 hw => ?_)
      refine lv_if_ne (tgt := 52) hx hb dX7_lastVillage_32 (by decide) (fun hc => ?_) (fun hc => ?_)
      · have hw := hw.1 hc
        exact t_wp_X7_lastVillage_9_52 zc hK hM (fun _ _ ls h hl => h ls hl) (lv_sub hl [0, 1, 2, 3, 4] rfl) hw
      · have hw := hw.2 hc
        refine lv_iload_n hx hb dX7_lastVillage_35 rfl (lv_at hl 3 rfl) ?_
        refine lv_aload_n hx hb dX7_lastVillage_36 rfl (lv_at hl 0 rfl) ?_
        refine wpg_7_9_0 zc hK hM dX7_lastVillage_37 ?_
        refine lv_iload_n hx hb dX7_lastVillage_40 rfl (lv_at hl 2 rfl) ?_
        refine lv_bipush (v := (9 : Int32)) hx hb dX7_lastVillage_41 (by decide) ?_
        refine lv_imul hx hb dX7_lastVillage_43 ?_
        refine lv_iload hx hb dX7_lastVillage_44 (lv_at hl 4 rfl) ?_
        refine lv_iadd hx hb dX7_lastVillage_46 ?_
        refine wpld_1 zc hK hM hw.1 dX7_lastVillage_47 ?_
        have hw := hw.2
        refine va_mmax hx hb (zc.2.2.1.trans hl.1.symm) zc.2.2.2.1 (zc.2.2.2.2.1 _ km_7_76) (zc.2.2.2.2.1 _ k_mmaxs) (zc.2.2.2.2.1 _ k_mini) (zc.2.2.2.2.1 _ k_mmaxc) (Nat.le_of_ble_eq_true rfl) (Nat.le_of_ble_eq_true rfl) (Nat.zero_le _) (Nat.zero_le _) dX7_lastVillage_48 ?_
        refine lv_topi (fun v_1 ev_1 => ?_)
        have hw := hw v_1 ev_1
        refine lv_istore_n (lv' := [(3, .int v_1), (0, .ref qp), (1, .ref ql), (2, .int x2), (4, .int x4)]) hx hb dX7_lastVillage_51 rfl hl (by decide) rfl (fun ls hl => ?_)
        exact t_wp_X7_lastVillage_9_52 zc hK hM (fun _ _ ls h hl => h ls hl) (lv_sub hl [1, 2, 3, 0, 4] rfl) hw
set_option maxRecDepth 20000 in
theorem t_wp_X7_lastVillage_9_0 {p : Program} {l : Launch} {e : Env} {s : State} {m : MethodId} {args : Array Value} {below : List Frame} {meth : Method} {c : Code} {E : zE} {qp ql qs : Nat} {a_heard : Nat → Int32} {a_walked : Nat → Int32} {a_total : Nat → Int32} {a_longest : Nat → Int32} {a_next : Nat → Int32} {a_cover : Nat → Int32} {a_now : Nat → Int32} {a_then : Nat → Int32} {lf_huts : Int32} {lf_singers : Int32} {lf_villages : Int32} {lf_dams : Int32} {lf_echoes : Int32} {lf_deep : Int32} {lf_slide : Int32} {la_heights : Nat → Int32} {la_ladders : Nat → Int32} {la_minutes : Nat → Int32} {la_echoFrom : Nat → Int32} {la_echoTo : Nat → Int32} {la_homes : Nat → Int32} {la_talls : Nat → Int32} {la_known : Nat → Int32} {sf_facts : Int32} {sa_heard : Nat → Int32} {sa_huts : Nat → Int32} {sa_minutes : Nat → Int32} {post : Int32 → Prop} {x2 : Int32} {ls : Array Slot}
    (zc : zC p s m args meth c cX7_lastVillage 5 RX7 (some .int))
    (hK : zK E s)
    (hM : wpW E qp ql qs a_heard a_walked a_total a_longest a_next a_cover a_now a_then lf_huts lf_singers lf_villages lf_dams lf_echoes lf_deep lf_slide la_heights la_ladders la_minutes la_echoFrom la_echoTo la_homes la_talls la_known sf_facts sa_heard sa_huts sa_minutes s.heap)
    (hl : lv_has ls 5 [(0, .ref qp), (1, .ref ql), (2, .int x2)])
    (hw : q_wp_X7_lastVillage_9_0 a_heard lf_huts lf_villages lf_dams x2 post) :
    W p l e rm_wp_X7_lastVillage_9 s m args below meth c s.heap [] 0 0 (MQ below (vp_Si post) args s 0 0 (fun _ => False)) (F0 m 0 ls []) := by
  have hx := zc.1
  have hb := zc.2.1
  refine lv_iconst (v := (0 : Int32)) hx hb dX7_lastVillage_0 (by decide) ?_
  refine lv_istore_n (lv' := [(3, .int (0 : Int32)), (0, .ref qp), (1, .ref ql), (2, .int x2)]) hx hb dX7_lastVillage_1 rfl hl (by decide) rfl (fun ls hl => ?_)
  refine lv_iconst (v := (0 : Int32)) hx hb dX7_lastVillage_2 (by decide) ?_
  refine lv_istore (lv' := [(4, .int (0 : Int32)), (3, .int (0 : Int32)), (0, .ref qp), (1, .ref ql), (2, .int x2)]) hx hb dX7_lastVillage_3 hl (by decide) rfl (fun ls hl => ?_)
  exact t_wp_X7_lastVillage_9_5 zc hK hM  (lv_sub hl [2, 3, 4, 1, 0] rfl) hw
set_option maxRecDepth 20000 in
theorem c_wp_X7_lastVillage_9 (l : Launch) {E : zE} {qp ql qs : Nat} {a_heard : Nat → Int32} {a_walked : Nat → Int32} {a_total : Nat → Int32} {a_longest : Nat → Int32} {a_next : Nat → Int32} {a_cover : Nat → Int32} {a_now : Nat → Int32} {a_then : Nat → Int32} {lf_huts : Int32} {lf_singers : Int32} {lf_villages : Int32} {lf_dams : Int32} {lf_echoes : Int32} {lf_deep : Int32} {lf_slide : Int32} {la_heights : Nat → Int32} {la_ladders : Nat → Int32} {la_minutes : Nat → Int32} {la_echoFrom : Nat → Int32} {la_echoTo : Nat → Int32} {la_homes : Nat → Int32} {la_talls : Nat → Int32} {la_known : Nat → Int32} {sf_facts : Int32} {sa_heard : Nat → Int32} {sa_huts : Nat → Int32} {sa_minutes : Nat → Int32} {x2 : Int32} {post : Int32 → Prop} (hw : q_wp_X7_lastVillage_9_0 a_heard lf_huts lf_villages lf_dams x2 post) : Met l yX7_lastVillage (Cond.code yX7_lastVillage cX7_lastVillage 5 (some .int) :: zb) rm_wp_X7_lastVillage_9 (va_Pc [.ref qp, .ref ql, .int x2] (fun U => wpW E qp ql qs a_heard a_walked a_total a_longest a_next a_cover a_now a_then lf_huts lf_singers lf_villages lf_dams lf_echoes lf_deep lf_slide la_heights la_ladders la_minutes la_echoFrom la_echoTo la_homes la_talls la_known sf_facts sa_heard sa_huts sa_minutes U.heap ∧ zK E U)) (vp_Si post) 0 0 (fun _ => False) := by
  refine Met.ofW (cc := cX7_lastVillage) (maxL := 5) (ret := (some .int)) (by decide) rfl ?_
  intro p e s m args below meth c s₁ B hml hv
  obtain ⟨rfl, hM, hK⟩ := hv
  have zc := zc_of B hml
  have hl := lv_entry ([.ref qp, .ref ql, .int x2]) (n := 5) (Nat.le_of_ble_eq_true rfl)
  rw [lg_entry_eq]
  generalize (lg_sl ([.ref qp, .ref ql, .int x2]) ++ List.replicate (5 - (lg_sl ([.ref qp, .ref ql, .int x2])).length) Slot.unset).toArray = ls at hl ⊢
  have hl : lv_has ls 5 [(0, .ref qp), (1, .ref ql), (2, .int x2)] := hl
  exact t_wp_X7_lastVillage_9_0 zc hK hM (lv_sub hl [0, 1, 2] rfl) hw
end
section
-- wp_X7_allBy_9
abbrev rm_wp_X7_allBy_9 : Room := { frames := 2, cells := 0, slots := 0, locals := 64 }
def q_wp_X7_allBy_9_41 (P5 : Int32 → Int32 → Prop) (a_heard : Nat → Int32) (lf_huts : Int32) (lf_villages : Int32) (lf_dams : Int32) (x2 : Int32) (x3 : Int32) (x4 : Int32) (post : Int32 → Prop) : Prop :=
  ∀ v_1 : Int32, v_1 = x4 + (1 : Int32) → (P5 x3 v_1)
def q_wp_X7_allBy_9_5 (a_heard : Nat → Int32) (lf_huts : Int32) (lf_villages : Int32) (lf_dams : Int32) (x2 : Int32) (x3 : Int32) (x4 : Int32) (post : Int32 → Prop) : Prop :=
  ∀ P5 : Int32 → Int32 → Prop, (∀ (x3 : Int32) (x4 : Int32), ((lf_huts ≤ x4 → (post x3)) ∧ (¬ lf_huts ≤ x4 → (q_wl_X2_isDam_0 lf_dams x4 (fun r_1 => (¬ r_1 = 0 → (q_wp_X7_allBy_9_41 P5 a_heard lf_huts lf_villages lf_dams x2 x3 x4 post)) ∧ (r_1 = 0 → (q_wp_X7_lastVillage_9_0 a_heard lf_huts lf_villages lf_dams x4 (fun r_2 => (x2 < r_2 → (q_wp_X7_allBy_9_41 P5 a_heard lf_huts lf_villages lf_dams x2 x3 x4 post)) ∧ (¬ x2 < r_2 → (∀ v_1 : Int32, v_1 = (x3 ||| ((1 : Int32) <<< (x4 &&& 31))) → (q_wp_X7_allBy_9_41 P5 a_heard lf_huts lf_villages lf_dams x2 v_1 x4 post)))))))))) → P5 x3 x4) → P5 x3 x4
def q_wp_X7_allBy_9_0 (a_heard : Nat → Int32) (lf_huts : Int32) (lf_villages : Int32) (lf_dams : Int32) (x2 : Int32) (post : Int32 → Prop) : Prop :=
  q_wp_X7_allBy_9_5 a_heard lf_huts lf_villages lf_dams x2 (0 : Int32) (0 : Int32) post
set_option maxRecDepth 20000 in
theorem t_wp_X7_allBy_9_41 {p : Program} {l : Launch} {e : Env} {s : State} {m : MethodId} {args : Array Value} {below : List Frame} {meth : Method} {c : Code} {E : zE} {qp ql qs : Nat} {a_heard : Nat → Int32} {a_walked : Nat → Int32} {a_total : Nat → Int32} {a_longest : Nat → Int32} {a_next : Nat → Int32} {a_cover : Nat → Int32} {a_now : Nat → Int32} {a_then : Nat → Int32} {lf_huts : Int32} {lf_singers : Int32} {lf_villages : Int32} {lf_dams : Int32} {lf_echoes : Int32} {lf_deep : Int32} {lf_slide : Int32} {la_heights : Nat → Int32} {la_ladders : Nat → Int32} {la_minutes : Nat → Int32} {la_echoFrom : Nat → Int32} {la_echoTo : Nat → Int32} {la_homes : Nat → Int32} {la_talls : Nat → Int32} {la_known : Nat → Int32} {sf_facts : Int32} {sa_heard : Nat → Int32} {sa_huts : Nat → Int32} {sa_minutes : Nat → Int32} {P5 : Int32 → Int32 → Prop} {post : Int32 → Prop} {x2 : Int32} {x3 : Int32} {x4 : Int32} {ls : Array Slot}
    (zc : zC p s m args meth c cX7_allBy 5 RX7 (some .int))
    (hK : zK E s)
    (hM : wpW E qp ql qs a_heard a_walked a_total a_longest a_next a_cover a_now a_then lf_huts lf_singers lf_villages lf_dams lf_echoes lf_deep lf_slide la_heights la_ladders la_minutes la_echoFrom la_echoTo la_homes la_talls la_known sf_facts sa_heard sa_huts sa_minutes s.heap)
    (hP5 : ∀ (x3 : Int32) (x4 : Int32) (ls : Array Slot), P5 x3 x4 → lv_has ls 5 [(0, .ref qp), (1, .ref ql), (2, .int x2), (3, .int x3), (4, .int x4)] → W p l e rm_wp_X7_allBy_9 s m args below meth c s.heap [] 0 0 (MQ below (vp_Si post) args s 0 0 (fun _ => False)) (F0 m 5 ls []))
    (hl : lv_has ls 5 [(0, .ref qp), (1, .ref ql), (2, .int x2), (3, .int x3), (4, .int x4)])
    (hw : q_wp_X7_allBy_9_41 P5 a_heard lf_huts lf_villages lf_dams x2 x3 x4 post) :
    W p l e rm_wp_X7_allBy_9 s m args below meth c s.heap [] 0 0 (MQ below (vp_Si post) args s 0 0 (fun _ => False)) (F0 m 41 ls []) := by
  have hx := zc.1
  have hb := zc.2.1
  obtain ⟨v_1, ev_1⟩ : ∃ y : Int32, y = x4 + (1 : Int32) := ⟨_, rfl⟩
  have hw := hw v_1 ev_1
  refine lv_iinc (v := v_1) (k := 4) (lv' := [(4, .int v_1), (0, .ref qp), (1, .ref ql), (2, .int x2), (3, .int x3)]) hx hb dX7_allBy_41 hl rfl (by rw [ev_1]; rfl) (by decide) rfl (fun ls hl => ?_)
  refine lv_goto (tgt := 5) hx hb dX7_allBy_44 (by decide) ?_
  exact hP5 _ _ _ hw (lv_sub hl [1, 2, 3, 4, 0] rfl)
set_option maxRecDepth 20000 in
theorem t_wp_X7_allBy_9_5 {p : Program} {l : Launch} {e : Env} {s : State} {m : MethodId} {args : Array Value} {below : List Frame} {meth : Method} {c : Code} {E : zE} {qp ql qs : Nat} {a_heard : Nat → Int32} {a_walked : Nat → Int32} {a_total : Nat → Int32} {a_longest : Nat → Int32} {a_next : Nat → Int32} {a_cover : Nat → Int32} {a_now : Nat → Int32} {a_then : Nat → Int32} {lf_huts : Int32} {lf_singers : Int32} {lf_villages : Int32} {lf_dams : Int32} {lf_echoes : Int32} {lf_deep : Int32} {lf_slide : Int32} {la_heights : Nat → Int32} {la_ladders : Nat → Int32} {la_minutes : Nat → Int32} {la_echoFrom : Nat → Int32} {la_echoTo : Nat → Int32} {la_homes : Nat → Int32} {la_talls : Nat → Int32} {la_known : Nat → Int32} {sf_facts : Int32} {sa_heard : Nat → Int32} {sa_huts : Nat → Int32} {sa_minutes : Nat → Int32} {post : Int32 → Prop} {x2 : Int32} {x3 : Int32} {x4 : Int32} {ls : Array Slot}
    (zc : zC p s m args meth c cX7_allBy 5 RX7 (some .int))
    (hK : zK E s)
    (hM : wpW E qp ql qs a_heard a_walked a_total a_longest a_next a_cover a_now a_then lf_huts lf_singers lf_villages lf_dams lf_echoes lf_deep lf_slide la_heights la_ladders la_minutes la_echoFrom la_echoTo la_homes la_talls la_known sf_facts sa_heard sa_huts sa_minutes s.heap)
    (hl : lv_has ls 5 [(0, .ref qp), (1, .ref ql), (2, .int x2), (3, .int x3), (4, .int x4)])
    (hw : q_wp_X7_allBy_9_5 a_heard lf_huts lf_villages lf_dams x2 x3 x4 post) :
    W p l e rm_wp_X7_allBy_9 s m args below meth c s.heap [] 0 0 (MQ below (vp_Si post) args s 0 0 (fun _ => False)) (F0 m 5 ls []) := by
  have hx := zc.1
  have hb := zc.2.1
  refine hw (fun x3 x4 => ∀ (ls : Array Slot), lv_has ls 5 [(0, .ref qp), (1, .ref ql), (2, .int x2), (3, .int x3), (4, .int x4)] → W p l e rm_wp_X7_allBy_9 s m args below meth c s.heap [] 0 0 (MQ below (vp_Si post) args s 0 0 (fun _ => False)) (F0 m 5 ls [])) ?_ _ hl
  intro x3 x4 hw ls hl
  refine lv_iload hx hb dX7_allBy_5 (lv_at hl 4 rfl) ?_
  refine lv_aload_n hx hb dX7_allBy_7 rfl (lv_at hl 1 rfl) ?_
  refine wpg_7_42_9 zc hK hM dX7_allBy_8 ?_
  refine lv_icmp_ge (tgt := 47) hx hb dX7_allBy_11 (by decide) (fun hc => ?_) (fun hc => ?_)
  · have hw := hw.1 hc
    refine lv_iload_n hx hb dX7_allBy_47 rfl (lv_at hl 3 rfl) ?_
    exact zret_i zc hw dX7_allBy_48
  · have hw := hw.2 hc
    refine lv_aload_n hx hb dX7_allBy_14 rfl (lv_at hl 1 rfl) ?_
    refine lv_iload hx hb dX7_allBy_15 (lv_at hl 4 rfl) ?_
    refine zV_i [.int x4] [] zc ky_X2_isDam kz_X2_isDam km_7_55 (c_wl_X2_isDam l hw) (wlPreV0 hK (pj_wp_wl_9 hM)) rfl rfl hl.1 (Nat.le_of_ble_eq_true rfl) ⟨rfl, rfl⟩ ⟨Nat.le_of_ble_eq_true rfl, Nat.le_of_ble_eq_true rfl⟩ ⟨(Nat.zero_le _), (Nat.zero_le _)⟩ dX7_allBy_17 (fun r_1 hw => ?_)
    refine lv_if_ne (tgt := 41) hx hb dX7_allBy_20 (by decide) (fun hc => ?_) (fun hc => ?_)
    · have hw := hw.1 hc
      exact t_wp_X7_allBy_9_41 zc hK hM (fun _ _ ls h hl => h ls hl) (lv_sub hl [0, 1, 2, 3, 4] rfl) hw
    · have hw := hw.2 hc
      refine lv_aload_n hx hb dX7_allBy_23 rfl (lv_at hl 0 rfl) ?_
      refine lv_aload_n hx hb dX7_allBy_24 rfl (lv_at hl 1 rfl) ?_
      refine lv_iload hx hb dX7_allBy_25 (lv_at hl 4 rfl) ?_
      refine zV_i [.ref ql, .int x4] [] zc ky_X7_lastVillage kz_X7_lastVillage km_7_82 (c_wp_X7_lastVillage_9 l hw) (wpPreV0 hK hM) rfl rfl hl.1 (Nat.le_of_ble_eq_true rfl) ⟨rfl, rfl⟩ ⟨Nat.le_of_ble_eq_true rfl, Nat.le_of_ble_eq_true rfl⟩ ⟨(Nat.zero_le _), (Nat.zero_le _)⟩ dX7_allBy_27 (fun r_2 hw => ?_)
      refine lv_iload_n hx hb dX7_allBy_30 rfl (lv_at hl 2 rfl) ?_
      refine lv_icmp_gt (tgt := 41) hx hb dX7_allBy_31 (by decide) (fun hc => ?_) (fun hc => ?_)
      · have hw := hw.1 hc
        exact t_wp_X7_allBy_9_41 zc hK hM (fun _ _ ls h hl => h ls hl) (lv_sub hl [0, 1, 2, 3, 4] rfl) hw
      · have hw := hw.2 hc
        refine lv_iload_n hx hb dX7_allBy_34 rfl (lv_at hl 3 rfl) ?_
        refine lv_iconst (v := (1 : Int32)) hx hb dX7_allBy_35 (by decide) ?_
        refine lv_iload hx hb dX7_allBy_36 (lv_at hl 4 rfl) ?_
        refine lv_ishl hx hb dX7_allBy_38 ?_
        refine lv_ior hx hb dX7_allBy_39 ?_
        refine lv_topi (fun v_1 ev_1 => ?_)
        have hw := hw v_1 ev_1
        refine lv_istore_n (lv' := [(3, .int v_1), (0, .ref qp), (1, .ref ql), (2, .int x2), (4, .int x4)]) hx hb dX7_allBy_40 rfl hl (by decide) rfl (fun ls hl => ?_)
        exact t_wp_X7_allBy_9_41 zc hK hM (fun _ _ ls h hl => h ls hl) (lv_sub hl [1, 2, 3, 0, 4] rfl) hw
set_option maxRecDepth 20000 in
theorem t_wp_X7_allBy_9_0 {p : Program} {l : Launch} {e : Env} {s : State} {m : MethodId} {args : Array Value} {below : List Frame} {meth : Method} {c : Code} {E : zE} {qp ql qs : Nat} {a_heard : Nat → Int32} {a_walked : Nat → Int32} {a_total : Nat → Int32} {a_longest : Nat → Int32} {a_next : Nat → Int32} {a_cover : Nat → Int32} {a_now : Nat → Int32} {a_then : Nat → Int32} {lf_huts : Int32} {lf_singers : Int32} {lf_villages : Int32} {lf_dams : Int32} {lf_echoes : Int32} {lf_deep : Int32} {lf_slide : Int32} {la_heights : Nat → Int32} {la_ladders : Nat → Int32} {la_minutes : Nat → Int32} {la_echoFrom : Nat → Int32} {la_echoTo : Nat → Int32} {la_homes : Nat → Int32} {la_talls : Nat → Int32} {la_known : Nat → Int32} {sf_facts : Int32} {sa_heard : Nat → Int32} {sa_huts : Nat → Int32} {sa_minutes : Nat → Int32} {post : Int32 → Prop} {x2 : Int32} {ls : Array Slot}
    (zc : zC p s m args meth c cX7_allBy 5 RX7 (some .int))
    (hK : zK E s)
    (hM : wpW E qp ql qs a_heard a_walked a_total a_longest a_next a_cover a_now a_then lf_huts lf_singers lf_villages lf_dams lf_echoes lf_deep lf_slide la_heights la_ladders la_minutes la_echoFrom la_echoTo la_homes la_talls la_known sf_facts sa_heard sa_huts sa_minutes s.heap)
    (hl : lv_has ls 5 [(0, .ref qp), (1, .ref ql), (2, .int x2)])
    (hw : q_wp_X7_allBy_9_0 a_heard lf_huts lf_villages lf_dams x2 post) :
    W p l e rm_wp_X7_allBy_9 s m args below meth c s.heap [] 0 0 (MQ below (vp_Si post) args s 0 0 (fun _ => False)) (F0 m 0 ls []) := by
  have hx := zc.1
  have hb := zc.2.1
  refine lv_iconst (v := (0 : Int32)) hx hb dX7_allBy_0 (by decide) ?_
  refine lv_istore_n (lv' := [(3, .int (0 : Int32)), (0, .ref qp), (1, .ref ql), (2, .int x2)]) hx hb dX7_allBy_1 rfl hl (by decide) rfl (fun ls hl => ?_)
  refine lv_iconst (v := (0 : Int32)) hx hb dX7_allBy_2 (by decide) ?_
  refine lv_istore (lv' := [(4, .int (0 : Int32)), (3, .int (0 : Int32)), (0, .ref qp), (1, .ref ql), (2, .int x2)]) hx hb dX7_allBy_3 hl (by decide) rfl (fun ls hl => ?_)
  exact t_wp_X7_allBy_9_5 zc hK hM  (lv_sub hl [2, 3, 4, 1, 0] rfl) hw
set_option maxRecDepth 20000 in
theorem c_wp_X7_allBy_9 (l : Launch) {E : zE} {qp ql qs : Nat} {a_heard : Nat → Int32} {a_walked : Nat → Int32} {a_total : Nat → Int32} {a_longest : Nat → Int32} {a_next : Nat → Int32} {a_cover : Nat → Int32} {a_now : Nat → Int32} {a_then : Nat → Int32} {lf_huts : Int32} {lf_singers : Int32} {lf_villages : Int32} {lf_dams : Int32} {lf_echoes : Int32} {lf_deep : Int32} {lf_slide : Int32} {la_heights : Nat → Int32} {la_ladders : Nat → Int32} {la_minutes : Nat → Int32} {la_echoFrom : Nat → Int32} {la_echoTo : Nat → Int32} {la_homes : Nat → Int32} {la_talls : Nat → Int32} {la_known : Nat → Int32} {sf_facts : Int32} {sa_heard : Nat → Int32} {sa_huts : Nat → Int32} {sa_minutes : Nat → Int32} {x2 : Int32} {post : Int32 → Prop} (hw : q_wp_X7_allBy_9_0 a_heard lf_huts lf_villages lf_dams x2 post) : Met l yX7_allBy (Cond.code yX7_allBy cX7_allBy 5 (some .int) :: zb) rm_wp_X7_allBy_9 (va_Pc [.ref qp, .ref ql, .int x2] (fun U => wpW E qp ql qs a_heard a_walked a_total a_longest a_next a_cover a_now a_then lf_huts lf_singers lf_villages lf_dams lf_echoes lf_deep lf_slide la_heights la_ladders la_minutes la_echoFrom la_echoTo la_homes la_talls la_known sf_facts sa_heard sa_huts sa_minutes U.heap ∧ zK E U)) (vp_Si post) 0 0 (fun _ => False) := by
  refine Met.ofW (cc := cX7_allBy) (maxL := 5) (ret := (some .int)) (by decide) rfl ?_
  intro p e s m args below meth c s₁ B hml hv
  obtain ⟨rfl, hM, hK⟩ := hv
  have zc := zc_of B hml
  have hl := lv_entry ([.ref qp, .ref ql, .int x2]) (n := 5) (Nat.le_of_ble_eq_true rfl)
  rw [lg_entry_eq]
  generalize (lg_sl ([.ref qp, .ref ql, .int x2]) ++ List.replicate (5 - (lg_sl ([.ref qp, .ref ql, .int x2])).length) Slot.unset).toArray = ls at hl ⊢
  have hl : lv_has ls 5 [(0, .ref qp), (1, .ref ql), (2, .int x2)] := hl
  exact t_wp_X7_allBy_9_0 zc hK hM (lv_sub hl [0, 1, 2] rfl) hw
-- wp_X7_bestHut_9
abbrev rm_wp_X7_bestHut_9 : Room := { frames := 2, cells := 0, slots := 0, locals := 64 }
def q_wp_X7_bestHut_9_49 (P9 : Int32 → Int32 → Int32 → Prop) (a_heard : Nat → Int32) (lf_huts : Int32) (lf_villages : Int32) (lf_dams : Int32) (x2 : Int32) (x3 : Int32) (x4 : Int32) (post : Int32 → Prop) : Prop :=
  ∀ v_1 : Int32, v_1 = x4 + (1 : Int32) → (P9 x2 x3 v_1)
def q_wp_X7_bestHut_9_9 (a_heard : Nat → Int32) (lf_huts : Int32) (lf_villages : Int32) (lf_dams : Int32) (x2 : Int32) (x3 : Int32) (x4 : Int32) (post : Int32 → Prop) : Prop :=
  ∀ P9 : Int32 → Int32 → Int32 → Prop, (∀ (x2 : Int32) (x3 : Int32) (x4 : Int32), ((lf_huts ≤ x4 → (post x2)) ∧ (¬ lf_huts ≤ x4 → (q_wl_X2_isDam_0 lf_dams x4 (fun r_1 => (¬ r_1 = 0 → (q_wp_X7_bestHut_9_49 P9 a_heard lf_huts lf_villages lf_dams x2 x3 x4 post)) ∧ (r_1 = 0 → (q_wp_X7_lastVillage_9_0 a_heard lf_huts lf_villages lf_dams x4 (fun r_2 => (x3 ≤ r_2 → (q_wp_X7_bestHut_9_49 P9 a_heard lf_huts lf_villages lf_dams x2 x3 x4 post)) ∧ (¬ x3 ≤ r_2 → (q_wp_X7_lastVillage_9_0 a_heard lf_huts lf_villages lf_dams x4 (fun r_3 => q_wp_X7_bestHut_9_49 P9 a_heard lf_huts lf_villages lf_dams x4 r_3 x4 post)))))))))) → P9 x2 x3 x4) → P9 x2 x3 x4
def q_wp_X7_bestHut_9_0 (a_heard : Nat → Int32) (lf_huts : Int32) (lf_villages : Int32) (lf_dams : Int32) (post : Int32 → Prop) : Prop :=
  q_wp_X7_bestHut_9_9 a_heard lf_huts lf_villages lf_dams (-1 : Int32) (1000 : Int32) (0 : Int32) post
set_option maxRecDepth 20000 in
theorem t_wp_X7_bestHut_9_49 {p : Program} {l : Launch} {e : Env} {s : State} {m : MethodId} {args : Array Value} {below : List Frame} {meth : Method} {c : Code} {E : zE} {qp ql qs : Nat} {a_heard : Nat → Int32} {a_walked : Nat → Int32} {a_total : Nat → Int32} {a_longest : Nat → Int32} {a_next : Nat → Int32} {a_cover : Nat → Int32} {a_now : Nat → Int32} {a_then : Nat → Int32} {lf_huts : Int32} {lf_singers : Int32} {lf_villages : Int32} {lf_dams : Int32} {lf_echoes : Int32} {lf_deep : Int32} {lf_slide : Int32} {la_heights : Nat → Int32} {la_ladders : Nat → Int32} {la_minutes : Nat → Int32} {la_echoFrom : Nat → Int32} {la_echoTo : Nat → Int32} {la_homes : Nat → Int32} {la_talls : Nat → Int32} {la_known : Nat → Int32} {sf_facts : Int32} {sa_heard : Nat → Int32} {sa_huts : Nat → Int32} {sa_minutes : Nat → Int32} {P9 : Int32 → Int32 → Int32 → Prop} {post : Int32 → Prop} {x2 : Int32} {x3 : Int32} {x4 : Int32} {ls : Array Slot}
    (zc : zC p s m args meth c cX7_bestHut 5 RX7 (some .int))
    (hK : zK E s)
    (hM : wpW E qp ql qs a_heard a_walked a_total a_longest a_next a_cover a_now a_then lf_huts lf_singers lf_villages lf_dams lf_echoes lf_deep lf_slide la_heights la_ladders la_minutes la_echoFrom la_echoTo la_homes la_talls la_known sf_facts sa_heard sa_huts sa_minutes s.heap)
    (hP9 : ∀ (x2 : Int32) (x3 : Int32) (x4 : Int32) (ls : Array Slot), P9 x2 x3 x4 → lv_has ls 5 [(0, .ref qp), (1, .ref ql), (2, .int x2), (3, .int x3), (4, .int x4)] → W p l e rm_wp_X7_bestHut_9 s m args below meth c s.heap [] 0 0 (MQ below (vp_Si post) args s 0 0 (fun _ => False)) (F0 m 9 ls []))
    (hl : lv_has ls 5 [(0, .ref qp), (1, .ref ql), (2, .int x2), (3, .int x3), (4, .int x4)])
    (hw : q_wp_X7_bestHut_9_49 P9 a_heard lf_huts lf_villages lf_dams x2 x3 x4 post) :
    W p l e rm_wp_X7_bestHut_9 s m args below meth c s.heap [] 0 0 (MQ below (vp_Si post) args s 0 0 (fun _ => False)) (F0 m 49 ls []) := by
  have hx := zc.1
  have hb := zc.2.1
  obtain ⟨v_1, ev_1⟩ : ∃ y : Int32, y = x4 + (1 : Int32) := ⟨_, rfl⟩
  have hw := hw v_1 ev_1
  refine lv_iinc (v := v_1) (k := 4) (lv' := [(4, .int v_1), (0, .ref qp), (1, .ref ql), (2, .int x2), (3, .int x3)]) hx hb dX7_bestHut_49 hl rfl (by rw [ev_1]; rfl) (by decide) rfl (fun ls hl => ?_)
  refine lv_goto (tgt := 9) hx hb dX7_bestHut_52 (by decide) ?_
  exact hP9 _ _ _ _ hw (lv_sub hl [1, 2, 3, 4, 0] rfl)
set_option maxRecDepth 20000 in
theorem t_wp_X7_bestHut_9_9 {p : Program} {l : Launch} {e : Env} {s : State} {m : MethodId} {args : Array Value} {below : List Frame} {meth : Method} {c : Code} {E : zE} {qp ql qs : Nat} {a_heard : Nat → Int32} {a_walked : Nat → Int32} {a_total : Nat → Int32} {a_longest : Nat → Int32} {a_next : Nat → Int32} {a_cover : Nat → Int32} {a_now : Nat → Int32} {a_then : Nat → Int32} {lf_huts : Int32} {lf_singers : Int32} {lf_villages : Int32} {lf_dams : Int32} {lf_echoes : Int32} {lf_deep : Int32} {lf_slide : Int32} {la_heights : Nat → Int32} {la_ladders : Nat → Int32} {la_minutes : Nat → Int32} {la_echoFrom : Nat → Int32} {la_echoTo : Nat → Int32} {la_homes : Nat → Int32} {la_talls : Nat → Int32} {la_known : Nat → Int32} {sf_facts : Int32} {sa_heard : Nat → Int32} {sa_huts : Nat → Int32} {sa_minutes : Nat → Int32} {post : Int32 → Prop} {x2 : Int32} {x3 : Int32} {x4 : Int32} {ls : Array Slot}
    (zc : zC p s m args meth c cX7_bestHut 5 RX7 (some .int))
    (hK : zK E s)
    (hM : wpW E qp ql qs a_heard a_walked a_total a_longest a_next a_cover a_now a_then lf_huts lf_singers lf_villages lf_dams lf_echoes lf_deep lf_slide la_heights la_ladders la_minutes la_echoFrom la_echoTo la_homes la_talls la_known sf_facts sa_heard sa_huts sa_minutes s.heap)
    (hl : lv_has ls 5 [(0, .ref qp), (1, .ref ql), (2, .int x2), (3, .int x3), (4, .int x4)])
    (hw : q_wp_X7_bestHut_9_9 a_heard lf_huts lf_villages lf_dams x2 x3 x4 post) :
    W p l e rm_wp_X7_bestHut_9 s m args below meth c s.heap [] 0 0 (MQ below (vp_Si post) args s 0 0 (fun _ => False)) (F0 m 9 ls []) := by
  have hx := zc.1
  have hb := zc.2.1
  refine hw (fun x2 x3 x4 => ∀ (ls : Array Slot), lv_has ls 5 [(0, .ref qp), (1, .ref ql), (2, .int x2), (3, .int x3), (4, .int x4)] → W p l e rm_wp_X7_bestHut_9 s m args below meth c s.heap [] 0 0 (MQ below (vp_Si post) args s 0 0 (fun _ => False)) (F0 m 9 ls [])) ?_ _ hl
  intro x2 x3 x4 hw ls hl
  refine lv_iload hx hb dX7_bestHut_9 (lv_at hl 4 rfl) ?_
  refine lv_aload_n hx hb dX7_bestHut_11 rfl (lv_at hl 1 rfl) ?_
  refine wpg_7_42_9 zc hK hM dX7_bestHut_12 ?_
  refine lv_icmp_ge (tgt := 55) hx hb dX7_bestHut_15 (by decide) (fun hc => ?_) (fun hc => ?_)
  · have hw := hw.1 hc
    refine lv_iload_n hx hb dX7_bestHut_55 rfl (lv_at hl 2 rfl) ?_
    exact zret_i zc hw dX7_bestHut_56
  · have hw := hw.2 hc
    refine lv_aload_n hx hb dX7_bestHut_18 rfl (lv_at hl 1 rfl) ?_
    refine lv_iload hx hb dX7_bestHut_19 (lv_at hl 4 rfl) ?_
    refine zV_i [.int x4] [] zc ky_X2_isDam kz_X2_isDam km_7_55 (c_wl_X2_isDam l hw) (wlPreV0 hK (pj_wp_wl_9 hM)) rfl rfl hl.1 (Nat.le_of_ble_eq_true rfl) ⟨rfl, rfl⟩ ⟨Nat.le_of_ble_eq_true rfl, Nat.le_of_ble_eq_true rfl⟩ ⟨(Nat.zero_le _), (Nat.zero_le _)⟩ dX7_bestHut_21 (fun r_1 hw => ?_)
    refine lv_if_ne (tgt := 49) hx hb dX7_bestHut_24 (by decide) (fun hc => ?_) (fun hc => ?_)
    · have hw := hw.1 hc
      exact t_wp_X7_bestHut_9_49 zc hK hM (fun _ _ _ ls h hl => h ls hl) (lv_sub hl [0, 1, 2, 3, 4] rfl) hw
    · have hw := hw.2 hc
      refine lv_aload_n hx hb dX7_bestHut_27 rfl (lv_at hl 0 rfl) ?_
      refine lv_aload_n hx hb dX7_bestHut_28 rfl (lv_at hl 1 rfl) ?_
      refine lv_iload hx hb dX7_bestHut_29 (lv_at hl 4 rfl) ?_
      refine zV_i [.ref ql, .int x4] [] zc ky_X7_lastVillage kz_X7_lastVillage km_7_82 (c_wp_X7_lastVillage_9 l hw) (wpPreV0 hK hM) rfl rfl hl.1 (Nat.le_of_ble_eq_true rfl) ⟨rfl, rfl⟩ ⟨Nat.le_of_ble_eq_true rfl, Nat.le_of_ble_eq_true rfl⟩ ⟨(Nat.zero_le _), (Nat.zero_le _)⟩ dX7_bestHut_31 (fun r_2 hw => ?_)
      refine lv_iload_n hx hb dX7_bestHut_34 rfl (lv_at hl 3 rfl) ?_
      refine lv_icmp_ge (tgt := 49) hx hb dX7_bestHut_35 (by decide) (fun hc => ?_) (fun hc => ?_)
      · have hw := hw.1 hc
        exact t_wp_X7_bestHut_9_49 zc hK hM (fun _ _ _ ls h hl => h ls hl) (lv_sub hl [0, 1, 2, 3, 4] rfl) hw
      · have hw := hw.2 hc
        refine lv_iload hx hb dX7_bestHut_38 (lv_at hl 4 rfl) ?_
        refine lv_istore_n (lv' := [(2, .int x4), (0, .ref qp), (1, .ref ql), (3, .int x3), (4, .int x4)]) hx hb dX7_bestHut_40 rfl hl (by decide) rfl (fun ls hl => ?_)
        refine lv_aload_n hx hb dX7_bestHut_41 rfl (lv_at hl 1 rfl) ?_
        refine lv_aload_n hx hb dX7_bestHut_42 rfl (lv_at hl 2 rfl) ?_
        refine lv_iload hx hb dX7_bestHut_43 (lv_at hl 4 rfl) ?_
        refine zV_i [.ref ql, .int x4] [] zc ky_X7_lastVillage kz_X7_lastVillage km_7_82 (c_wp_X7_lastVillage_9 l hw) (wpPreV0 hK hM) rfl rfl hl.1 (Nat.le_of_ble_eq_true rfl) ⟨rfl, rfl⟩ ⟨Nat.le_of_ble_eq_true rfl, Nat.le_of_ble_eq_true rfl⟩ ⟨(Nat.zero_le _), (Nat.zero_le _)⟩ dX7_bestHut_45 (fun r_3 hw => ?_)
        refine lv_istore_n (lv' := [(3, .int r_3), (2, .int x4), (0, .ref qp), (1, .ref ql), (4, .int x4)]) hx hb dX7_bestHut_48 rfl hl (by decide) rfl (fun ls hl => ?_)
        exact t_wp_X7_bestHut_9_49 zc hK hM (fun _ _ _ ls h hl => h ls hl) (lv_sub hl [2, 3, 1, 0, 4] rfl) hw
set_option maxRecDepth 20000 in
theorem t_wp_X7_bestHut_9_0 {p : Program} {l : Launch} {e : Env} {s : State} {m : MethodId} {args : Array Value} {below : List Frame} {meth : Method} {c : Code} {E : zE} {qp ql qs : Nat} {a_heard : Nat → Int32} {a_walked : Nat → Int32} {a_total : Nat → Int32} {a_longest : Nat → Int32} {a_next : Nat → Int32} {a_cover : Nat → Int32} {a_now : Nat → Int32} {a_then : Nat → Int32} {lf_huts : Int32} {lf_singers : Int32} {lf_villages : Int32} {lf_dams : Int32} {lf_echoes : Int32} {lf_deep : Int32} {lf_slide : Int32} {la_heights : Nat → Int32} {la_ladders : Nat → Int32} {la_minutes : Nat → Int32} {la_echoFrom : Nat → Int32} {la_echoTo : Nat → Int32} {la_homes : Nat → Int32} {la_talls : Nat → Int32} {la_known : Nat → Int32} {sf_facts : Int32} {sa_heard : Nat → Int32} {sa_huts : Nat → Int32} {sa_minutes : Nat → Int32} {post : Int32 → Prop} {ls : Array Slot}
    (zc : zC p s m args meth c cX7_bestHut 5 RX7 (some .int))
    (hK : zK E s)
    (hM : wpW E qp ql qs a_heard a_walked a_total a_longest a_next a_cover a_now a_then lf_huts lf_singers lf_villages lf_dams lf_echoes lf_deep lf_slide la_heights la_ladders la_minutes la_echoFrom la_echoTo la_homes la_talls la_known sf_facts sa_heard sa_huts sa_minutes s.heap)
    (hl : lv_has ls 5 [(0, .ref qp), (1, .ref ql)])
    (hw : q_wp_X7_bestHut_9_0 a_heard lf_huts lf_villages lf_dams post) :
    W p l e rm_wp_X7_bestHut_9 s m args below meth c s.heap [] 0 0 (MQ below (vp_Si post) args s 0 0 (fun _ => False)) (F0 m 0 ls []) := by
  have hx := zc.1
  have hb := zc.2.1
  refine lv_iconst (v := (-1 : Int32)) hx hb dX7_bestHut_0 (by decide) ?_
  refine lv_istore_n (lv' := [(2, .int (-1 : Int32)), (0, .ref qp), (1, .ref ql)]) hx hb dX7_bestHut_1 rfl hl (by decide) rfl (fun ls hl => ?_)
  refine lv_sipush (v := (1000 : Int32)) hx hb dX7_bestHut_2 (by decide) ?_
  refine lv_istore_n (lv' := [(3, .int (1000 : Int32)), (2, .int (-1 : Int32)), (0, .ref qp), (1, .ref ql)]) hx hb dX7_bestHut_5 rfl hl (by decide) rfl (fun ls hl => ?_)
  refine lv_iconst (v := (0 : Int32)) hx hb dX7_bestHut_6 (by decide) ?_
  refine lv_istore (lv' := [(4, .int (0 : Int32)), (3, .int (1000 : Int32)), (2, .int (-1 : Int32)), (0, .ref qp), (1, .ref ql)]) hx hb dX7_bestHut_7 hl (by decide) rfl (fun ls hl => ?_)
  exact t_wp_X7_bestHut_9_9 zc hK hM  (lv_sub hl [3, 4, 2, 1, 0] rfl) hw
set_option maxRecDepth 20000 in
theorem c_wp_X7_bestHut_9 (l : Launch) {E : zE} {qp ql qs : Nat} {a_heard : Nat → Int32} {a_walked : Nat → Int32} {a_total : Nat → Int32} {a_longest : Nat → Int32} {a_next : Nat → Int32} {a_cover : Nat → Int32} {a_now : Nat → Int32} {a_then : Nat → Int32} {lf_huts : Int32} {lf_singers : Int32} {lf_villages : Int32} {lf_dams : Int32} {lf_echoes : Int32} {lf_deep : Int32} {lf_slide : Int32} {la_heights : Nat → Int32} {la_ladders : Nat → Int32} {la_minutes : Nat → Int32} {la_echoFrom : Nat → Int32} {la_echoTo : Nat → Int32} {la_homes : Nat → Int32} {la_talls : Nat → Int32} {la_known : Nat → Int32} {sf_facts : Int32} {sa_heard : Nat → Int32} {sa_huts : Nat → Int32} {sa_minutes : Nat → Int32} {post : Int32 → Prop} (hw : q_wp_X7_bestHut_9_0 a_heard lf_huts lf_villages lf_dams post) : Met l yX7_bestHut (Cond.code yX7_bestHut cX7_bestHut 5 (some .int) :: zb) rm_wp_X7_bestHut_9 (va_Pc [.ref qp, .ref ql] (fun U => wpW E qp ql qs a_heard a_walked a_total a_longest a_next a_cover a_now a_then lf_huts lf_singers lf_villages lf_dams lf_echoes lf_deep lf_slide la_heights la_ladders la_minutes la_echoFrom la_echoTo la_homes la_talls la_known sf_facts sa_heard sa_huts sa_minutes U.heap ∧ zK E U)) (vp_Si post) 0 0 (fun _ => False) := by
  refine Met.ofW (cc := cX7_bestHut) (maxL := 5) (ret := (some .int)) (by decide) rfl ?_
  intro p e s m args below meth c s₁ B hml hv
  obtain ⟨rfl, hM, hK⟩ := hv
  have zc := zc_of B hml
  have hl := lv_entry ([.ref qp, .ref ql]) (n := 5) (Nat.le_of_ble_eq_true rfl)
  rw [lg_entry_eq]
  generalize (lg_sl ([.ref qp, .ref ql]) ++ List.replicate (5 - (lg_sl ([.ref qp, .ref ql])).length) Slot.unset).toArray = ls at hl ⊢
  have hl : lv_has ls 5 [(0, .ref qp), (1, .ref ql)] := hl
  exact t_wp_X7_bestHut_9_0 zc hK hM (lv_sub hl [0, 1] rfl) hw
-- wp_X7_coverBy_1
abbrev rm_wp_X7_coverBy_1 : Room := { frames := 0, cells := 0, slots := 0, locals := 0 }
def q_wp_X7_coverBy_1_54 (P3 : Int32 → (Nat → Int32) → Prop) (P20 : Int32 → (Nat → Int32) → Prop) (a_heard : Nat → Int32) (a_cover : Nat → Int32) (x2 : Int32) (x3 : Int32) (x4 : Int32) (x5 : Int32) (post : (Nat → Int32) → Prop) : Prop :=
  ∀ v_1 : Int32, v_1 = x5 + (1 : Int32) → (P20 v_1 a_cover)
def q_wp_X7_coverBy_1_20 (P3 : Int32 → (Nat → Int32) → Prop) (a_heard : Nat → Int32) (a_cover : Nat → Int32) (x2 : Int32) (x3 : Int32) (x4 : Int32) (x5 : Int32) (post : (Nat → Int32) → Prop) : Prop :=
  ∀ P20 : Int32 → (Nat → Int32) → Prop, (∀ (x5 : Int32) (a_cover : Nat → Int32), ((x2 ≤ x5 → (∀ v_1 : Int32, v_1 = x4 + (1 : Int32) → (P3 v_1 a_cover))) ∧ (¬ x2 ≤ x5 → (vp_in ((x4 * (9 : Int32)) + x5) 81 ∧ ((x3 < (a_heard (Int32.toNatClampNeg ((x4 * (9 : Int32)) + x5))) → (q_wp_X7_coverBy_1_54 P3 P20 a_heard a_cover x2 x3 x4 x5 post)) ∧ (¬ x3 < (a_heard (Int32.toNatClampNeg ((x4 * (9 : Int32)) + x5))) → (vp_in x4 9 ∧ (∀ v_2 : Int32, v_2 = ((a_cover (Int32.toNatClampNeg x4)) ||| ((1 : Int32) <<< (x5 &&& 31))) → (vp_in x4 9 ∧ (∀ a_cover_1 : Nat → Int32, a_cover_1 = upd a_cover (Int32.toNatClampNeg x4) v_2 → (q_wp_X7_coverBy_1_54 P3 P20 a_heard a_cover_1 x2 x3 x4 x5 post)))))))))) → P20 x5 a_cover) → P20 x5 a_cover
def q_wp_X7_coverBy_1_3 (a_heard : Nat → Int32) (a_cover : Nat → Int32) (x2 : Int32) (x3 : Int32) (x4 : Int32) (post : (Nat → Int32) → Prop) : Prop :=
  ∀ P3 : Int32 → (Nat → Int32) → Prop, (∀ (x4 : Int32) (a_cover : Nat → Int32), ((x2 ≤ x4 → (post a_cover)) ∧ (¬ x2 ≤ x4 → (vp_in x4 9 ∧ (∀ a_cover_1 : Nat → Int32, a_cover_1 = upd a_cover (Int32.toNatClampNeg x4) (0 : Int32) → (q_wp_X7_coverBy_1_20 P3 a_heard a_cover_1 x2 x3 x4 (0 : Int32) post))))) → P3 x4 a_cover) → P3 x4 a_cover
def q_wp_X7_coverBy_1_0 (a_heard : Nat → Int32) (a_cover : Nat → Int32) (x2 : Int32) (x3 : Int32) (post : (Nat → Int32) → Prop) : Prop :=
  q_wp_X7_coverBy_1_3 a_heard a_cover x2 x3 (0 : Int32) post
set_option maxRecDepth 20000 in
theorem t_wp_X7_coverBy_1_54 {p : Program} {l : Launch} {e : Env} {s : State} {m : MethodId} {args : Array Value} {below : List Frame} {meth : Method} {c : Code} {E : zE} {qp ql qs : Nat} {a_heard : Nat → Int32} {a_walked : Nat → Int32} {a_total : Nat → Int32} {a_longest : Nat → Int32} {a_next : Nat → Int32} {a_cover : Nat → Int32} {a_now : Nat → Int32} {a_then : Nat → Int32} {lf_huts : Int32} {lf_singers : Int32} {lf_villages : Int32} {lf_dams : Int32} {lf_echoes : Int32} {lf_deep : Int32} {lf_slide : Int32} {la_heights : Nat → Int32} {la_ladders : Nat → Int32} {la_minutes : Nat → Int32} {la_echoFrom : Nat → Int32} {la_echoTo : Nat → Int32} {la_homes : Nat → Int32} {la_talls : Nat → Int32} {la_known : Nat → Int32} {sf_facts : Int32} {sa_heard : Nat → Int32} {sa_huts : Nat → Int32} {sa_minutes : Nat → Int32} {P3 : Int32 → (Nat → Int32) → Prop} {P20 : Int32 → (Nat → Int32) → Prop} {post : (Nat → Int32) → Prop} {x2 : Int32} {x3 : Int32} {x4 : Int32} {x5 : Int32} {ls : Array Slot} {H : Heap} {locs : List Loc}
    (zc : zC p s m args meth c cX7_coverBy 6 RX7 none)
    (hK : zK E s)
    (hM : wpW E qp ql qs a_heard a_walked a_total a_longest a_next a_cover a_now a_then lf_huts lf_singers lf_villages lf_dams lf_echoes lf_deep lf_slide la_heights la_ladders la_minutes la_echoFrom la_echoTo la_homes la_talls la_known sf_facts sa_heard sa_huts sa_minutes H)
    (hS : va_S (wpA qp ql qs) s.heap H locs)
    (hP3 : ∀ (x4 : Int32) (a_cover : Nat → Int32) (H : Heap) (locs : List Loc) (ls : Array Slot), P3 x4 a_cover → lv_has ls 6 [(0, .ref qp), (1, .ref (qp + 1)), (2, .int x2), (3, .int x3), (4, .int x4)] → wpW E qp ql qs a_heard a_walked a_total a_longest a_next a_cover a_now a_then lf_huts lf_singers lf_villages lf_dams lf_echoes lf_deep lf_slide la_heights la_ladders la_minutes la_echoFrom la_echoTo la_homes la_talls la_known sf_facts sa_heard sa_huts sa_minutes H → va_S (wpA qp ql qs) s.heap H locs → W p l e rm_wp_X7_coverBy_1 s m args below meth c H locs 0 0 (MQ below (zQv (S := (Nat → Int32)) (fun u => post u) (fun u H => wpW E qp ql qs a_heard a_walked a_total a_longest a_next u a_now a_then lf_huts lf_singers lf_villages lf_dams lf_echoes lf_deep lf_slide la_heights la_ladders la_minutes la_echoFrom la_echoTo la_homes la_talls la_known sf_facts sa_heard sa_huts sa_minutes H) (wpA qp ql qs)) args s 0 0 (wpA qp ql qs)) (F0 m 3 ls []))
    (hP20 : ∀ (x5 : Int32) (a_cover : Nat → Int32) (H : Heap) (locs : List Loc) (ls : Array Slot), P20 x5 a_cover → lv_has ls 6 [(0, .ref qp), (1, .ref (qp + 1)), (2, .int x2), (3, .int x3), (4, .int x4), (5, .int x5)] → wpW E qp ql qs a_heard a_walked a_total a_longest a_next a_cover a_now a_then lf_huts lf_singers lf_villages lf_dams lf_echoes lf_deep lf_slide la_heights la_ladders la_minutes la_echoFrom la_echoTo la_homes la_talls la_known sf_facts sa_heard sa_huts sa_minutes H → va_S (wpA qp ql qs) s.heap H locs → W p l e rm_wp_X7_coverBy_1 s m args below meth c H locs 0 0 (MQ below (zQv (S := (Nat → Int32)) (fun u => post u) (fun u H => wpW E qp ql qs a_heard a_walked a_total a_longest a_next u a_now a_then lf_huts lf_singers lf_villages lf_dams lf_echoes lf_deep lf_slide la_heights la_ladders la_minutes la_echoFrom la_echoTo la_homes la_talls la_known sf_facts sa_heard sa_huts sa_minutes H) (wpA qp ql qs)) args s 0 0 (wpA qp ql qs)) (F0 m 20 ls []))
    (hl : lv_has ls 6 [(0, .ref qp), (1, .ref (qp + 1)), (2, .int x2), (3, .int x3), (4, .int x4), (5, .int x5)])
    (hw : q_wp_X7_coverBy_1_54 P3 P20 a_heard a_cover x2 x3 x4 x5 post) :
    W p l e rm_wp_X7_coverBy_1 s m args below meth c H locs 0 0 (MQ below (zQv (S := (Nat → Int32)) (fun u => post u) (fun u H => wpW E qp ql qs a_heard a_walked a_total a_longest a_next u a_now a_then lf_huts lf_singers lf_villages lf_dams lf_echoes lf_deep lf_slide la_heights la_ladders la_minutes la_echoFrom la_echoTo la_homes la_talls la_known sf_facts sa_heard sa_huts sa_minutes H) (wpA qp ql qs)) args s 0 0 (wpA qp ql qs)) (F0 m 54 ls []) := by
  have hx := zc.1
  have hb := zc.2.1
  obtain ⟨v_1, ev_1⟩ : ∃ y : Int32, y = x5 + (1 : Int32) := ⟨_, rfl⟩
  have hw := hw v_1 ev_1
  refine lv_iinc (v := v_1) (k := 5) (lv' := [(5, .int v_1), (0, .ref qp), (1, .ref (qp + 1)), (2, .int x2), (3, .int x3), (4, .int x4)]) hx hb dX7_coverBy_54 hl rfl (by rw [ev_1]; rfl) (by decide) rfl (fun ls hl => ?_)
  refine lv_goto (tgt := 20) hx hb dX7_coverBy_57 (by decide) ?_
  exact hP20 _ _ _ _ _ hw (lv_sub hl [1, 2, 3, 4, 5, 0] rfl) hM hS
set_option maxRecDepth 20000 in
theorem t_wp_X7_coverBy_1_20 {p : Program} {l : Launch} {e : Env} {s : State} {m : MethodId} {args : Array Value} {below : List Frame} {meth : Method} {c : Code} {E : zE} {qp ql qs : Nat} {a_heard : Nat → Int32} {a_walked : Nat → Int32} {a_total : Nat → Int32} {a_longest : Nat → Int32} {a_next : Nat → Int32} {a_cover : Nat → Int32} {a_now : Nat → Int32} {a_then : Nat → Int32} {lf_huts : Int32} {lf_singers : Int32} {lf_villages : Int32} {lf_dams : Int32} {lf_echoes : Int32} {lf_deep : Int32} {lf_slide : Int32} {la_heights : Nat → Int32} {la_ladders : Nat → Int32} {la_minutes : Nat → Int32} {la_echoFrom : Nat → Int32} {la_echoTo : Nat → Int32} {la_homes : Nat → Int32} {la_talls : Nat → Int32} {la_known : Nat → Int32} {sf_facts : Int32} {sa_heard : Nat → Int32} {sa_huts : Nat → Int32} {sa_minutes : Nat → Int32} {P3 : Int32 → (Nat → Int32) → Prop} {post : (Nat → Int32) → Prop} {x2 : Int32} {x3 : Int32} {x4 : Int32} {x5 : Int32} {ls : Array Slot} {H : Heap} {locs : List Loc}
    (zc : zC p s m args meth c cX7_coverBy 6 RX7 none)
    (hK : zK E s)
    (hM : wpW E qp ql qs a_heard a_walked a_total a_longest a_next a_cover a_now a_then lf_huts lf_singers lf_villages lf_dams lf_echoes lf_deep lf_slide la_heights la_ladders la_minutes la_echoFrom la_echoTo la_homes la_talls la_known sf_facts sa_heard sa_huts sa_minutes H)
    (hS : va_S (wpA qp ql qs) s.heap H locs)
    (hP3 : ∀ (x4 : Int32) (a_cover : Nat → Int32) (H : Heap) (locs : List Loc) (ls : Array Slot), P3 x4 a_cover → lv_has ls 6 [(0, .ref qp), (1, .ref (qp + 1)), (2, .int x2), (3, .int x3), (4, .int x4)] → wpW E qp ql qs a_heard a_walked a_total a_longest a_next a_cover a_now a_then lf_huts lf_singers lf_villages lf_dams lf_echoes lf_deep lf_slide la_heights la_ladders la_minutes la_echoFrom la_echoTo la_homes la_talls la_known sf_facts sa_heard sa_huts sa_minutes H → va_S (wpA qp ql qs) s.heap H locs → W p l e rm_wp_X7_coverBy_1 s m args below meth c H locs 0 0 (MQ below (zQv (S := (Nat → Int32)) (fun u => post u) (fun u H => wpW E qp ql qs a_heard a_walked a_total a_longest a_next u a_now a_then lf_huts lf_singers lf_villages lf_dams lf_echoes lf_deep lf_slide la_heights la_ladders la_minutes la_echoFrom la_echoTo la_homes la_talls la_known sf_facts sa_heard sa_huts sa_minutes H) (wpA qp ql qs)) args s 0 0 (wpA qp ql qs)) (F0 m 3 ls []))
    (hl : lv_has ls 6 [(0, .ref qp), (1, .ref (qp + 1)), (2, .int x2), (3, .int x3), (4, .int x4), (5, .int x5)])
    (hw : q_wp_X7_coverBy_1_20 P3 a_heard a_cover x2 x3 x4 x5 post) :
    W p l e rm_wp_X7_coverBy_1 s m args below meth c H locs 0 0 (MQ below (zQv (S := (Nat → Int32)) (fun u => post u) (fun u H => wpW E qp ql qs a_heard a_walked a_total a_longest a_next u a_now a_then lf_huts lf_singers lf_villages lf_dams lf_echoes lf_deep lf_slide la_heights la_ladders la_minutes la_echoFrom la_echoTo la_homes la_talls la_known sf_facts sa_heard sa_huts sa_minutes H) (wpA qp ql qs)) args s 0 0 (wpA qp ql qs)) (F0 m 20 ls []) := by
  have hx := zc.1
  have hb := zc.2.1
  refine hw (fun x5 a_cover => ∀ (H : Heap) (locs : List Loc) (ls : Array Slot), lv_has ls 6 [(0, .ref qp), (1, .ref (qp + 1)), (2, .int x2), (3, .int x3), (4, .int x4), (5, .int x5)] → wpW E qp ql qs a_heard a_walked a_total a_longest a_next a_cover a_now a_then lf_huts lf_singers lf_villages lf_dams lf_echoes lf_deep lf_slide la_heights la_ladders la_minutes la_echoFrom la_echoTo la_homes la_talls la_known sf_facts sa_heard sa_huts sa_minutes H → va_S (wpA qp ql qs) s.heap H locs → W p l e rm_wp_X7_coverBy_1 s m args below meth c H locs 0 0 (MQ below (zQv (S := (Nat → Int32)) (fun u => post u) (fun u H => wpW E qp ql qs a_heard a_walked a_total a_longest a_next u a_now a_then lf_huts lf_singers lf_villages lf_dams lf_echoes lf_deep lf_slide la_heights la_ladders la_minutes la_echoFrom la_echoTo la_homes la_talls la_known sf_facts sa_heard sa_huts sa_minutes H) (wpA qp ql qs)) args s 0 0 (wpA qp ql qs)) (F0 m 20 ls [])) ?_ _ _ _ hl hM hS
  intro x5 a_cover hw H locs ls hl hM hS
  refine lv_iload hx hb dX7_coverBy_20 (lv_at hl 5 rfl) ?_
  refine lv_iload_n hx hb dX7_coverBy_22 rfl (lv_at hl 2 rfl) ?_
  refine lv_icmp_ge (tgt := 60) hx hb dX7_coverBy_23 (by decide) (fun hc => ?_) (fun hc => ?_)
  · have hw := hw.1 hc
    obtain ⟨v_1, ev_1⟩ : ∃ y : Int32, y = x4 + (1 : Int32) := ⟨_, rfl⟩
    have hw := hw v_1 ev_1
    refine lv_iinc (v := v_1) (k := 4) (lv' := [(4, .int v_1), (0, .ref qp), (1, .ref (qp + 1)), (2, .int x2), (3, .int x3), (5, .int x5)]) hx hb dX7_coverBy_60 hl rfl (by rw [ev_1]; rfl) (by decide) rfl (fun ls hl => ?_)
    refine lv_goto (tgt := 3) hx hb dX7_coverBy_63 (by decide) ?_
    exact hP3 _ _ _ _ _ hw (lv_sub hl [1, 2, 3, 4, 0] rfl) hM hS
  · have hw := hw.2 hc
    refine lv_aload_n hx hb dX7_coverBy_26 rfl (lv_at hl 1 rfl) ?_
    refine lv_iload hx hb dX7_coverBy_27 (lv_at hl 4 rfl) ?_
    refine lv_bipush (v := (9 : Int32)) hx hb dX7_coverBy_29 (by decide) ?_
    refine lv_imul hx hb dX7_coverBy_31 ?_
    refine lv_iload hx hb dX7_coverBy_32 (lv_at hl 5 rfl) ?_
    refine lv_iadd hx hb dX7_coverBy_34 ?_
    refine wpld_1 zc hK hM hw.1 dX7_coverBy_35 ?_
    have hw := hw.2
    refine lv_iload_n hx hb dX7_coverBy_36 rfl (lv_at hl 3 rfl) ?_
    refine lv_icmp_gt (tgt := 54) hx hb dX7_coverBy_37 (by decide) (fun hc => ?_) (fun hc => ?_)
    · have hw := hw.1 hc
      exact t_wp_X7_coverBy_1_54 zc hK hM hS hP3 (fun _ _ H locs ls h hl hM hS => h H locs ls hl hM hS) (lv_sub hl [0, 1, 2, 3, 4, 5] rfl) hw
    · have hw := hw.2 hc
      refine lv_aload_n hx hb dX7_coverBy_40 rfl (lv_at hl 0 rfl) ?_
      refine wpg_7_27_0 zc hK hM dX7_coverBy_41 ?_
      refine lv_iload hx hb dX7_coverBy_44 (lv_at hl 4 rfl) ?_
      refine lv_dup2_11 hx hb dX7_coverBy_46 rfl rfl ?_
      refine wpld_6 zc hK hM hw.1 dX7_coverBy_47 ?_
      have hw := hw.2
      refine lv_iconst (v := (1 : Int32)) hx hb dX7_coverBy_48 (by decide) ?_
      refine lv_iload hx hb dX7_coverBy_49 (lv_at hl 5 rfl) ?_
      refine lv_ishl hx hb dX7_coverBy_51 ?_
      refine lv_ior hx hb dX7_coverBy_52 ?_
      refine lv_topi (fun v_2 ev_2 => ?_)
      have hw := hw v_2 ev_2
      refine wpst_6 zc hK hM hS hw.1 dX7_coverBy_53 (fun a_cover_1 H locs ea_cover_1 hM hS => ?_)
      have hw := hw.2 a_cover_1 ea_cover_1
      exact t_wp_X7_coverBy_1_54 zc hK hM hS hP3 (fun _ _ H locs ls h hl hM hS => h H locs ls hl hM hS) (lv_sub hl [0, 1, 2, 3, 4, 5] rfl) hw
set_option maxRecDepth 20000 in
theorem t_wp_X7_coverBy_1_3 {p : Program} {l : Launch} {e : Env} {s : State} {m : MethodId} {args : Array Value} {below : List Frame} {meth : Method} {c : Code} {E : zE} {qp ql qs : Nat} {a_heard : Nat → Int32} {a_walked : Nat → Int32} {a_total : Nat → Int32} {a_longest : Nat → Int32} {a_next : Nat → Int32} {a_cover : Nat → Int32} {a_now : Nat → Int32} {a_then : Nat → Int32} {lf_huts : Int32} {lf_singers : Int32} {lf_villages : Int32} {lf_dams : Int32} {lf_echoes : Int32} {lf_deep : Int32} {lf_slide : Int32} {la_heights : Nat → Int32} {la_ladders : Nat → Int32} {la_minutes : Nat → Int32} {la_echoFrom : Nat → Int32} {la_echoTo : Nat → Int32} {la_homes : Nat → Int32} {la_talls : Nat → Int32} {la_known : Nat → Int32} {sf_facts : Int32} {sa_heard : Nat → Int32} {sa_huts : Nat → Int32} {sa_minutes : Nat → Int32} {post : (Nat → Int32) → Prop} {x2 : Int32} {x3 : Int32} {x4 : Int32} {ls : Array Slot} {H : Heap} {locs : List Loc}
    (zc : zC p s m args meth c cX7_coverBy 6 RX7 none)
    (hK : zK E s)
    (hM : wpW E qp ql qs a_heard a_walked a_total a_longest a_next a_cover a_now a_then lf_huts lf_singers lf_villages lf_dams lf_echoes lf_deep lf_slide la_heights la_ladders la_minutes la_echoFrom la_echoTo la_homes la_talls la_known sf_facts sa_heard sa_huts sa_minutes H)
    (hS : va_S (wpA qp ql qs) s.heap H locs)
    (hl : lv_has ls 6 [(0, .ref qp), (1, .ref (qp + 1)), (2, .int x2), (3, .int x3), (4, .int x4)])
    (hw : q_wp_X7_coverBy_1_3 a_heard a_cover x2 x3 x4 post) :
    W p l e rm_wp_X7_coverBy_1 s m args below meth c H locs 0 0 (MQ below (zQv (S := (Nat → Int32)) (fun u => post u) (fun u H => wpW E qp ql qs a_heard a_walked a_total a_longest a_next u a_now a_then lf_huts lf_singers lf_villages lf_dams lf_echoes lf_deep lf_slide la_heights la_ladders la_minutes la_echoFrom la_echoTo la_homes la_talls la_known sf_facts sa_heard sa_huts sa_minutes H) (wpA qp ql qs)) args s 0 0 (wpA qp ql qs)) (F0 m 3 ls []) := by
  have hx := zc.1
  have hb := zc.2.1
  refine hw (fun x4 a_cover => ∀ (H : Heap) (locs : List Loc) (ls : Array Slot), lv_has ls 6 [(0, .ref qp), (1, .ref (qp + 1)), (2, .int x2), (3, .int x3), (4, .int x4)] → wpW E qp ql qs a_heard a_walked a_total a_longest a_next a_cover a_now a_then lf_huts lf_singers lf_villages lf_dams lf_echoes lf_deep lf_slide la_heights la_ladders la_minutes la_echoFrom la_echoTo la_homes la_talls la_known sf_facts sa_heard sa_huts sa_minutes H → va_S (wpA qp ql qs) s.heap H locs → W p l e rm_wp_X7_coverBy_1 s m args below meth c H locs 0 0 (MQ below (zQv (S := (Nat → Int32)) (fun u => post u) (fun u H => wpW E qp ql qs a_heard a_walked a_total a_longest a_next u a_now a_then lf_huts lf_singers lf_villages lf_dams lf_echoes lf_deep lf_slide la_heights la_ladders la_minutes la_echoFrom la_echoTo la_homes la_talls la_known sf_facts sa_heard sa_huts sa_minutes H) (wpA qp ql qs)) args s 0 0 (wpA qp ql qs)) (F0 m 3 ls [])) ?_ _ _ _ hl hM hS
  intro x4 a_cover hw H locs ls hl hM hS
  refine lv_iload hx hb dX7_coverBy_3 (lv_at hl 4 rfl) ?_
  refine lv_iload_n hx hb dX7_coverBy_5 rfl (lv_at hl 2 rfl) ?_
  refine lv_icmp_ge (tgt := 66) hx hb dX7_coverBy_6 (by decide) (fun hc => ?_) (fun hc => ?_)
  · have hw := hw.1 hc
    exact zret_vw a_cover zc hS hw hM dX7_coverBy_66
  · have hw := hw.2 hc
    refine lv_aload_n hx hb dX7_coverBy_9 rfl (lv_at hl 0 rfl) ?_
    refine wpg_7_27_0 zc hK hM dX7_coverBy_10 ?_
    refine lv_iload hx hb dX7_coverBy_13 (lv_at hl 4 rfl) ?_
    refine lv_iconst (v := (0 : Int32)) hx hb dX7_coverBy_15 (by decide) ?_
    refine wpst_6 zc hK hM hS hw.1 dX7_coverBy_16 (fun a_cover_1 H locs ea_cover_1 hM hS => ?_)
    have hw := hw.2 a_cover_1 ea_cover_1
    refine lv_iconst (v := (0 : Int32)) hx hb dX7_coverBy_17 (by decide) ?_
    refine lv_istore (lv' := [(5, .int (0 : Int32)), (0, .ref qp), (1, .ref (qp + 1)), (2, .int x2), (3, .int x3), (4, .int x4)]) hx hb dX7_coverBy_18 hl (by decide) rfl (fun ls hl => ?_)
    exact t_wp_X7_coverBy_1_20 zc hK hM hS (fun _ _ H locs ls h hl hM hS => h H locs ls hl hM hS) (lv_sub hl [1, 2, 3, 4, 5, 0] rfl) hw
set_option maxRecDepth 20000 in
theorem t_wp_X7_coverBy_1_0 {p : Program} {l : Launch} {e : Env} {s : State} {m : MethodId} {args : Array Value} {below : List Frame} {meth : Method} {c : Code} {E : zE} {qp ql qs : Nat} {a_heard : Nat → Int32} {a_walked : Nat → Int32} {a_total : Nat → Int32} {a_longest : Nat → Int32} {a_next : Nat → Int32} {a_cover : Nat → Int32} {a_now : Nat → Int32} {a_then : Nat → Int32} {lf_huts : Int32} {lf_singers : Int32} {lf_villages : Int32} {lf_dams : Int32} {lf_echoes : Int32} {lf_deep : Int32} {lf_slide : Int32} {la_heights : Nat → Int32} {la_ladders : Nat → Int32} {la_minutes : Nat → Int32} {la_echoFrom : Nat → Int32} {la_echoTo : Nat → Int32} {la_homes : Nat → Int32} {la_talls : Nat → Int32} {la_known : Nat → Int32} {sf_facts : Int32} {sa_heard : Nat → Int32} {sa_huts : Nat → Int32} {sa_minutes : Nat → Int32} {post : (Nat → Int32) → Prop} {x2 : Int32} {x3 : Int32} {ls : Array Slot} {H : Heap} {locs : List Loc}
    (zc : zC p s m args meth c cX7_coverBy 6 RX7 none)
    (hK : zK E s)
    (hM : wpW E qp ql qs a_heard a_walked a_total a_longest a_next a_cover a_now a_then lf_huts lf_singers lf_villages lf_dams lf_echoes lf_deep lf_slide la_heights la_ladders la_minutes la_echoFrom la_echoTo la_homes la_talls la_known sf_facts sa_heard sa_huts sa_minutes H)
    (hS : va_S (wpA qp ql qs) s.heap H locs)
    (hl : lv_has ls 6 [(0, .ref qp), (1, .ref (qp + 1)), (2, .int x2), (3, .int x3)])
    (hw : q_wp_X7_coverBy_1_0 a_heard a_cover x2 x3 post) :
    W p l e rm_wp_X7_coverBy_1 s m args below meth c H locs 0 0 (MQ below (zQv (S := (Nat → Int32)) (fun u => post u) (fun u H => wpW E qp ql qs a_heard a_walked a_total a_longest a_next u a_now a_then lf_huts lf_singers lf_villages lf_dams lf_echoes lf_deep lf_slide la_heights la_ladders la_minutes la_echoFrom la_echoTo la_homes la_talls la_known sf_facts sa_heard sa_huts sa_minutes H) (wpA qp ql qs)) args s 0 0 (wpA qp ql qs)) (F0 m 0 ls []) := by
  have hx := zc.1
  have hb := zc.2.1
  refine lv_iconst (v := (0 : Int32)) hx hb dX7_coverBy_0 (by decide) ?_
  refine lv_istore (lv' := [(4, .int (0 : Int32)), (0, .ref qp), (1, .ref (qp + 1)), (2, .int x2), (3, .int x3)]) hx hb dX7_coverBy_1 hl (by decide) rfl (fun ls hl => ?_)
  exact t_wp_X7_coverBy_1_3 zc hK hM hS  (lv_sub hl [1, 2, 3, 4, 0] rfl) hw
set_option maxRecDepth 20000 in
theorem c_wp_X7_coverBy_1 (l : Launch) {E : zE} {qp ql qs : Nat} {a_heard : Nat → Int32} {a_walked : Nat → Int32} {a_total : Nat → Int32} {a_longest : Nat → Int32} {a_next : Nat → Int32} {a_cover : Nat → Int32} {a_now : Nat → Int32} {a_then : Nat → Int32} {lf_huts : Int32} {lf_singers : Int32} {lf_villages : Int32} {lf_dams : Int32} {lf_echoes : Int32} {lf_deep : Int32} {lf_slide : Int32} {la_heights : Nat → Int32} {la_ladders : Nat → Int32} {la_minutes : Nat → Int32} {la_echoFrom : Nat → Int32} {la_echoTo : Nat → Int32} {la_homes : Nat → Int32} {la_talls : Nat → Int32} {la_known : Nat → Int32} {sf_facts : Int32} {sa_heard : Nat → Int32} {sa_huts : Nat → Int32} {sa_minutes : Nat → Int32} {x2 : Int32} {x3 : Int32} {post : (Nat → Int32) → Prop} (hw : q_wp_X7_coverBy_1_0 a_heard a_cover x2 x3 post) : Met l yX7_coverBy (Cond.code yX7_coverBy cX7_coverBy 6 none :: zb) rm_wp_X7_coverBy_1 (va_Pc [.ref qp, .ref (qp + 1), .int x2, .int x3] (fun U => wpW E qp ql qs a_heard a_walked a_total a_longest a_next a_cover a_now a_then lf_huts lf_singers lf_villages lf_dams lf_echoes lf_deep lf_slide la_heights la_ladders la_minutes la_echoFrom la_echoTo la_homes la_talls la_known sf_facts sa_heard sa_huts sa_minutes U.heap ∧ zK E U)) (zQv (S := (Nat → Int32)) (fun u => post u) (fun u H => wpW E qp ql qs a_heard a_walked a_total a_longest a_next u a_now a_then lf_huts lf_singers lf_villages lf_dams lf_echoes lf_deep lf_slide la_heights la_ladders la_minutes la_echoFrom la_echoTo la_homes la_talls la_known sf_facts sa_heard sa_huts sa_minutes H) (wpA qp ql qs)) 0 0 (wpA qp ql qs) := by
  refine Met.ofW (cc := cX7_coverBy) (maxL := 6) (ret := none) (by decide) rfl ?_
  intro p e s m args below meth c s₁ B hml hv
  obtain ⟨rfl, hM, hK⟩ := hv
  have zc := zc_of B hml
  have hl := lv_entry ([.ref qp, .ref (qp + 1), .int x2, .int x3]) (n := 6) (Nat.le_of_ble_eq_true rfl)
  rw [lg_entry_eq]
  generalize (lg_sl ([.ref qp, .ref (qp + 1), .int x2, .int x3]) ++ List.replicate (6 - (lg_sl ([.ref qp, .ref (qp + 1), .int x2, .int x3])).length) Slot.unset).toArray = ls at hl ⊢
  have hl : lv_has ls 6 [(0, .ref qp), (1, .ref (qp + 1)), (2, .int x2), (3, .int x3)] := hl
  exact t_wp_X7_coverBy_1_0 zc hK hM va_S.rf (lv_sub hl [0, 1, 2, 3] rfl) hw
-- wp_X7_covered
abbrev rm_wp_X7_covered : Room := { frames := 1, cells := 0, slots := 0, locals := 21 }
def q_wp_X7_covered_30 (P5 : Int32 → Int32 → Prop) (a_cover : Nat → Int32) (x1 : Int32) (x2 : Int32) (x3 : Int32) (x4 : Int32) (post : Int32 → Prop) : Prop :=
  ∀ v_1 : Int32, v_1 = x4 + (1 : Int32) → (P5 x3 v_1)
def q_wp_X7_covered_5 (a_cover : Nat → Int32) (x1 : Int32) (x2 : Int32) (x3 : Int32) (x4 : Int32) (post : Int32 → Prop) : Prop :=
  ∀ P5 : Int32 → Int32 → Prop, (∀ (x3 : Int32) (x4 : Int32), ((x2 ≤ x4 → (post x3)) ∧ (¬ x2 ≤ x4 → (q_z_X10_has_0 x1 x4 (fun r_1 => (r_1 = 0 → (q_wp_X7_covered_30 P5 a_cover x1 x2 x3 x4 post)) ∧ (¬ r_1 = 0 → (vp_in x4 9 ∧ (∀ v_1 : Int32, v_1 = (x3 ||| (a_cover (Int32.toNatClampNeg x4))) → (q_wp_X7_covered_30 P5 a_cover x1 x2 v_1 x4 post)))))))) → P5 x3 x4) → P5 x3 x4
def q_wp_X7_covered_0 (a_cover : Nat → Int32) (x1 : Int32) (x2 : Int32) (post : Int32 → Prop) : Prop :=
  q_wp_X7_covered_5 a_cover x1 x2 (0 : Int32) (0 : Int32) post
set_option maxRecDepth 20000 in
theorem t_wp_X7_covered_30 {p : Program} {l : Launch} {e : Env} {s : State} {m : MethodId} {args : Array Value} {below : List Frame} {meth : Method} {c : Code} {E : zE} {qp ql qs : Nat} {a_heard : Nat → Int32} {a_walked : Nat → Int32} {a_total : Nat → Int32} {a_longest : Nat → Int32} {a_next : Nat → Int32} {a_cover : Nat → Int32} {a_now : Nat → Int32} {a_then : Nat → Int32} {lf_huts : Int32} {lf_singers : Int32} {lf_villages : Int32} {lf_dams : Int32} {lf_echoes : Int32} {lf_deep : Int32} {lf_slide : Int32} {la_heights : Nat → Int32} {la_ladders : Nat → Int32} {la_minutes : Nat → Int32} {la_echoFrom : Nat → Int32} {la_echoTo : Nat → Int32} {la_homes : Nat → Int32} {la_talls : Nat → Int32} {la_known : Nat → Int32} {sf_facts : Int32} {sa_heard : Nat → Int32} {sa_huts : Nat → Int32} {sa_minutes : Nat → Int32} {P5 : Int32 → Int32 → Prop} {post : Int32 → Prop} {x1 : Int32} {x2 : Int32} {x3 : Int32} {x4 : Int32} {ls : Array Slot}
    (zc : zC p s m args meth c cX7_covered 5 RX7 (some .int))
    (hK : zK E s)
    (hM : wpW E qp ql qs a_heard a_walked a_total a_longest a_next a_cover a_now a_then lf_huts lf_singers lf_villages lf_dams lf_echoes lf_deep lf_slide la_heights la_ladders la_minutes la_echoFrom la_echoTo la_homes la_talls la_known sf_facts sa_heard sa_huts sa_minutes s.heap)
    (hP5 : ∀ (x3 : Int32) (x4 : Int32) (ls : Array Slot), P5 x3 x4 → lv_has ls 5 [(0, .ref qp), (1, .int x1), (2, .int x2), (3, .int x3), (4, .int x4)] → W p l e rm_wp_X7_covered s m args below meth c s.heap [] 0 0 (MQ below (vp_Si post) args s 0 0 (fun _ => False)) (F0 m 5 ls []))
    (hl : lv_has ls 5 [(0, .ref qp), (1, .int x1), (2, .int x2), (3, .int x3), (4, .int x4)])
    (hw : q_wp_X7_covered_30 P5 a_cover x1 x2 x3 x4 post) :
    W p l e rm_wp_X7_covered s m args below meth c s.heap [] 0 0 (MQ below (vp_Si post) args s 0 0 (fun _ => False)) (F0 m 30 ls []) := by
  have hx := zc.1
  have hb := zc.2.1
  obtain ⟨v_1, ev_1⟩ : ∃ y : Int32, y = x4 + (1 : Int32) := ⟨_, rfl⟩
  have hw := hw v_1 ev_1
  refine lv_iinc (v := v_1) (k := 4) (lv' := [(4, .int v_1), (0, .ref qp), (1, .int x1), (2, .int x2), (3, .int x3)]) hx hb dX7_covered_30 hl rfl (by rw [ev_1]; rfl) (by decide) rfl (fun ls hl => ?_)
  refine lv_goto (tgt := 5) hx hb dX7_covered_33 (by decide) ?_
  exact hP5 _ _ _ hw (lv_sub hl [1, 2, 3, 4, 0] rfl)
set_option maxRecDepth 20000 in
theorem t_wp_X7_covered_5 {p : Program} {l : Launch} {e : Env} {s : State} {m : MethodId} {args : Array Value} {below : List Frame} {meth : Method} {c : Code} {E : zE} {qp ql qs : Nat} {a_heard : Nat → Int32} {a_walked : Nat → Int32} {a_total : Nat → Int32} {a_longest : Nat → Int32} {a_next : Nat → Int32} {a_cover : Nat → Int32} {a_now : Nat → Int32} {a_then : Nat → Int32} {lf_huts : Int32} {lf_singers : Int32} {lf_villages : Int32} {lf_dams : Int32} {lf_echoes : Int32} {lf_deep : Int32} {lf_slide : Int32} {la_heights : Nat → Int32} {la_ladders : Nat → Int32} {la_minutes : Nat → Int32} {la_echoFrom : Nat → Int32} {la_echoTo : Nat → Int32} {la_homes : Nat → Int32} {la_talls : Nat → Int32} {la_known : Nat → Int32} {sf_facts : Int32} {sa_heard : Nat → Int32} {sa_huts : Nat → Int32} {sa_minutes : Nat → Int32} {post : Int32 → Prop} {x1 : Int32} {x2 : Int32} {x3 : Int32} {x4 : Int32} {ls : Array Slot}
    (zc : zC p s m args meth c cX7_covered 5 RX7 (some .int))
    (hK : zK E s)
    (hM : wpW E qp ql qs a_heard a_walked a_total a_longest a_next a_cover a_now a_then lf_huts lf_singers lf_villages lf_dams lf_echoes lf_deep lf_slide la_heights la_ladders la_minutes la_echoFrom la_echoTo la_homes la_talls la_known sf_facts sa_heard sa_huts sa_minutes s.heap)
    (hl : lv_has ls 5 [(0, .ref qp), (1, .int x1), (2, .int x2), (3, .int x3), (4, .int x4)])
    (hw : q_wp_X7_covered_5 a_cover x1 x2 x3 x4 post) :
    W p l e rm_wp_X7_covered s m args below meth c s.heap [] 0 0 (MQ below (vp_Si post) args s 0 0 (fun _ => False)) (F0 m 5 ls []) := by
  have hx := zc.1
  have hb := zc.2.1
  refine hw (fun x3 x4 => ∀ (ls : Array Slot), lv_has ls 5 [(0, .ref qp), (1, .int x1), (2, .int x2), (3, .int x3), (4, .int x4)] → W p l e rm_wp_X7_covered s m args below meth c s.heap [] 0 0 (MQ below (vp_Si post) args s 0 0 (fun _ => False)) (F0 m 5 ls [])) ?_ _ hl
  intro x3 x4 hw ls hl
  refine lv_iload hx hb dX7_covered_5 (lv_at hl 4 rfl) ?_
  refine lv_iload_n hx hb dX7_covered_7 rfl (lv_at hl 2 rfl) ?_
  refine lv_icmp_ge (tgt := 36) hx hb dX7_covered_8 (by decide) (fun hc => ?_) (fun hc => ?_)
  · have hw := hw.1 hc
    refine lv_iload_n hx hb dX7_covered_36 rfl (lv_at hl 3 rfl) ?_
    exact zret_i zc hw dX7_covered_37
  · have hw := hw.2 hc
    refine lv_iload_n hx hb dX7_covered_11 rfl (lv_at hl 1 rfl) ?_
    refine lv_iload hx hb dX7_covered_12 (lv_at hl 4 rfl) ?_
    refine zSN_i [.int x1, .int x4] [] zc ky_X10_has kz_X10_has (hK.2 _ kn_7_70) (c_z_X10_has l hw) (zPre0 _) rfl rfl hl.1 (Nat.le_of_ble_eq_true rfl) ⟨rfl, rfl⟩ ⟨Nat.le_of_ble_eq_true rfl, Nat.le_of_ble_eq_true rfl⟩ ⟨(Nat.zero_le _), (Nat.zero_le _)⟩ dX7_covered_14 (fun r_1 hw => ?_)
    refine lv_if_eq (tgt := 30) hx hb dX7_covered_17 (by decide) (fun hc => ?_) (fun hc => ?_)
    · have hw := hw.1 hc
      exact t_wp_X7_covered_30 zc hK hM (fun _ _ ls h hl => h ls hl) (lv_sub hl [0, 1, 2, 3, 4] rfl) hw
    · have hw := hw.2 hc
      refine lv_iload_n hx hb dX7_covered_20 rfl (lv_at hl 3 rfl) ?_
      refine lv_aload_n hx hb dX7_covered_21 rfl (lv_at hl 0 rfl) ?_
      refine wpg_7_27_0 zc hK hM dX7_covered_22 ?_
      refine lv_iload hx hb dX7_covered_25 (lv_at hl 4 rfl) ?_
      refine wpld_6 zc hK hM hw.1 dX7_covered_27 ?_
      have hw := hw.2
      refine lv_ior hx hb dX7_covered_28 ?_
      refine lv_topi (fun v_1 ev_1 => ?_)
      have hw := hw v_1 ev_1
      refine lv_istore_n (lv' := [(3, .int v_1), (0, .ref qp), (1, .int x1), (2, .int x2), (4, .int x4)]) hx hb dX7_covered_29 rfl hl (by decide) rfl (fun ls hl => ?_)
      exact t_wp_X7_covered_30 zc hK hM (fun _ _ ls h hl => h ls hl) (lv_sub hl [1, 2, 3, 0, 4] rfl) hw
set_option maxRecDepth 20000 in
theorem t_wp_X7_covered_0 {p : Program} {l : Launch} {e : Env} {s : State} {m : MethodId} {args : Array Value} {below : List Frame} {meth : Method} {c : Code} {E : zE} {qp ql qs : Nat} {a_heard : Nat → Int32} {a_walked : Nat → Int32} {a_total : Nat → Int32} {a_longest : Nat → Int32} {a_next : Nat → Int32} {a_cover : Nat → Int32} {a_now : Nat → Int32} {a_then : Nat → Int32} {lf_huts : Int32} {lf_singers : Int32} {lf_villages : Int32} {lf_dams : Int32} {lf_echoes : Int32} {lf_deep : Int32} {lf_slide : Int32} {la_heights : Nat → Int32} {la_ladders : Nat → Int32} {la_minutes : Nat → Int32} {la_echoFrom : Nat → Int32} {la_echoTo : Nat → Int32} {la_homes : Nat → Int32} {la_talls : Nat → Int32} {la_known : Nat → Int32} {sf_facts : Int32} {sa_heard : Nat → Int32} {sa_huts : Nat → Int32} {sa_minutes : Nat → Int32} {post : Int32 → Prop} {x1 : Int32} {x2 : Int32} {ls : Array Slot}
    (zc : zC p s m args meth c cX7_covered 5 RX7 (some .int))
    (hK : zK E s)
    (hM : wpW E qp ql qs a_heard a_walked a_total a_longest a_next a_cover a_now a_then lf_huts lf_singers lf_villages lf_dams lf_echoes lf_deep lf_slide la_heights la_ladders la_minutes la_echoFrom la_echoTo la_homes la_talls la_known sf_facts sa_heard sa_huts sa_minutes s.heap)
    (hl : lv_has ls 5 [(0, .ref qp), (1, .int x1), (2, .int x2)])
    (hw : q_wp_X7_covered_0 a_cover x1 x2 post) :
    W p l e rm_wp_X7_covered s m args below meth c s.heap [] 0 0 (MQ below (vp_Si post) args s 0 0 (fun _ => False)) (F0 m 0 ls []) := by
  have hx := zc.1
  have hb := zc.2.1
  refine lv_iconst (v := (0 : Int32)) hx hb dX7_covered_0 (by decide) ?_
  refine lv_istore_n (lv' := [(3, .int (0 : Int32)), (0, .ref qp), (1, .int x1), (2, .int x2)]) hx hb dX7_covered_1 rfl hl (by decide) rfl (fun ls hl => ?_)
  refine lv_iconst (v := (0 : Int32)) hx hb dX7_covered_2 (by decide) ?_
  refine lv_istore (lv' := [(4, .int (0 : Int32)), (3, .int (0 : Int32)), (0, .ref qp), (1, .int x1), (2, .int x2)]) hx hb dX7_covered_3 hl (by decide) rfl (fun ls hl => ?_)
  exact t_wp_X7_covered_5 zc hK hM  (lv_sub hl [2, 3, 4, 1, 0] rfl) hw
set_option maxRecDepth 20000 in
theorem c_wp_X7_covered (l : Launch) {E : zE} {qp ql qs : Nat} {a_heard : Nat → Int32} {a_walked : Nat → Int32} {a_total : Nat → Int32} {a_longest : Nat → Int32} {a_next : Nat → Int32} {a_cover : Nat → Int32} {a_now : Nat → Int32} {a_then : Nat → Int32} {lf_huts : Int32} {lf_singers : Int32} {lf_villages : Int32} {lf_dams : Int32} {lf_echoes : Int32} {lf_deep : Int32} {lf_slide : Int32} {la_heights : Nat → Int32} {la_ladders : Nat → Int32} {la_minutes : Nat → Int32} {la_echoFrom : Nat → Int32} {la_echoTo : Nat → Int32} {la_homes : Nat → Int32} {la_talls : Nat → Int32} {la_known : Nat → Int32} {sf_facts : Int32} {sa_heard : Nat → Int32} {sa_huts : Nat → Int32} {sa_minutes : Nat → Int32} {x1 : Int32} {x2 : Int32} {post : Int32 → Prop} (hw : q_wp_X7_covered_0 a_cover x1 x2 post) : Met l yX7_covered (Cond.code yX7_covered cX7_covered 5 (some .int) :: zb) rm_wp_X7_covered (va_Pc [.ref qp, .int x1, .int x2] (fun U => wpW E qp ql qs a_heard a_walked a_total a_longest a_next a_cover a_now a_then lf_huts lf_singers lf_villages lf_dams lf_echoes lf_deep lf_slide la_heights la_ladders la_minutes la_echoFrom la_echoTo la_homes la_talls la_known sf_facts sa_heard sa_huts sa_minutes U.heap ∧ zK E U)) (vp_Si post) 0 0 (fun _ => False) := by
  refine Met.ofW (cc := cX7_covered) (maxL := 5) (ret := (some .int)) (by decide) rfl ?_
  intro p e s m args below meth c s₁ B hml hv
  obtain ⟨rfl, hM, hK⟩ := hv
  have zc := zc_of B hml
  have hl := lv_entry ([.ref qp, .int x1, .int x2]) (n := 5) (Nat.le_of_ble_eq_true rfl)
  rw [lg_entry_eq]
  generalize (lg_sl ([.ref qp, .int x1, .int x2]) ++ List.replicate (5 - (lg_sl ([.ref qp, .int x1, .int x2])).length) Slot.unset).toArray = ls at hl ⊢
  have hl : lv_has ls 5 [(0, .ref qp), (1, .int x1), (2, .int x2)] := hl
  exact t_wp_X7_covered_0 zc hK hM (lv_sub hl [0, 1, 2] rfl) hw
-- wp_X7_fewestCovering
abbrev rm_wp_X7_fewestCovering : Room := { frames := 2, cells := 0, slots := 0, locals := 45 }
def q_wp_X7_fewestCovering_52 (P10 : Int32 → Int32 → Int32 → Prop) (a_cover : Nat → Int32) (x1 : Int32) (x2 : Int32) (x3 : Int32) (x4 : Int32) (x5 : Int32) (post : Int32 → Prop) : Prop :=
  ∀ v_1 : Int32, v_1 = x5 + (1 : Int32) → (P10 x3 x4 v_1)
def q_wp_X7_fewestCovering_10 (a_cover : Nat → Int32) (x1 : Int32) (x2 : Int32) (x3 : Int32) (x4 : Int32) (x5 : Int32) (post : Int32 → Prop) : Prop :=
  ∀ P10 : Int32 → Int32 → Int32 → Prop, (∀ (x3 : Int32) (x4 : Int32) (x5 : Int32), ((((1 : Int32) <<< (x2 &&& 31)) ≤ x5 → (post x3)) ∧ (¬ ((1 : Int32) <<< (x2 &&& 31)) ≤ x5 → (q_z_J6_bitCount_0f7a4_0 x5 (fun r_1 => (x4 ≤ r_1 → (q_wp_X7_fewestCovering_52 P10 a_cover x1 x2 x3 x4 x5 post)) ∧ (¬ x4 ≤ r_1 → (q_wp_X7_covered_0 a_cover x5 x2 (fun r_2 => (¬ (x1 &&& (r_2 ^^^ (-1 : Int32))) = 0 → (q_wp_X7_fewestCovering_52 P10 a_cover x1 x2 x3 x4 x5 post)) ∧ ((x1 &&& (r_2 ^^^ (-1 : Int32))) = 0 → (q_z_J6_bitCount_0f7a4_0 x5 (fun r_3 => q_wp_X7_fewestCovering_52 P10 a_cover x1 x2 x5 r_3 x5 post)))))))))) → P10 x3 x4 x5) → P10 x3 x4 x5
def q_wp_X7_fewestCovering_0 (a_cover : Nat → Int32) (x1 : Int32) (x2 : Int32) (post : Int32 → Prop) : Prop :=
  ∀ v_1 : Int32, v_1 = (x2 + (1 : Int32)) → (q_wp_X7_fewestCovering_10 a_cover x1 x2 (-1 : Int32) v_1 (0 : Int32) post)
set_option maxRecDepth 20000 in
theorem t_wp_X7_fewestCovering_52 {p : Program} {l : Launch} {e : Env} {s : State} {m : MethodId} {args : Array Value} {below : List Frame} {meth : Method} {c : Code} {E : zE} {qp ql qs : Nat} {a_heard : Nat → Int32} {a_walked : Nat → Int32} {a_total : Nat → Int32} {a_longest : Nat → Int32} {a_next : Nat → Int32} {a_cover : Nat → Int32} {a_now : Nat → Int32} {a_then : Nat → Int32} {lf_huts : Int32} {lf_singers : Int32} {lf_villages : Int32} {lf_dams : Int32} {lf_echoes : Int32} {lf_deep : Int32} {lf_slide : Int32} {la_heights : Nat → Int32} {la_ladders : Nat → Int32} {la_minutes : Nat → Int32} {la_echoFrom : Nat → Int32} {la_echoTo : Nat → Int32} {la_homes : Nat → Int32} {la_talls : Nat → Int32} {la_known : Nat → Int32} {sf_facts : Int32} {sa_heard : Nat → Int32} {sa_huts : Nat → Int32} {sa_minutes : Nat → Int32} {P10 : Int32 → Int32 → Int32 → Prop} {post : Int32 → Prop} {x1 : Int32} {x2 : Int32} {x3 : Int32} {x4 : Int32} {x5 : Int32} {ls : Array Slot}
    (zc : zC p s m args meth c cX7_fewestCovering 6 RX7 (some .int))
    (hK : zK E s)
    (hM : wpW E qp ql qs a_heard a_walked a_total a_longest a_next a_cover a_now a_then lf_huts lf_singers lf_villages lf_dams lf_echoes lf_deep lf_slide la_heights la_ladders la_minutes la_echoFrom la_echoTo la_homes la_talls la_known sf_facts sa_heard sa_huts sa_minutes s.heap)
    (hP10 : ∀ (x3 : Int32) (x4 : Int32) (x5 : Int32) (ls : Array Slot), P10 x3 x4 x5 → lv_has ls 6 [(0, .ref qp), (1, .int x1), (2, .int x2), (3, .int x3), (4, .int x4), (5, .int x5)] → W p l e rm_wp_X7_fewestCovering s m args below meth c s.heap [] 0 0 (MQ below (vp_Si post) args s 0 0 (fun _ => False)) (F0 m 10 ls []))
    (hl : lv_has ls 6 [(0, .ref qp), (1, .int x1), (2, .int x2), (3, .int x3), (4, .int x4), (5, .int x5)])
    (hw : q_wp_X7_fewestCovering_52 P10 a_cover x1 x2 x3 x4 x5 post) :
    W p l e rm_wp_X7_fewestCovering s m args below meth c s.heap [] 0 0 (MQ below (vp_Si post) args s 0 0 (fun _ => False)) (F0 m 52 ls []) := by
  have hx := zc.1
  have hb := zc.2.1
  obtain ⟨v_1, ev_1⟩ : ∃ y : Int32, y = x5 + (1 : Int32) := ⟨_, rfl⟩
  have hw := hw v_1 ev_1
  refine lv_iinc (v := v_1) (k := 5) (lv' := [(5, .int v_1), (0, .ref qp), (1, .int x1), (2, .int x2), (3, .int x3), (4, .int x4)]) hx hb dX7_fewestCovering_52 hl rfl (by rw [ev_1]; rfl) (by decide) rfl (fun ls hl => ?_)
  refine lv_goto (tgt := 10) hx hb dX7_fewestCovering_55 (by decide) ?_
  exact hP10 _ _ _ _ hw (lv_sub hl [1, 2, 3, 4, 5, 0] rfl)
set_option maxRecDepth 20000 in
theorem t_wp_X7_fewestCovering_10 {p : Program} {l : Launch} {e : Env} {s : State} {m : MethodId} {args : Array Value} {below : List Frame} {meth : Method} {c : Code} {E : zE} {qp ql qs : Nat} {a_heard : Nat → Int32} {a_walked : Nat → Int32} {a_total : Nat → Int32} {a_longest : Nat → Int32} {a_next : Nat → Int32} {a_cover : Nat → Int32} {a_now : Nat → Int32} {a_then : Nat → Int32} {lf_huts : Int32} {lf_singers : Int32} {lf_villages : Int32} {lf_dams : Int32} {lf_echoes : Int32} {lf_deep : Int32} {lf_slide : Int32} {la_heights : Nat → Int32} {la_ladders : Nat → Int32} {la_minutes : Nat → Int32} {la_echoFrom : Nat → Int32} {la_echoTo : Nat → Int32} {la_homes : Nat → Int32} {la_talls : Nat → Int32} {la_known : Nat → Int32} {sf_facts : Int32} {sa_heard : Nat → Int32} {sa_huts : Nat → Int32} {sa_minutes : Nat → Int32} {post : Int32 → Prop} {x1 : Int32} {x2 : Int32} {x3 : Int32} {x4 : Int32} {x5 : Int32} {ls : Array Slot}
    (zc : zC p s m args meth c cX7_fewestCovering 6 RX7 (some .int))
    (hK : zK E s)
    (hM : wpW E qp ql qs a_heard a_walked a_total a_longest a_next a_cover a_now a_then lf_huts lf_singers lf_villages lf_dams lf_echoes lf_deep lf_slide la_heights la_ladders la_minutes la_echoFrom la_echoTo la_homes la_talls la_known sf_facts sa_heard sa_huts sa_minutes s.heap)
    (hl : lv_has ls 6 [(0, .ref qp), (1, .int x1), (2, .int x2), (3, .int x3), (4, .int x4), (5, .int x5)])
    (hw : q_wp_X7_fewestCovering_10 a_cover x1 x2 x3 x4 x5 post) :
    W p l e rm_wp_X7_fewestCovering s m args below meth c s.heap [] 0 0 (MQ below (vp_Si post) args s 0 0 (fun _ => False)) (F0 m 10 ls []) := by
  have hx := zc.1
  have hb := zc.2.1
  refine hw (fun x3 x4 x5 => ∀ (ls : Array Slot), lv_has ls 6 [(0, .ref qp), (1, .int x1), (2, .int x2), (3, .int x3), (4, .int x4), (5, .int x5)] → W p l e rm_wp_X7_fewestCovering s m args below meth c s.heap [] 0 0 (MQ below (vp_Si post) args s 0 0 (fun _ => False)) (F0 m 10 ls [])) ?_ _ hl
  intro x3 x4 x5 hw ls hl
  refine lv_iload hx hb dX7_fewestCovering_10 (lv_at hl 5 rfl) ?_
  refine lv_iconst (v := (1 : Int32)) hx hb dX7_fewestCovering_12 (by decide) ?_
  refine lv_iload_n hx hb dX7_fewestCovering_13 rfl (lv_at hl 2 rfl) ?_
  refine lv_ishl hx hb dX7_fewestCovering_14 ?_
  refine lv_icmp_ge (tgt := 58) hx hb dX7_fewestCovering_15 (by decide) (fun hc => ?_) (fun hc => ?_)
  · have hw := hw.1 hc
    refine lv_iload_n hx hb dX7_fewestCovering_58 rfl (lv_at hl 3 rfl) ?_
    exact zret_i zc hw dX7_fewestCovering_59
  · have hw := hw.2 hc
    refine lv_iload hx hb dX7_fewestCovering_18 (lv_at hl 5 rfl) ?_
    refine zS_i [.int x5] [] zc ky_J6_bitCount_0f7a4 kz_J6_bitCount_0f7a4 km_7_97 (c_z_J6_bitCount_0f7a4 l hw) (zPre0 _) rfl rfl hl.1 (Nat.le_of_ble_eq_true rfl) ⟨rfl, rfl⟩ ⟨Nat.le_of_ble_eq_true rfl, Nat.le_of_ble_eq_true rfl⟩ ⟨(Nat.zero_le _), (Nat.zero_le _)⟩ dX7_fewestCovering_20 (fun r_1 hw => ?_)
    refine lv_iload hx hb dX7_fewestCovering_23 (lv_at hl 4 rfl) ?_
    refine lv_icmp_ge (tgt := 52) hx hb dX7_fewestCovering_25 (by decide) (fun hc => ?_) (fun hc => ?_)
    · have hw := hw.1 hc
      exact t_wp_X7_fewestCovering_52 zc hK hM (fun _ _ _ ls h hl => h ls hl) (lv_sub hl [0, 1, 2, 3, 4, 5] rfl) hw
    · have hw := hw.2 hc
      refine lv_iload_n hx hb dX7_fewestCovering_28 rfl (lv_at hl 1 rfl) ?_
      refine lv_aload_n hx hb dX7_fewestCovering_29 rfl (lv_at hl 0 rfl) ?_
      refine lv_iload hx hb dX7_fewestCovering_30 (lv_at hl 5 rfl) ?_
      refine lv_iload_n hx hb dX7_fewestCovering_32 rfl (lv_at hl 2 rfl) ?_
      refine zV_i [.int x5, .int x2] [.int x1] zc ky_X7_covered kz_X7_covered km_7_102 (c_wp_X7_covered l hw) (wpPreV0 hK hM) rfl rfl hl.1 (Nat.le_of_ble_eq_true rfl) ⟨rfl, rfl⟩ ⟨Nat.le_of_ble_eq_true rfl, Nat.le_of_ble_eq_true rfl⟩ ⟨(Nat.zero_le _), (Nat.zero_le _)⟩ dX7_fewestCovering_33 (fun r_2 hw => ?_)
      refine lv_iconst (v := (-1 : Int32)) hx hb dX7_fewestCovering_36 (by decide) ?_
      refine lv_ixor hx hb dX7_fewestCovering_37 ?_
      refine lv_iand hx hb dX7_fewestCovering_38 ?_
      refine lv_if_ne (tgt := 52) hx hb dX7_fewestCovering_39 (by decide) (fun hc => ?_) (fun hc => ?_)
      · have hw := hw.1 hc
        exact t_wp_X7_fewestCovering_52 zc hK hM (fun _ _ _ ls h hl => h ls hl) (lv_sub hl [0, 1, 2, 3, 4, 5] rfl) hw
      · have hw := hw.2 hc
        refine lv_iload hx hb dX7_fewestCovering_42 (lv_at hl 5 rfl) ?_
        refine lv_istore_n (lv' := [(3, .int x5), (0, .ref qp), (1, .int x1), (2, .int x2), (4, .int x4), (5, .int x5)]) hx hb dX7_fewestCovering_44 rfl hl (by decide) rfl (fun ls hl => ?_)
        refine lv_iload hx hb dX7_fewestCovering_45 (lv_at hl 5 rfl) ?_
        refine zS_i [.int x5] [] zc ky_J6_bitCount_0f7a4 kz_J6_bitCount_0f7a4 km_7_97 (c_z_J6_bitCount_0f7a4 l hw) (zPre0 _) rfl rfl hl.1 (Nat.le_of_ble_eq_true rfl) ⟨rfl, rfl⟩ ⟨Nat.le_of_ble_eq_true rfl, Nat.le_of_ble_eq_true rfl⟩ ⟨(Nat.zero_le _), (Nat.zero_le _)⟩ dX7_fewestCovering_47 (fun r_3 hw => ?_)
        refine lv_istore (lv' := [(4, .int r_3), (3, .int x5), (0, .ref qp), (1, .int x1), (2, .int x2), (5, .int x5)]) hx hb dX7_fewestCovering_50 hl (by decide) rfl (fun ls hl => ?_)
        exact t_wp_X7_fewestCovering_52 zc hK hM (fun _ _ _ ls h hl => h ls hl) (lv_sub hl [2, 3, 4, 1, 0, 5] rfl) hw
set_option maxRecDepth 20000 in
theorem t_wp_X7_fewestCovering_0 {p : Program} {l : Launch} {e : Env} {s : State} {m : MethodId} {args : Array Value} {below : List Frame} {meth : Method} {c : Code} {E : zE} {qp ql qs : Nat} {a_heard : Nat → Int32} {a_walked : Nat → Int32} {a_total : Nat → Int32} {a_longest : Nat → Int32} {a_next : Nat → Int32} {a_cover : Nat → Int32} {a_now : Nat → Int32} {a_then : Nat → Int32} {lf_huts : Int32} {lf_singers : Int32} {lf_villages : Int32} {lf_dams : Int32} {lf_echoes : Int32} {lf_deep : Int32} {lf_slide : Int32} {la_heights : Nat → Int32} {la_ladders : Nat → Int32} {la_minutes : Nat → Int32} {la_echoFrom : Nat → Int32} {la_echoTo : Nat → Int32} {la_homes : Nat → Int32} {la_talls : Nat → Int32} {la_known : Nat → Int32} {sf_facts : Int32} {sa_heard : Nat → Int32} {sa_huts : Nat → Int32} {sa_minutes : Nat → Int32} {post : Int32 → Prop} {x1 : Int32} {x2 : Int32} {ls : Array Slot}
    (zc : zC p s m args meth c cX7_fewestCovering 6 RX7 (some .int))
    (hK : zK E s)
    (hM : wpW E qp ql qs a_heard a_walked a_total a_longest a_next a_cover a_now a_then lf_huts lf_singers lf_villages lf_dams lf_echoes lf_deep lf_slide la_heights la_ladders la_minutes la_echoFrom la_echoTo la_homes la_talls la_known sf_facts sa_heard sa_huts sa_minutes s.heap)
    (hl : lv_has ls 6 [(0, .ref qp), (1, .int x1), (2, .int x2)])
    (hw : q_wp_X7_fewestCovering_0 a_cover x1 x2 post) :
    W p l e rm_wp_X7_fewestCovering s m args below meth c s.heap [] 0 0 (MQ below (vp_Si post) args s 0 0 (fun _ => False)) (F0 m 0 ls []) := by
  have hx := zc.1
  have hb := zc.2.1
  refine lv_iconst (v := (-1 : Int32)) hx hb dX7_fewestCovering_0 (by decide) ?_
  refine lv_istore_n (lv' := [(3, .int (-1 : Int32)), (0, .ref qp), (1, .int x1), (2, .int x2)]) hx hb dX7_fewestCovering_1 rfl hl (by decide) rfl (fun ls hl => ?_)
  refine lv_iload_n hx hb dX7_fewestCovering_2 rfl (lv_at hl 3 rfl) ?_
  refine lv_iconst (v := (1 : Int32)) hx hb dX7_fewestCovering_3 (by decide) ?_
  refine lv_iadd hx hb dX7_fewestCovering_4 ?_
  refine lv_topi (fun v_1 ev_1 => ?_)
  have hw := hw v_1 ev_1
  refine lv_istore (lv' := [(4, .int v_1), (3, .int (-1 : Int32)), (0, .ref qp), (1, .int x1), (2, .int x2)]) hx hb dX7_fewestCovering_5 hl (by decide) rfl (fun ls hl => ?_)
  refine lv_iconst (v := (0 : Int32)) hx hb dX7_fewestCovering_7 (by decide) ?_
  refine lv_istore (lv' := [(5, .int (0 : Int32)), (4, .int v_1), (3, .int (-1 : Int32)), (0, .ref qp), (1, .int x1), (2, .int x2)]) hx hb dX7_fewestCovering_8 hl (by decide) rfl (fun ls hl => ?_)
  exact t_wp_X7_fewestCovering_10 zc hK hM  (lv_sub hl [3, 4, 5, 2, 1, 0] rfl) hw
set_option maxRecDepth 20000 in
theorem c_wp_X7_fewestCovering (l : Launch) {E : zE} {qp ql qs : Nat} {a_heard : Nat → Int32} {a_walked : Nat → Int32} {a_total : Nat → Int32} {a_longest : Nat → Int32} {a_next : Nat → Int32} {a_cover : Nat → Int32} {a_now : Nat → Int32} {a_then : Nat → Int32} {lf_huts : Int32} {lf_singers : Int32} {lf_villages : Int32} {lf_dams : Int32} {lf_echoes : Int32} {lf_deep : Int32} {lf_slide : Int32} {la_heights : Nat → Int32} {la_ladders : Nat → Int32} {la_minutes : Nat → Int32} {la_echoFrom : Nat → Int32} {la_echoTo : Nat → Int32} {la_homes : Nat → Int32} {la_talls : Nat → Int32} {la_known : Nat → Int32} {sf_facts : Int32} {sa_heard : Nat → Int32} {sa_huts : Nat → Int32} {sa_minutes : Nat → Int32} {x1 : Int32} {x2 : Int32} {post : Int32 → Prop} (hw : q_wp_X7_fewestCovering_0 a_cover x1 x2 post) : Met l yX7_fewestCovering (Cond.code yX7_fewestCovering cX7_fewestCovering 6 (some .int) :: zb) rm_wp_X7_fewestCovering (va_Pc [.ref qp, .int x1, .int x2] (fun U => wpW E qp ql qs a_heard a_walked a_total a_longest a_next a_cover a_now a_then lf_huts lf_singers lf_villages lf_dams lf_echoes lf_deep lf_slide la_heights la_ladders la_minutes la_echoFrom la_echoTo la_homes la_talls la_known sf_facts sa_heard sa_huts sa_minutes U.heap ∧ zK E U)) (vp_Si post) 0 0 (fun _ => False) := by
  refine Met.ofW (cc := cX7_fewestCovering) (maxL := 6) (ret := (some .int)) (by decide) rfl ?_
  intro p e s m args below meth c s₁ B hml hv
  obtain ⟨rfl, hM, hK⟩ := hv
  have zc := zc_of B hml
  have hl := lv_entry ([.ref qp, .int x1, .int x2]) (n := 6) (Nat.le_of_ble_eq_true rfl)
  rw [lg_entry_eq]
  generalize (lg_sl ([.ref qp, .int x1, .int x2]) ++ List.replicate (6 - (lg_sl ([.ref qp, .int x1, .int x2])).length) Slot.unset).toArray = ls at hl ⊢
  have hl : lv_has ls 6 [(0, .ref qp), (1, .int x1), (2, .int x2)] := hl
  exact t_wp_X7_fewestCovering_0 zc hK hM (lv_sub hl [0, 1, 2] rfl) hw
-- wp_X7_crewBy_9
abbrev rm_wp_X7_crewBy_9 : Room := { frames := 3, cells := 0, slots := 0, locals := 70 }
def q_wp_X7_crewBy_9_0 (a_heard : Nat → Int32) (a_cover : Nat → Int32) (lf_huts : Int32) (lf_villages : Int32) (x2 : Int32) (post : Int32 → (Nat → Int32) → Prop) : Prop :=
  q_wp_X7_coverBy_1_0 a_heard a_cover lf_huts x2 (fun a_cover_1 => q_wp_X7_fewestCovering_0 a_cover_1 lf_villages lf_huts (fun r_1 => post r_1 a_cover_1))
set_option maxRecDepth 20000 in
theorem t_wp_X7_crewBy_9_0 {p : Program} {l : Launch} {e : Env} {s : State} {m : MethodId} {args : Array Value} {below : List Frame} {meth : Method} {c : Code} {E : zE} {qp ql qs : Nat} {a_heard : Nat → Int32} {a_walked : Nat → Int32} {a_total : Nat → Int32} {a_longest : Nat → Int32} {a_next : Nat → Int32} {a_cover : Nat → Int32} {a_now : Nat → Int32} {a_then : Nat → Int32} {lf_huts : Int32} {lf_singers : Int32} {lf_villages : Int32} {lf_dams : Int32} {lf_echoes : Int32} {lf_deep : Int32} {lf_slide : Int32} {la_heights : Nat → Int32} {la_ladders : Nat → Int32} {la_minutes : Nat → Int32} {la_echoFrom : Nat → Int32} {la_echoTo : Nat → Int32} {la_homes : Nat → Int32} {la_talls : Nat → Int32} {la_known : Nat → Int32} {sf_facts : Int32} {sa_heard : Nat → Int32} {sa_huts : Nat → Int32} {sa_minutes : Nat → Int32} {post : Int32 → (Nat → Int32) → Prop} {x2 : Int32} {ls : Array Slot} {H : Heap} {locs : List Loc}
    (zc : zC p s m args meth c cX7_crewBy 3 RX7 (some .int))
    (hK : zK E s)
    (hM : wpW E qp ql qs a_heard a_walked a_total a_longest a_next a_cover a_now a_then lf_huts lf_singers lf_villages lf_dams lf_echoes lf_deep lf_slide la_heights la_ladders la_minutes la_echoFrom la_echoTo la_homes la_talls la_known sf_facts sa_heard sa_huts sa_minutes H)
    (hS : va_S (wpA qp ql qs) s.heap H locs)
    (hl : lv_has ls 3 [(0, .ref qp), (1, .ref ql), (2, .int x2)])
    (hw : q_wp_X7_crewBy_9_0 a_heard a_cover lf_huts lf_villages x2 post) :
    W p l e rm_wp_X7_crewBy_9 s m args below meth c H locs 0 0 (MQ below (zQi (S := (Nat → Int32)) (fun r u => post r u) (fun u H => wpW E qp ql qs a_heard a_walked a_total a_longest a_next u a_now a_then lf_huts lf_singers lf_villages lf_dams lf_echoes lf_deep lf_slide la_heights la_ladders la_minutes la_echoFrom la_echoTo la_homes la_talls la_known sf_facts sa_heard sa_huts sa_minutes H) (wpA qp ql qs)) args s 0 0 (wpA qp ql qs)) (F0 m 0 ls []) := by
  have hx := zc.1
  have hb := zc.2.1
  refine lv_aload_n hx hb dX7_crewBy_0 rfl (lv_at hl 0 rfl) ?_
  refine lv_aload_n hx hb dX7_crewBy_1 rfl (lv_at hl 0 rfl) ?_
  refine wpg_7_9_0 zc hK hM dX7_crewBy_2 ?_
  refine lv_aload_n hx hb dX7_crewBy_5 rfl (lv_at hl 1 rfl) ?_
  refine wpg_7_42_9 zc hK hM dX7_crewBy_6 ?_
  refine lv_iload_n hx hb dX7_crewBy_9 rfl (lv_at hl 2 rfl) ?_
  refine zVw_v [.ref (qp + 1), .int lf_huts, .int x2] [] zc ky_X7_coverBy kz_X7_coverBy km_7_86 (c_wp_X7_coverBy_1 l hw) (wpPreV0 hK hM) hS rfl rfl hl.1 (Nat.le_of_ble_eq_true rfl) ⟨rfl, rfl⟩ ⟨Nat.le_of_ble_eq_true rfl, Nat.le_of_ble_eq_true rfl⟩ ⟨(Nat.zero_le _), (Nat.zero_le _)⟩ dX7_crewBy_10 (fun a_cover_1 H locs hw hM hS => ?_)
  refine lv_aload_n hx hb dX7_crewBy_13 rfl (lv_at hl 0 rfl) ?_
  refine lv_aload_n hx hb dX7_crewBy_14 rfl (lv_at hl 1 rfl) ?_
  refine wpg_7_73_9 zc hK hM dX7_crewBy_15 ?_
  refine lv_aload_n hx hb dX7_crewBy_18 rfl (lv_at hl 1 rfl) ?_
  refine wpg_7_42_9 zc hK hM dX7_crewBy_19 ?_
  refine zV_i [.int lf_villages, .int lf_huts] [] zc ky_X7_fewestCovering kz_X7_fewestCovering km_7_90 (c_wp_X7_fewestCovering l hw) (wpPreV0 hK hM) rfl rfl hl.1 (Nat.le_of_ble_eq_true rfl) ⟨rfl, rfl⟩ ⟨Nat.le_of_ble_eq_true rfl, Nat.le_of_ble_eq_true rfl⟩ ⟨(Nat.zero_le _), (Nat.zero_le _)⟩ dX7_crewBy_22 (fun r_1 hw => ?_)
  exact zret_iw a_cover_1 zc hS hw hM dX7_crewBy_25
set_option maxRecDepth 20000 in
theorem c_wp_X7_crewBy_9 (l : Launch) {E : zE} {qp ql qs : Nat} {a_heard : Nat → Int32} {a_walked : Nat → Int32} {a_total : Nat → Int32} {a_longest : Nat → Int32} {a_next : Nat → Int32} {a_cover : Nat → Int32} {a_now : Nat → Int32} {a_then : Nat → Int32} {lf_huts : Int32} {lf_singers : Int32} {lf_villages : Int32} {lf_dams : Int32} {lf_echoes : Int32} {lf_deep : Int32} {lf_slide : Int32} {la_heights : Nat → Int32} {la_ladders : Nat → Int32} {la_minutes : Nat → Int32} {la_echoFrom : Nat → Int32} {la_echoTo : Nat → Int32} {la_homes : Nat → Int32} {la_talls : Nat → Int32} {la_known : Nat → Int32} {sf_facts : Int32} {sa_heard : Nat → Int32} {sa_huts : Nat → Int32} {sa_minutes : Nat → Int32} {x2 : Int32} {post : Int32 → (Nat → Int32) → Prop} (hw : q_wp_X7_crewBy_9_0 a_heard a_cover lf_huts lf_villages x2 post) : Met l yX7_crewBy (Cond.code yX7_crewBy cX7_crewBy 3 (some .int) :: zb) rm_wp_X7_crewBy_9 (va_Pc [.ref qp, .ref ql, .int x2] (fun U => wpW E qp ql qs a_heard a_walked a_total a_longest a_next a_cover a_now a_then lf_huts lf_singers lf_villages lf_dams lf_echoes lf_deep lf_slide la_heights la_ladders la_minutes la_echoFrom la_echoTo la_homes la_talls la_known sf_facts sa_heard sa_huts sa_minutes U.heap ∧ zK E U)) (zQi (S := (Nat → Int32)) (fun r u => post r u) (fun u H => wpW E qp ql qs a_heard a_walked a_total a_longest a_next u a_now a_then lf_huts lf_singers lf_villages lf_dams lf_echoes lf_deep lf_slide la_heights la_ladders la_minutes la_echoFrom la_echoTo la_homes la_talls la_known sf_facts sa_heard sa_huts sa_minutes H) (wpA qp ql qs)) 0 0 (wpA qp ql qs) := by
  refine Met.ofW (cc := cX7_crewBy) (maxL := 3) (ret := (some .int)) (by decide) rfl ?_
  intro p e s m args below meth c s₁ B hml hv
  obtain ⟨rfl, hM, hK⟩ := hv
  have zc := zc_of B hml
  have hl := lv_entry ([.ref qp, .ref ql, .int x2]) (n := 3) (Nat.le_of_ble_eq_true rfl)
  rw [lg_entry_eq]
  generalize (lg_sl ([.ref qp, .ref ql, .int x2]) ++ List.replicate (3 - (lg_sl ([.ref qp, .ref ql, .int x2])).length) Slot.unset).toArray = ls at hl ⊢
  have hl : lv_has ls 3 [(0, .ref qp), (1, .ref ql), (2, .int x2)] := hl
  exact t_wp_X7_crewBy_9_0 zc hK hM va_S.rf (lv_sub hl [0, 1, 2] rfl) hw
-- wp_X7_coverBy_2
abbrev rm_wp_X7_coverBy_2 : Room := { frames := 0, cells := 0, slots := 0, locals := 0 }
def q_wp_X7_coverBy_2_54 (P3 : Int32 → (Nat → Int32) → Prop) (P20 : Int32 → (Nat → Int32) → Prop) (a_walked : Nat → Int32) (a_cover : Nat → Int32) (x2 : Int32) (x3 : Int32) (x4 : Int32) (x5 : Int32) (post : (Nat → Int32) → Prop) : Prop :=
  ∀ v_1 : Int32, v_1 = x5 + (1 : Int32) → (P20 v_1 a_cover)
def q_wp_X7_coverBy_2_20 (P3 : Int32 → (Nat → Int32) → Prop) (a_walked : Nat → Int32) (a_cover : Nat → Int32) (x2 : Int32) (x3 : Int32) (x4 : Int32) (x5 : Int32) (post : (Nat → Int32) → Prop) : Prop :=
  ∀ P20 : Int32 → (Nat → Int32) → Prop, (∀ (x5 : Int32) (a_cover : Nat → Int32), ((x2 ≤ x5 → (∀ v_1 : Int32, v_1 = x4 + (1 : Int32) → (P3 v_1 a_cover))) ∧ (¬ x2 ≤ x5 → (vp_in ((x4 * (9 : Int32)) + x5) 81 ∧ ((x3 < (a_walked (Int32.toNatClampNeg ((x4 * (9 : Int32)) + x5))) → (q_wp_X7_coverBy_2_54 P3 P20 a_walked a_cover x2 x3 x4 x5 post)) ∧ (¬ x3 < (a_walked (Int32.toNatClampNeg ((x4 * (9 : Int32)) + x5))) → (vp_in x4 9 ∧ (∀ v_2 : Int32, v_2 = ((a_cover (Int32.toNatClampNeg x4)) ||| ((1 : Int32) <<< (x5 &&& 31))) → (vp_in x4 9 ∧ (∀ a_cover_1 : Nat → Int32, a_cover_1 = upd a_cover (Int32.toNatClampNeg x4) v_2 → (q_wp_X7_coverBy_2_54 P3 P20 a_walked a_cover_1 x2 x3 x4 x5 post)))))))))) → P20 x5 a_cover) → P20 x5 a_cover
def q_wp_X7_coverBy_2_3 (a_walked : Nat → Int32) (a_cover : Nat → Int32) (x2 : Int32) (x3 : Int32) (x4 : Int32) (post : (Nat → Int32) → Prop) : Prop :=
  ∀ P3 : Int32 → (Nat → Int32) → Prop, (∀ (x4 : Int32) (a_cover : Nat → Int32), ((x2 ≤ x4 → (post a_cover)) ∧ (¬ x2 ≤ x4 → (vp_in x4 9 ∧ (∀ a_cover_1 : Nat → Int32, a_cover_1 = upd a_cover (Int32.toNatClampNeg x4) (0 : Int32) → (q_wp_X7_coverBy_2_20 P3 a_walked a_cover_1 x2 x3 x4 (0 : Int32) post))))) → P3 x4 a_cover) → P3 x4 a_cover
def q_wp_X7_coverBy_2_0 (a_walked : Nat → Int32) (a_cover : Nat → Int32) (x2 : Int32) (x3 : Int32) (post : (Nat → Int32) → Prop) : Prop :=
  q_wp_X7_coverBy_2_3 a_walked a_cover x2 x3 (0 : Int32) post
set_option maxRecDepth 20000 in
theorem t_wp_X7_coverBy_2_54 {p : Program} {l : Launch} {e : Env} {s : State} {m : MethodId} {args : Array Value} {below : List Frame} {meth : Method} {c : Code} {E : zE} {qp ql qs : Nat} {a_heard : Nat → Int32} {a_walked : Nat → Int32} {a_total : Nat → Int32} {a_longest : Nat → Int32} {a_next : Nat → Int32} {a_cover : Nat → Int32} {a_now : Nat → Int32} {a_then : Nat → Int32} {lf_huts : Int32} {lf_singers : Int32} {lf_villages : Int32} {lf_dams : Int32} {lf_echoes : Int32} {lf_deep : Int32} {lf_slide : Int32} {la_heights : Nat → Int32} {la_ladders : Nat → Int32} {la_minutes : Nat → Int32} {la_echoFrom : Nat → Int32} {la_echoTo : Nat → Int32} {la_homes : Nat → Int32} {la_talls : Nat → Int32} {la_known : Nat → Int32} {sf_facts : Int32} {sa_heard : Nat → Int32} {sa_huts : Nat → Int32} {sa_minutes : Nat → Int32} {P3 : Int32 → (Nat → Int32) → Prop} {P20 : Int32 → (Nat → Int32) → Prop} {post : (Nat → Int32) → Prop} {x2 : Int32} {x3 : Int32} {x4 : Int32} {x5 : Int32} {ls : Array Slot} {H : Heap} {locs : List Loc}
    (zc : zC p s m args meth c cX7_coverBy 6 RX7 none)
    (hK : zK E s)
    (hM : wpW E qp ql qs a_heard a_walked a_total a_longest a_next a_cover a_now a_then lf_huts lf_singers lf_villages lf_dams lf_echoes lf_deep lf_slide la_heights la_ladders la_minutes la_echoFrom la_echoTo la_homes la_talls la_known sf_facts sa_heard sa_huts sa_minutes H)
    (hS : va_S (wpA qp ql qs) s.heap H locs)
    (hP3 : ∀ (x4 : Int32) (a_cover : Nat → Int32) (H : Heap) (locs : List Loc) (ls : Array Slot), P3 x4 a_cover → lv_has ls 6 [(0, .ref qp), (1, .ref (qp + 2)), (2, .int x2), (3, .int x3), (4, .int x4)] → wpW E qp ql qs a_heard a_walked a_total a_longest a_next a_cover a_now a_then lf_huts lf_singers lf_villages lf_dams lf_echoes lf_deep lf_slide la_heights la_ladders la_minutes la_echoFrom la_echoTo la_homes la_talls la_known sf_facts sa_heard sa_huts sa_minutes H → va_S (wpA qp ql qs) s.heap H locs → W p l e rm_wp_X7_coverBy_2 s m args below meth c H locs 0 0 (MQ below (zQv (S := (Nat → Int32)) (fun u => post u) (fun u H => wpW E qp ql qs a_heard a_walked a_total a_longest a_next u a_now a_then lf_huts lf_singers lf_villages lf_dams lf_echoes lf_deep lf_slide la_heights la_ladders la_minutes la_echoFrom la_echoTo la_homes la_talls la_known sf_facts sa_heard sa_huts sa_minutes H) (wpA qp ql qs)) args s 0 0 (wpA qp ql qs)) (F0 m 3 ls []))
    (hP20 : ∀ (x5 : Int32) (a_cover : Nat → Int32) (H : Heap) (locs : List Loc) (ls : Array Slot), P20 x5 a_cover → lv_has ls 6 [(0, .ref qp), (1, .ref (qp + 2)), (2, .int x2), (3, .int x3), (4, .int x4), (5, .int x5)] → wpW E qp ql qs a_heard a_walked a_total a_longest a_next a_cover a_now a_then lf_huts lf_singers lf_villages lf_dams lf_echoes lf_deep lf_slide la_heights la_ladders la_minutes la_echoFrom la_echoTo la_homes la_talls la_known sf_facts sa_heard sa_huts sa_minutes H → va_S (wpA qp ql qs) s.heap H locs → W p l e rm_wp_X7_coverBy_2 s m args below meth c H locs 0 0 (MQ below (zQv (S := (Nat → Int32)) (fun u => post u) (fun u H => wpW E qp ql qs a_heard a_walked a_total a_longest a_next u a_now a_then lf_huts lf_singers lf_villages lf_dams lf_echoes lf_deep lf_slide la_heights la_ladders la_minutes la_echoFrom la_echoTo la_homes la_talls la_known sf_facts sa_heard sa_huts sa_minutes H) (wpA qp ql qs)) args s 0 0 (wpA qp ql qs)) (F0 m 20 ls []))
    (hl : lv_has ls 6 [(0, .ref qp), (1, .ref (qp + 2)), (2, .int x2), (3, .int x3), (4, .int x4), (5, .int x5)])
    (hw : q_wp_X7_coverBy_2_54 P3 P20 a_walked a_cover x2 x3 x4 x5 post) :
    W p l e rm_wp_X7_coverBy_2 s m args below meth c H locs 0 0 (MQ below (zQv (S := (Nat → Int32)) (fun u => post u) (fun u H => wpW E qp ql qs a_heard a_walked a_total a_longest a_next u a_now a_then lf_huts lf_singers lf_villages lf_dams lf_echoes lf_deep lf_slide la_heights la_ladders la_minutes la_echoFrom la_echoTo la_homes la_talls la_known sf_facts sa_heard sa_huts sa_minutes H) (wpA qp ql qs)) args s 0 0 (wpA qp ql qs)) (F0 m 54 ls []) := by
  have hx := zc.1
  have hb := zc.2.1
  obtain ⟨v_1, ev_1⟩ : ∃ y : Int32, y = x5 + (1 : Int32) := ⟨_, rfl⟩
  have hw := hw v_1 ev_1
  refine lv_iinc (v := v_1) (k := 5) (lv' := [(5, .int v_1), (0, .ref qp), (1, .ref (qp + 2)), (2, .int x2), (3, .int x3), (4, .int x4)]) hx hb dX7_coverBy_54 hl rfl (by rw [ev_1]; rfl) (by decide) rfl (fun ls hl => ?_)
  refine lv_goto (tgt := 20) hx hb dX7_coverBy_57 (by decide) ?_
  exact hP20 _ _ _ _ _ hw (lv_sub hl [1, 2, 3, 4, 5, 0] rfl) hM hS
set_option maxRecDepth 20000 in
theorem t_wp_X7_coverBy_2_20 {p : Program} {l : Launch} {e : Env} {s : State} {m : MethodId} {args : Array Value} {below : List Frame} {meth : Method} {c : Code} {E : zE} {qp ql qs : Nat} {a_heard : Nat → Int32} {a_walked : Nat → Int32} {a_total : Nat → Int32} {a_longest : Nat → Int32} {a_next : Nat → Int32} {a_cover : Nat → Int32} {a_now : Nat → Int32} {a_then : Nat → Int32} {lf_huts : Int32} {lf_singers : Int32} {lf_villages : Int32} {lf_dams : Int32} {lf_echoes : Int32} {lf_deep : Int32} {lf_slide : Int32} {la_heights : Nat → Int32} {la_ladders : Nat → Int32} {la_minutes : Nat → Int32} {la_echoFrom : Nat → Int32} {la_echoTo : Nat → Int32} {la_homes : Nat → Int32} {la_talls : Nat → Int32} {la_known : Nat → Int32} {sf_facts : Int32} {sa_heard : Nat → Int32} {sa_huts : Nat → Int32} {sa_minutes : Nat → Int32} {P3 : Int32 → (Nat → Int32) → Prop} {post : (Nat → Int32) → Prop} {x2 : Int32} {x3 : Int32} {x4 : Int32} {x5 : Int32} {ls : Array Slot} {H : Heap} {locs : List Loc}
    (zc : zC p s m args meth c cX7_coverBy 6 RX7 none)
    (hK : zK E s)
    (hM : wpW E qp ql qs a_heard a_walked a_total a_longest a_next a_cover a_now a_then lf_huts lf_singers lf_villages lf_dams lf_echoes lf_deep lf_slide la_heights la_ladders la_minutes la_echoFrom la_echoTo la_homes la_talls la_known sf_facts sa_heard sa_huts sa_minutes H)
    (hS : va_S (wpA qp ql qs) s.heap H locs)
    (hP3 : ∀ (x4 : Int32) (a_cover : Nat → Int32) (H : Heap) (locs : List Loc) (ls : Array Slot), P3 x4 a_cover → lv_has ls 6 [(0, .ref qp), (1, .ref (qp + 2)), (2, .int x2), (3, .int x3), (4, .int x4)] → wpW E qp ql qs a_heard a_walked a_total a_longest a_next a_cover a_now a_then lf_huts lf_singers lf_villages lf_dams lf_echoes lf_deep lf_slide la_heights la_ladders la_minutes la_echoFrom la_echoTo la_homes la_talls la_known sf_facts sa_heard sa_huts sa_minutes H → va_S (wpA qp ql qs) s.heap H locs → W p l e rm_wp_X7_coverBy_2 s m args below meth c H locs 0 0 (MQ below (zQv (S := (Nat → Int32)) (fun u => post u) (fun u H => wpW E qp ql qs a_heard a_walked a_total a_longest a_next u a_now a_then lf_huts lf_singers lf_villages lf_dams lf_echoes lf_deep lf_slide la_heights la_ladders la_minutes la_echoFrom la_echoTo la_homes la_talls la_known sf_facts sa_heard sa_huts sa_minutes H) (wpA qp ql qs)) args s 0 0 (wpA qp ql qs)) (F0 m 3 ls []))
    (hl : lv_has ls 6 [(0, .ref qp), (1, .ref (qp + 2)), (2, .int x2), (3, .int x3), (4, .int x4), (5, .int x5)])
    (hw : q_wp_X7_coverBy_2_20 P3 a_walked a_cover x2 x3 x4 x5 post) :
    W p l e rm_wp_X7_coverBy_2 s m args below meth c H locs 0 0 (MQ below (zQv (S := (Nat → Int32)) (fun u => post u) (fun u H => wpW E qp ql qs a_heard a_walked a_total a_longest a_next u a_now a_then lf_huts lf_singers lf_villages lf_dams lf_echoes lf_deep lf_slide la_heights la_ladders la_minutes la_echoFrom la_echoTo la_homes la_talls la_known sf_facts sa_heard sa_huts sa_minutes H) (wpA qp ql qs)) args s 0 0 (wpA qp ql qs)) (F0 m 20 ls []) := by
  have hx := zc.1
  have hb := zc.2.1
  refine hw (fun x5 a_cover => ∀ (H : Heap) (locs : List Loc) (ls : Array Slot), lv_has ls 6 [(0, .ref qp), (1, .ref (qp + 2)), (2, .int x2), (3, .int x3), (4, .int x4), (5, .int x5)] → wpW E qp ql qs a_heard a_walked a_total a_longest a_next a_cover a_now a_then lf_huts lf_singers lf_villages lf_dams lf_echoes lf_deep lf_slide la_heights la_ladders la_minutes la_echoFrom la_echoTo la_homes la_talls la_known sf_facts sa_heard sa_huts sa_minutes H → va_S (wpA qp ql qs) s.heap H locs → W p l e rm_wp_X7_coverBy_2 s m args below meth c H locs 0 0 (MQ below (zQv (S := (Nat → Int32)) (fun u => post u) (fun u H => wpW E qp ql qs a_heard a_walked a_total a_longest a_next u a_now a_then lf_huts lf_singers lf_villages lf_dams lf_echoes lf_deep lf_slide la_heights la_ladders la_minutes la_echoFrom la_echoTo la_homes la_talls la_known sf_facts sa_heard sa_huts sa_minutes H) (wpA qp ql qs)) args s 0 0 (wpA qp ql qs)) (F0 m 20 ls [])) ?_ _ _ _ hl hM hS
  intro x5 a_cover hw H locs ls hl hM hS
  refine lv_iload hx hb dX7_coverBy_20 (lv_at hl 5 rfl) ?_
  refine lv_iload_n hx hb dX7_coverBy_22 rfl (lv_at hl 2 rfl) ?_
  refine lv_icmp_ge (tgt := 60) hx hb dX7_coverBy_23 (by decide) (fun hc => ?_) (fun hc => ?_)
  · have hw := hw.1 hc
    obtain ⟨v_1, ev_1⟩ : ∃ y : Int32, y = x4 + (1 : Int32) := ⟨_, rfl⟩
    have hw := hw v_1 ev_1
    refine lv_iinc (v := v_1) (k := 4) (lv' := [(4, .int v_1), (0, .ref qp), (1, .ref (qp + 2)), (2, .int x2), (3, .int x3), (5, .int x5)]) hx hb dX7_coverBy_60 hl rfl (by rw [ev_1]; rfl) (by decide) rfl (fun ls hl => ?_)
    refine lv_goto (tgt := 3) hx hb dX7_coverBy_63 (by decide) ?_
    exact hP3 _ _ _ _ _ hw (lv_sub hl [1, 2, 3, 4, 0] rfl) hM hS
  · have hw := hw.2 hc
    refine lv_aload_n hx hb dX7_coverBy_26 rfl (lv_at hl 1 rfl) ?_
    refine lv_iload hx hb dX7_coverBy_27 (lv_at hl 4 rfl) ?_
    refine lv_bipush (v := (9 : Int32)) hx hb dX7_coverBy_29 (by decide) ?_
    refine lv_imul hx hb dX7_coverBy_31 ?_
    refine lv_iload hx hb dX7_coverBy_32 (lv_at hl 5 rfl) ?_
    refine lv_iadd hx hb dX7_coverBy_34 ?_
    refine wpld_2 zc hK hM hw.1 dX7_coverBy_35 ?_
    have hw := hw.2
    refine lv_iload_n hx hb dX7_coverBy_36 rfl (lv_at hl 3 rfl) ?_
    refine lv_icmp_gt (tgt := 54) hx hb dX7_coverBy_37 (by decide) (fun hc => ?_) (fun hc => ?_)
    · have hw := hw.1 hc
      exact t_wp_X7_coverBy_2_54 zc hK hM hS hP3 (fun _ _ H locs ls h hl hM hS => h H locs ls hl hM hS) (lv_sub hl [0, 1, 2, 3, 4, 5] rfl) hw
    · have hw := hw.2 hc
      refine lv_aload_n hx hb dX7_coverBy_40 rfl (lv_at hl 0 rfl) ?_
      refine wpg_7_27_0 zc hK hM dX7_coverBy_41 ?_
      refine lv_iload hx hb dX7_coverBy_44 (lv_at hl 4 rfl) ?_
      refine lv_dup2_11 hx hb dX7_coverBy_46 rfl rfl ?_
      refine wpld_6 zc hK hM hw.1 dX7_coverBy_47 ?_
      have hw := hw.2
      refine lv_iconst (v := (1 : Int32)) hx hb dX7_coverBy_48 (by decide) ?_
      refine lv_iload hx hb dX7_coverBy_49 (lv_at hl 5 rfl) ?_
      refine lv_ishl hx hb dX7_coverBy_51 ?_
      refine lv_ior hx hb dX7_coverBy_52 ?_
      refine lv_topi (fun v_2 ev_2 => ?_)
      have hw := hw v_2 ev_2
      refine wpst_6 zc hK hM hS hw.1 dX7_coverBy_53 (fun a_cover_1 H locs ea_cover_1 hM hS => ?_)
      have hw := hw.2 a_cover_1 ea_cover_1
      exact t_wp_X7_coverBy_2_54 zc hK hM hS hP3 (fun _ _ H locs ls h hl hM hS => h H locs ls hl hM hS) (lv_sub hl [0, 1, 2, 3, 4, 5] rfl) hw
set_option maxRecDepth 20000 in
theorem t_wp_X7_coverBy_2_3 {p : Program} {l : Launch} {e : Env} {s : State} {m : MethodId} {args : Array Value} {below : List Frame} {meth : Method} {c : Code} {E : zE} {qp ql qs : Nat} {a_heard : Nat → Int32} {a_walked : Nat → Int32} {a_total : Nat → Int32} {a_longest : Nat → Int32} {a_next : Nat → Int32} {a_cover : Nat → Int32} {a_now : Nat → Int32} {a_then : Nat → Int32} {lf_huts : Int32} {lf_singers : Int32} {lf_villages : Int32} {lf_dams : Int32} {lf_echoes : Int32} {lf_deep : Int32} {lf_slide : Int32} {la_heights : Nat → Int32} {la_ladders : Nat → Int32} {la_minutes : Nat → Int32} {la_echoFrom : Nat → Int32} {la_echoTo : Nat → Int32} {la_homes : Nat → Int32} {la_talls : Nat → Int32} {la_known : Nat → Int32} {sf_facts : Int32} {sa_heard : Nat → Int32} {sa_huts : Nat → Int32} {sa_minutes : Nat → Int32} {post : (Nat → Int32) → Prop} {x2 : Int32} {x3 : Int32} {x4 : Int32} {ls : Array Slot} {H : Heap} {locs : List Loc}
    (zc : zC p s m args meth c cX7_coverBy 6 RX7 none)
    (hK : zK E s)
    (hM : wpW E qp ql qs a_heard a_walked a_total a_longest a_next a_cover a_now a_then lf_huts lf_singers lf_villages lf_dams lf_echoes lf_deep lf_slide la_heights la_ladders la_minutes la_echoFrom la_echoTo la_homes la_talls la_known sf_facts sa_heard sa_huts sa_minutes H)
    (hS : va_S (wpA qp ql qs) s.heap H locs)
    (hl : lv_has ls 6 [(0, .ref qp), (1, .ref (qp + 2)), (2, .int x2), (3, .int x3), (4, .int x4)])
    (hw : q_wp_X7_coverBy_2_3 a_walked a_cover x2 x3 x4 post) :
    W p l e rm_wp_X7_coverBy_2 s m args below meth c H locs 0 0 (MQ below (zQv (S := (Nat → Int32)) (fun u => post u) (fun u H => wpW E qp ql qs a_heard a_walked a_total a_longest a_next u a_now a_then lf_huts lf_singers lf_villages lf_dams lf_echoes lf_deep lf_slide la_heights la_ladders la_minutes la_echoFrom la_echoTo la_homes la_talls la_known sf_facts sa_heard sa_huts sa_minutes H) (wpA qp ql qs)) args s 0 0 (wpA qp ql qs)) (F0 m 3 ls []) := by
  have hx := zc.1
  have hb := zc.2.1
  refine hw (fun x4 a_cover => ∀ (H : Heap) (locs : List Loc) (ls : Array Slot), lv_has ls 6 [(0, .ref qp), (1, .ref (qp + 2)), (2, .int x2), (3, .int x3), (4, .int x4)] → wpW E qp ql qs a_heard a_walked a_total a_longest a_next a_cover a_now a_then lf_huts lf_singers lf_villages lf_dams lf_echoes lf_deep lf_slide la_heights la_ladders la_minutes la_echoFrom la_echoTo la_homes la_talls la_known sf_facts sa_heard sa_huts sa_minutes H → va_S (wpA qp ql qs) s.heap H locs → W p l e rm_wp_X7_coverBy_2 s m args below meth c H locs 0 0 (MQ below (zQv (S := (Nat → Int32)) (fun u => post u) (fun u H => wpW E qp ql qs a_heard a_walked a_total a_longest a_next u a_now a_then lf_huts lf_singers lf_villages lf_dams lf_echoes lf_deep lf_slide la_heights la_ladders la_minutes la_echoFrom la_echoTo la_homes la_talls la_known sf_facts sa_heard sa_huts sa_minutes H) (wpA qp ql qs)) args s 0 0 (wpA qp ql qs)) (F0 m 3 ls [])) ?_ _ _ _ hl hM hS
  intro x4 a_cover hw H locs ls hl hM hS
  refine lv_iload hx hb dX7_coverBy_3 (lv_at hl 4 rfl) ?_
  refine lv_iload_n hx hb dX7_coverBy_5 rfl (lv_at hl 2 rfl) ?_
  refine lv_icmp_ge (tgt := 66) hx hb dX7_coverBy_6 (by decide) (fun hc => ?_) (fun hc => ?_)
  · have hw := hw.1 hc
    exact zret_vw a_cover zc hS hw hM dX7_coverBy_66
  · have hw := hw.2 hc
    refine lv_aload_n hx hb dX7_coverBy_9 rfl (lv_at hl 0 rfl) ?_
    refine wpg_7_27_0 zc hK hM dX7_coverBy_10 ?_
    refine lv_iload hx hb dX7_coverBy_13 (lv_at hl 4 rfl) ?_
    refine lv_iconst (v := (0 : Int32)) hx hb dX7_coverBy_15 (by decide) ?_
    refine wpst_6 zc hK hM hS hw.1 dX7_coverBy_16 (fun a_cover_1 H locs ea_cover_1 hM hS => ?_)
    have hw := hw.2 a_cover_1 ea_cover_1
    refine lv_iconst (v := (0 : Int32)) hx hb dX7_coverBy_17 (by decide) ?_
    refine lv_istore (lv' := [(5, .int (0 : Int32)), (0, .ref qp), (1, .ref (qp + 2)), (2, .int x2), (3, .int x3), (4, .int x4)]) hx hb dX7_coverBy_18 hl (by decide) rfl (fun ls hl => ?_)
    exact t_wp_X7_coverBy_2_20 zc hK hM hS (fun _ _ H locs ls h hl hM hS => h H locs ls hl hM hS) (lv_sub hl [1, 2, 3, 4, 5, 0] rfl) hw
set_option maxRecDepth 20000 in
theorem t_wp_X7_coverBy_2_0 {p : Program} {l : Launch} {e : Env} {s : State} {m : MethodId} {args : Array Value} {below : List Frame} {meth : Method} {c : Code} {E : zE} {qp ql qs : Nat} {a_heard : Nat → Int32} {a_walked : Nat → Int32} {a_total : Nat → Int32} {a_longest : Nat → Int32} {a_next : Nat → Int32} {a_cover : Nat → Int32} {a_now : Nat → Int32} {a_then : Nat → Int32} {lf_huts : Int32} {lf_singers : Int32} {lf_villages : Int32} {lf_dams : Int32} {lf_echoes : Int32} {lf_deep : Int32} {lf_slide : Int32} {la_heights : Nat → Int32} {la_ladders : Nat → Int32} {la_minutes : Nat → Int32} {la_echoFrom : Nat → Int32} {la_echoTo : Nat → Int32} {la_homes : Nat → Int32} {la_talls : Nat → Int32} {la_known : Nat → Int32} {sf_facts : Int32} {sa_heard : Nat → Int32} {sa_huts : Nat → Int32} {sa_minutes : Nat → Int32} {post : (Nat → Int32) → Prop} {x2 : Int32} {x3 : Int32} {ls : Array Slot} {H : Heap} {locs : List Loc}
    (zc : zC p s m args meth c cX7_coverBy 6 RX7 none)
    (hK : zK E s)
    (hM : wpW E qp ql qs a_heard a_walked a_total a_longest a_next a_cover a_now a_then lf_huts lf_singers lf_villages lf_dams lf_echoes lf_deep lf_slide la_heights la_ladders la_minutes la_echoFrom la_echoTo la_homes la_talls la_known sf_facts sa_heard sa_huts sa_minutes H)
    (hS : va_S (wpA qp ql qs) s.heap H locs)
    (hl : lv_has ls 6 [(0, .ref qp), (1, .ref (qp + 2)), (2, .int x2), (3, .int x3)])
    (hw : q_wp_X7_coverBy_2_0 a_walked a_cover x2 x3 post) :
    W p l e rm_wp_X7_coverBy_2 s m args below meth c H locs 0 0 (MQ below (zQv (S := (Nat → Int32)) (fun u => post u) (fun u H => wpW E qp ql qs a_heard a_walked a_total a_longest a_next u a_now a_then lf_huts lf_singers lf_villages lf_dams lf_echoes lf_deep lf_slide la_heights la_ladders la_minutes la_echoFrom la_echoTo la_homes la_talls la_known sf_facts sa_heard sa_huts sa_minutes H) (wpA qp ql qs)) args s 0 0 (wpA qp ql qs)) (F0 m 0 ls []) := by
  have hx := zc.1
  have hb := zc.2.1
  refine lv_iconst (v := (0 : Int32)) hx hb dX7_coverBy_0 (by decide) ?_
  refine lv_istore (lv' := [(4, .int (0 : Int32)), (0, .ref qp), (1, .ref (qp + 2)), (2, .int x2), (3, .int x3)]) hx hb dX7_coverBy_1 hl (by decide) rfl (fun ls hl => ?_)
  exact t_wp_X7_coverBy_2_3 zc hK hM hS  (lv_sub hl [1, 2, 3, 4, 0] rfl) hw
set_option maxRecDepth 20000 in
theorem c_wp_X7_coverBy_2 (l : Launch) {E : zE} {qp ql qs : Nat} {a_heard : Nat → Int32} {a_walked : Nat → Int32} {a_total : Nat → Int32} {a_longest : Nat → Int32} {a_next : Nat → Int32} {a_cover : Nat → Int32} {a_now : Nat → Int32} {a_then : Nat → Int32} {lf_huts : Int32} {lf_singers : Int32} {lf_villages : Int32} {lf_dams : Int32} {lf_echoes : Int32} {lf_deep : Int32} {lf_slide : Int32} {la_heights : Nat → Int32} {la_ladders : Nat → Int32} {la_minutes : Nat → Int32} {la_echoFrom : Nat → Int32} {la_echoTo : Nat → Int32} {la_homes : Nat → Int32} {la_talls : Nat → Int32} {la_known : Nat → Int32} {sf_facts : Int32} {sa_heard : Nat → Int32} {sa_huts : Nat → Int32} {sa_minutes : Nat → Int32} {x2 : Int32} {x3 : Int32} {post : (Nat → Int32) → Prop} (hw : q_wp_X7_coverBy_2_0 a_walked a_cover x2 x3 post) : Met l yX7_coverBy (Cond.code yX7_coverBy cX7_coverBy 6 none :: zb) rm_wp_X7_coverBy_2 (va_Pc [.ref qp, .ref (qp + 2), .int x2, .int x3] (fun U => wpW E qp ql qs a_heard a_walked a_total a_longest a_next a_cover a_now a_then lf_huts lf_singers lf_villages lf_dams lf_echoes lf_deep lf_slide la_heights la_ladders la_minutes la_echoFrom la_echoTo la_homes la_talls la_known sf_facts sa_heard sa_huts sa_minutes U.heap ∧ zK E U)) (zQv (S := (Nat → Int32)) (fun u => post u) (fun u H => wpW E qp ql qs a_heard a_walked a_total a_longest a_next u a_now a_then lf_huts lf_singers lf_villages lf_dams lf_echoes lf_deep lf_slide la_heights la_ladders la_minutes la_echoFrom la_echoTo la_homes la_talls la_known sf_facts sa_heard sa_huts sa_minutes H) (wpA qp ql qs)) 0 0 (wpA qp ql qs) := by
  refine Met.ofW (cc := cX7_coverBy) (maxL := 6) (ret := none) (by decide) rfl ?_
  intro p e s m args below meth c s₁ B hml hv
  obtain ⟨rfl, hM, hK⟩ := hv
  have zc := zc_of B hml
  have hl := lv_entry ([.ref qp, .ref (qp + 2), .int x2, .int x3]) (n := 6) (Nat.le_of_ble_eq_true rfl)
  rw [lg_entry_eq]
  generalize (lg_sl ([.ref qp, .ref (qp + 2), .int x2, .int x3]) ++ List.replicate (6 - (lg_sl ([.ref qp, .ref (qp + 2), .int x2, .int x3])).length) Slot.unset).toArray = ls at hl ⊢
  have hl : lv_has ls 6 [(0, .ref qp), (1, .ref (qp + 2)), (2, .int x2), (3, .int x3)] := hl
  exact t_wp_X7_coverBy_2_0 zc hK hM va_S.rf (lv_sub hl [0, 1, 2, 3] rfl) hw
-- wp_X7_massesWithin_9
abbrev rm_wp_X7_massesWithin_9 : Room := { frames := 3, cells := 0, slots := 0, locals := 70 }
def q_wp_X7_massesWithin_9_0 (a_walked : Nat → Int32) (a_cover : Nat → Int32) (lf_huts : Int32) (lf_villages : Int32) (la_minutes : Nat → Int32) (x2 : Int32) (post : Int32 → (Nat → Int32) → (Nat → Int32) → Prop) : Prop :=
  q_wp_X7_walk_9_0 a_walked lf_huts la_minutes (fun a_walked_1 => q_wp_X7_coverBy_2_0 a_walked_1 a_cover lf_huts x2 (fun a_cover_1 => q_wp_X7_fewestCovering_0 a_cover_1 lf_villages lf_huts (fun r_1 => post r_1 a_walked_1 a_cover_1)))
set_option maxRecDepth 20000 in
theorem t_wp_X7_massesWithin_9_0 {p : Program} {l : Launch} {e : Env} {s : State} {m : MethodId} {args : Array Value} {below : List Frame} {meth : Method} {c : Code} {E : zE} {qp ql qs : Nat} {a_heard : Nat → Int32} {a_walked : Nat → Int32} {a_total : Nat → Int32} {a_longest : Nat → Int32} {a_next : Nat → Int32} {a_cover : Nat → Int32} {a_now : Nat → Int32} {a_then : Nat → Int32} {lf_huts : Int32} {lf_singers : Int32} {lf_villages : Int32} {lf_dams : Int32} {lf_echoes : Int32} {lf_deep : Int32} {lf_slide : Int32} {la_heights : Nat → Int32} {la_ladders : Nat → Int32} {la_minutes : Nat → Int32} {la_echoFrom : Nat → Int32} {la_echoTo : Nat → Int32} {la_homes : Nat → Int32} {la_talls : Nat → Int32} {la_known : Nat → Int32} {sf_facts : Int32} {sa_heard : Nat → Int32} {sa_huts : Nat → Int32} {sa_minutes : Nat → Int32} {post : Int32 → (Nat → Int32) → (Nat → Int32) → Prop} {x2 : Int32} {ls : Array Slot} {H : Heap} {locs : List Loc}
    (zc : zC p s m args meth c cX7_massesWithin 3 RX7 (some .int))
    (hK : zK E s)
    (hM : wpW E qp ql qs a_heard a_walked a_total a_longest a_next a_cover a_now a_then lf_huts lf_singers lf_villages lf_dams lf_echoes lf_deep lf_slide la_heights la_ladders la_minutes la_echoFrom la_echoTo la_homes la_talls la_known sf_facts sa_heard sa_huts sa_minutes H)
    (hS : va_S (wpA qp ql qs) s.heap H locs)
    (hl : lv_has ls 3 [(0, .ref qp), (1, .ref ql), (2, .int x2)])
    (hw : q_wp_X7_massesWithin_9_0 a_walked a_cover lf_huts lf_villages la_minutes x2 post) :
    W p l e rm_wp_X7_massesWithin_9 s m args below meth c H locs 0 0 (MQ below (zQi (S := (Nat → Int32) × (Nat → Int32)) (fun r u => post r u.1 u.2) (fun u H => wpW E qp ql qs a_heard u.1 a_total a_longest a_next u.2 a_now a_then lf_huts lf_singers lf_villages lf_dams lf_echoes lf_deep lf_slide la_heights la_ladders la_minutes la_echoFrom la_echoTo la_homes la_talls la_known sf_facts sa_heard sa_huts sa_minutes H) (wpA qp ql qs)) args s 0 0 (wpA qp ql qs)) (F0 m 0 ls []) := by
  have hx := zc.1
  have hb := zc.2.1
  refine lv_aload_n hx hb dX7_massesWithin_0 rfl (lv_at hl 0 rfl) ?_
  refine lv_aload_n hx hb dX7_massesWithin_1 rfl (lv_at hl 1 rfl) ?_
  refine zVw_v [.ref ql] [] zc ky_X7_walk kz_X7_walk km_7_93 (c_wp_X7_walk_9 l hw) (wpPreV0 hK hM) hS rfl rfl hl.1 (Nat.le_of_ble_eq_true rfl) ⟨rfl, rfl⟩ ⟨Nat.le_of_ble_eq_true rfl, Nat.le_of_ble_eq_true rfl⟩ ⟨(Nat.zero_le _), (Nat.zero_le _)⟩ dX7_massesWithin_2 (fun a_walked_1 H locs hw hM hS => ?_)
  refine lv_aload_n hx hb dX7_massesWithin_5 rfl (lv_at hl 0 rfl) ?_
  refine lv_aload_n hx hb dX7_massesWithin_6 rfl (lv_at hl 0 rfl) ?_
  refine wpg_7_15_0 zc hK hM dX7_massesWithin_7 ?_
  refine lv_aload_n hx hb dX7_massesWithin_10 rfl (lv_at hl 1 rfl) ?_
  refine wpg_7_42_9 zc hK hM dX7_massesWithin_11 ?_
  refine lv_iload_n hx hb dX7_massesWithin_14 rfl (lv_at hl 2 rfl) ?_
  refine zVw_v [.ref (qp + 2), .int lf_huts, .int x2] [] zc ky_X7_coverBy kz_X7_coverBy km_7_86 (c_wp_X7_coverBy_2 l hw) (wpPreV0 hK hM) hS rfl rfl hl.1 (Nat.le_of_ble_eq_true rfl) ⟨rfl, rfl⟩ ⟨Nat.le_of_ble_eq_true rfl, Nat.le_of_ble_eq_true rfl⟩ ⟨(Nat.zero_le _), (Nat.zero_le _)⟩ dX7_massesWithin_15 (fun a_cover_1 H locs hw hM hS => ?_)
  refine lv_aload_n hx hb dX7_massesWithin_18 rfl (lv_at hl 0 rfl) ?_
  refine lv_aload_n hx hb dX7_massesWithin_19 rfl (lv_at hl 1 rfl) ?_
  refine wpg_7_73_9 zc hK hM dX7_massesWithin_20 ?_
  refine lv_aload_n hx hb dX7_massesWithin_23 rfl (lv_at hl 1 rfl) ?_
  refine wpg_7_42_9 zc hK hM dX7_massesWithin_24 ?_
  refine zV_i [.int lf_villages, .int lf_huts] [] zc ky_X7_fewestCovering kz_X7_fewestCovering km_7_90 (c_wp_X7_fewestCovering l hw) (wpPreV0 hK hM) rfl rfl hl.1 (Nat.le_of_ble_eq_true rfl) ⟨rfl, rfl⟩ ⟨Nat.le_of_ble_eq_true rfl, Nat.le_of_ble_eq_true rfl⟩ ⟨(Nat.zero_le _), (Nat.zero_le _)⟩ dX7_massesWithin_27 (fun r_1 hw => ?_)
  exact zret_iw ⟨a_walked_1, a_cover_1⟩ zc hS hw hM dX7_massesWithin_30
set_option maxRecDepth 20000 in
theorem c_wp_X7_massesWithin_9 (l : Launch) {E : zE} {qp ql qs : Nat} {a_heard : Nat → Int32} {a_walked : Nat → Int32} {a_total : Nat → Int32} {a_longest : Nat → Int32} {a_next : Nat → Int32} {a_cover : Nat → Int32} {a_now : Nat → Int32} {a_then : Nat → Int32} {lf_huts : Int32} {lf_singers : Int32} {lf_villages : Int32} {lf_dams : Int32} {lf_echoes : Int32} {lf_deep : Int32} {lf_slide : Int32} {la_heights : Nat → Int32} {la_ladders : Nat → Int32} {la_minutes : Nat → Int32} {la_echoFrom : Nat → Int32} {la_echoTo : Nat → Int32} {la_homes : Nat → Int32} {la_talls : Nat → Int32} {la_known : Nat → Int32} {sf_facts : Int32} {sa_heard : Nat → Int32} {sa_huts : Nat → Int32} {sa_minutes : Nat → Int32} {x2 : Int32} {post : Int32 → (Nat → Int32) → (Nat → Int32) → Prop} (hw : q_wp_X7_massesWithin_9_0 a_walked a_cover lf_huts lf_villages la_minutes x2 post) : Met l yX7_massesWithin (Cond.code yX7_massesWithin cX7_massesWithin 3 (some .int) :: zb) rm_wp_X7_massesWithin_9 (va_Pc [.ref qp, .ref ql, .int x2] (fun U => wpW E qp ql qs a_heard a_walked a_total a_longest a_next a_cover a_now a_then lf_huts lf_singers lf_villages lf_dams lf_echoes lf_deep lf_slide la_heights la_ladders la_minutes la_echoFrom la_echoTo la_homes la_talls la_known sf_facts sa_heard sa_huts sa_minutes U.heap ∧ zK E U)) (zQi (S := (Nat → Int32) × (Nat → Int32)) (fun r u => post r u.1 u.2) (fun u H => wpW E qp ql qs a_heard u.1 a_total a_longest a_next u.2 a_now a_then lf_huts lf_singers lf_villages lf_dams lf_echoes lf_deep lf_slide la_heights la_ladders la_minutes la_echoFrom la_echoTo la_homes la_talls la_known sf_facts sa_heard sa_huts sa_minutes H) (wpA qp ql qs)) 0 0 (wpA qp ql qs) := by
  refine Met.ofW (cc := cX7_massesWithin) (maxL := 3) (ret := (some .int)) (by decide) rfl ?_
  intro p e s m args below meth c s₁ B hml hv
  obtain ⟨rfl, hM, hK⟩ := hv
  have zc := zc_of B hml
  have hl := lv_entry ([.ref qp, .ref ql, .int x2]) (n := 3) (Nat.le_of_ble_eq_true rfl)
  rw [lg_entry_eq]
  generalize (lg_sl ([.ref qp, .ref ql, .int x2]) ++ List.replicate (3 - (lg_sl ([.ref qp, .ref ql, .int x2])).length) Slot.unset).toArray = ls at hl ⊢
  have hl : lv_has ls 3 [(0, .ref qp), (1, .ref ql), (2, .int x2)] := hl
  exact t_wp_X7_massesWithin_9_0 zc hK hM va_S.rf (lv_sub hl [0, 1, 2] rfl) hw
-- wp_J7_fill_53178_3
abbrev rm_wp_J7_fill_53178_3 : Room := { frames := 0, cells := 0, slots := 0, locals := 0 }
def q_wp_J7_fill_53178_3_5 (a_total : Nat → Int32) (x1 : Int32) (x2 : Int32) (x3 : Int32) (post : (Nat → Int32) → Prop) : Prop :=
  ∀ P5 : Int32 → (Nat → Int32) → Prop, (∀ (x2 : Int32) (a_total : Nat → Int32), ((x3 ≤ x2 → (post a_total)) ∧ (¬ x3 ≤ x2 → (vp_in x2 9 ∧ (∀ a_total_1 : Nat → Int32, a_total_1 = upd a_total (Int32.toNatClampNeg x2) x1 → (∀ v_1 : Int32, v_1 = x2 + (1 : Int32) → (P5 v_1 a_total_1)))))) → P5 x2 a_total) → P5 x2 a_total
def q_wp_J7_fill_53178_3_0 (a_total : Nat → Int32) (x1 : Int32) (post : (Nat → Int32) → Prop) : Prop :=
  q_wp_J7_fill_53178_3_5 a_total x1 (0 : Int32) (9 : Int32) post
set_option maxRecDepth 20000 in
theorem t_wp_J7_fill_53178_3_5 {p : Program} {l : Launch} {e : Env} {s : State} {m : MethodId} {args : Array Value} {below : List Frame} {meth : Method} {c : Code} {E : zE} {qp ql qs : Nat} {a_heard : Nat → Int32} {a_walked : Nat → Int32} {a_total : Nat → Int32} {a_longest : Nat → Int32} {a_next : Nat → Int32} {a_cover : Nat → Int32} {a_now : Nat → Int32} {a_then : Nat → Int32} {lf_huts : Int32} {lf_singers : Int32} {lf_villages : Int32} {lf_dams : Int32} {lf_echoes : Int32} {lf_deep : Int32} {lf_slide : Int32} {la_heights : Nat → Int32} {la_ladders : Nat → Int32} {la_minutes : Nat → Int32} {la_echoFrom : Nat → Int32} {la_echoTo : Nat → Int32} {la_homes : Nat → Int32} {la_talls : Nat → Int32} {la_known : Nat → Int32} {sf_facts : Int32} {sa_heard : Nat → Int32} {sa_huts : Nat → Int32} {sa_minutes : Nat → Int32} {post : (Nat → Int32) → Prop} {x1 : Int32} {x2 : Int32} {x3 : Int32} {ls : Array Slot} {H : Heap} {locs : List Loc}
    (zc : zC p s m args meth c cJ7_fill_53178 4 RJ7 none)
    (hK : zK E s)
    (hM : wpW E qp ql qs a_heard a_walked a_total a_longest a_next a_cover a_now a_then lf_huts lf_singers lf_villages lf_dams lf_echoes lf_deep lf_slide la_heights la_ladders la_minutes la_echoFrom la_echoTo la_homes la_talls la_known sf_facts sa_heard sa_huts sa_minutes H)
    (hS : va_S (wpA qp ql qs) s.heap H locs)
    (hl : lv_has ls 4 [(0, .ref (qp + 3)), (1, .int x1), (2, .int x2), (3, .int x3)])
    (hw : q_wp_J7_fill_53178_3_5 a_total x1 x2 x3 post) :
    W p l e rm_wp_J7_fill_53178_3 s m args below meth c H locs 0 0 (MQ below (zQv (S := (Nat → Int32)) (fun u => post u) (fun u H => wpW E qp ql qs a_heard a_walked u a_longest a_next a_cover a_now a_then lf_huts lf_singers lf_villages lf_dams lf_echoes lf_deep lf_slide la_heights la_ladders la_minutes la_echoFrom la_echoTo la_homes la_talls la_known sf_facts sa_heard sa_huts sa_minutes H) (wpA qp ql qs)) args s 0 0 (wpA qp ql qs)) (F0 m 5 ls []) := by
  have hx := zc.1
  have hb := zc.2.1
  refine hw (fun x2 a_total => ∀ (H : Heap) (locs : List Loc) (ls : Array Slot), lv_has ls 4 [(0, .ref (qp + 3)), (1, .int x1), (2, .int x2), (3, .int x3)] → wpW E qp ql qs a_heard a_walked a_total a_longest a_next a_cover a_now a_then lf_huts lf_singers lf_villages lf_dams lf_echoes lf_deep lf_slide la_heights la_ladders la_minutes la_echoFrom la_echoTo la_homes la_talls la_known sf_facts sa_heard sa_huts sa_minutes H → va_S (wpA qp ql qs) s.heap H locs → W p l e rm_wp_J7_fill_53178_3 s m args below meth c H locs 0 0 (MQ below (zQv (S := (Nat → Int32)) (fun u => post u) (fun u H => wpW E qp ql qs a_heard a_walked u a_longest a_next a_cover a_now a_then lf_huts lf_singers lf_villages lf_dams lf_echoes lf_deep lf_slide la_heights la_ladders la_minutes la_echoFrom la_echoTo la_homes la_talls la_known sf_facts sa_heard sa_huts sa_minutes H) (wpA qp ql qs)) args s 0 0 (wpA qp ql qs)) (F0 m 5 ls [])) ?_ _ _ _ hl hM hS
  intro x2 a_total hw H locs ls hl hM hS
  refine lv_iload_n hx hb dJ7_fill_53178_5 rfl (lv_at hl 2 rfl) ?_
  refine lv_iload_n hx hb dJ7_fill_53178_6 rfl (lv_at hl 3 rfl) ?_
  refine lv_icmp_ge (tgt := 20) hx hb dJ7_fill_53178_7 (by decide) (fun hc => ?_) (fun hc => ?_)
  · have hw := hw.1 hc
    exact zret_vw a_total zc hS hw hM dJ7_fill_53178_20
  · have hw := hw.2 hc
    refine lv_aload_n hx hb dJ7_fill_53178_10 rfl (lv_at hl 0 rfl) ?_
    refine lv_iload_n hx hb dJ7_fill_53178_11 rfl (lv_at hl 2 rfl) ?_
    refine lv_iload_n hx hb dJ7_fill_53178_12 rfl (lv_at hl 1 rfl) ?_
    refine wpst_3 zc hK hM hS hw.1 dJ7_fill_53178_13 (fun a_total_1 H locs ea_total_1 hM hS => ?_)
    have hw := hw.2 a_total_1 ea_total_1
    obtain ⟨v_1, ev_1⟩ : ∃ y : Int32, y = x2 + (1 : Int32) := ⟨_, rfl⟩
    have hw := hw v_1 ev_1
    refine lv_iinc (v := v_1) (k := 2) (lv' := [(2, .int v_1), (0, .ref (qp + 3)), (1, .int x1), (3, .int x3)]) hx hb dJ7_fill_53178_14 hl rfl (by rw [ev_1]; rfl) (by decide) rfl (fun ls hl => ?_)
    refine lv_goto (tgt := 5) hx hb dJ7_fill_53178_17 (by decide) ?_
    exact hw _ _ _ (lv_sub hl [1, 2, 0, 3] rfl) hM hS
set_option maxRecDepth 20000 in
theorem t_wp_J7_fill_53178_3_0 {p : Program} {l : Launch} {e : Env} {s : State} {m : MethodId} {args : Array Value} {below : List Frame} {meth : Method} {c : Code} {E : zE} {qp ql qs : Nat} {a_heard : Nat → Int32} {a_walked : Nat → Int32} {a_total : Nat → Int32} {a_longest : Nat → Int32} {a_next : Nat → Int32} {a_cover : Nat → Int32} {a_now : Nat → Int32} {a_then : Nat → Int32} {lf_huts : Int32} {lf_singers : Int32} {lf_villages : Int32} {lf_dams : Int32} {lf_echoes : Int32} {lf_deep : Int32} {lf_slide : Int32} {la_heights : Nat → Int32} {la_ladders : Nat → Int32} {la_minutes : Nat → Int32} {la_echoFrom : Nat → Int32} {la_echoTo : Nat → Int32} {la_homes : Nat → Int32} {la_talls : Nat → Int32} {la_known : Nat → Int32} {sf_facts : Int32} {sa_heard : Nat → Int32} {sa_huts : Nat → Int32} {sa_minutes : Nat → Int32} {post : (Nat → Int32) → Prop} {x1 : Int32} {ls : Array Slot} {H : Heap} {locs : List Loc}
    (zc : zC p s m args meth c cJ7_fill_53178 4 RJ7 none)
    (hK : zK E s)
    (hM : wpW E qp ql qs a_heard a_walked a_total a_longest a_next a_cover a_now a_then lf_huts lf_singers lf_villages lf_dams lf_echoes lf_deep lf_slide la_heights la_ladders la_minutes la_echoFrom la_echoTo la_homes la_talls la_known sf_facts sa_heard sa_huts sa_minutes H)
    (hS : va_S (wpA qp ql qs) s.heap H locs)
    (hl : lv_has ls 4 [(0, .ref (qp + 3)), (1, .int x1)])
    (hw : q_wp_J7_fill_53178_3_0 a_total x1 post) :
    W p l e rm_wp_J7_fill_53178_3 s m args below meth c H locs 0 0 (MQ below (zQv (S := (Nat → Int32)) (fun u => post u) (fun u H => wpW E qp ql qs a_heard a_walked u a_longest a_next a_cover a_now a_then lf_huts lf_singers lf_villages lf_dams lf_echoes lf_deep lf_slide la_heights la_ladders la_minutes la_echoFrom la_echoTo la_homes la_talls la_known sf_facts sa_heard sa_huts sa_minutes H) (wpA qp ql qs)) args s 0 0 (wpA qp ql qs)) (F0 m 0 ls []) := by
  have hx := zc.1
  have hb := zc.2.1
  refine lv_iconst (v := (0 : Int32)) hx hb dJ7_fill_53178_0 (by decide) ?_
  refine lv_istore_n (lv' := [(2, .int (0 : Int32)), (0, .ref (qp + 3)), (1, .int x1)]) hx hb dJ7_fill_53178_1 rfl hl (by decide) rfl (fun ls hl => ?_)
  refine lv_aload_n hx hb dJ7_fill_53178_2 rfl (lv_at hl 1 rfl) ?_
  refine va_alen (v := (9 : Int32)) hx hb hK.1 hM.1 3 1 rfl rfl rfl dJ7_fill_53178_3 ?_
  refine lv_istore_n (lv' := [(3, .int (9 : Int32)), (2, .int (0 : Int32)), (0, .ref (qp + 3)), (1, .int x1)]) hx hb dJ7_fill_53178_4 rfl hl (by decide) rfl (fun ls hl => ?_)
  exact t_wp_J7_fill_53178_3_5 zc hK hM hS  (lv_sub hl [2, 3, 1, 0] rfl) hw
set_option maxRecDepth 20000 in
theorem c_wp_J7_fill_53178_3 (l : Launch) {E : zE} {qp ql qs : Nat} {a_heard : Nat → Int32} {a_walked : Nat → Int32} {a_total : Nat → Int32} {a_longest : Nat → Int32} {a_next : Nat → Int32} {a_cover : Nat → Int32} {a_now : Nat → Int32} {a_then : Nat → Int32} {lf_huts : Int32} {lf_singers : Int32} {lf_villages : Int32} {lf_dams : Int32} {lf_echoes : Int32} {lf_deep : Int32} {lf_slide : Int32} {la_heights : Nat → Int32} {la_ladders : Nat → Int32} {la_minutes : Nat → Int32} {la_echoFrom : Nat → Int32} {la_echoTo : Nat → Int32} {la_homes : Nat → Int32} {la_talls : Nat → Int32} {la_known : Nat → Int32} {sf_facts : Int32} {sa_heard : Nat → Int32} {sa_huts : Nat → Int32} {sa_minutes : Nat → Int32} {x1 : Int32} {post : (Nat → Int32) → Prop} (hw : q_wp_J7_fill_53178_3_0 a_total x1 post) : Met l yJ7_fill_53178 (Cond.code yJ7_fill_53178 cJ7_fill_53178 4 none :: zb) rm_wp_J7_fill_53178_3 (va_Pc [.ref (qp + 3), .int x1] (fun U => wpW E qp ql qs a_heard a_walked a_total a_longest a_next a_cover a_now a_then lf_huts lf_singers lf_villages lf_dams lf_echoes lf_deep lf_slide la_heights la_ladders la_minutes la_echoFrom la_echoTo la_homes la_talls la_known sf_facts sa_heard sa_huts sa_minutes U.heap ∧ zK E U)) (zQv (S := (Nat → Int32)) (fun u => post u) (fun u H => wpW E qp ql qs a_heard a_walked u a_longest a_next a_cover a_now a_then lf_huts lf_singers lf_villages lf_dams lf_echoes lf_deep lf_slide la_heights la_ladders la_minutes la_echoFrom la_echoTo la_homes la_talls la_known sf_facts sa_heard sa_huts sa_minutes H) (wpA qp ql qs)) 0 0 (wpA qp ql qs) := by
  refine Met.ofW (cc := cJ7_fill_53178) (maxL := 4) (ret := none) (by decide) rfl ?_
  intro p e s m args below meth c s₁ B hml hv
  obtain ⟨rfl, hM, hK⟩ := hv
  have zc := zc_of B hml
  have hl := lv_entry ([.ref (qp + 3), .int x1]) (n := 4) (Nat.le_of_ble_eq_true rfl)
  rw [lg_entry_eq]
  generalize (lg_sl ([.ref (qp + 3), .int x1]) ++ List.replicate (4 - (lg_sl ([.ref (qp + 3), .int x1])).length) Slot.unset).toArray = ls at hl ⊢
  have hl : lv_has ls 4 [(0, .ref (qp + 3)), (1, .int x1)] := hl
  exact t_wp_J7_fill_53178_3_0 zc hK hM va_S.rf (lv_sub hl [0, 1] rfl) hw
-- wp_J7_fill_53178_4
abbrev rm_wp_J7_fill_53178_4 : Room := { frames := 0, cells := 0, slots := 0, locals := 0 }
def q_wp_J7_fill_53178_4_5 (a_longest : Nat → Int32) (x1 : Int32) (x2 : Int32) (x3 : Int32) (post : (Nat → Int32) → Prop) : Prop :=
  ∀ P5 : Int32 → (Nat → Int32) → Prop, (∀ (x2 : Int32) (a_longest : Nat → Int32), ((x3 ≤ x2 → (post a_longest)) ∧ (¬ x3 ≤ x2 → (vp_in x2 9 ∧ (∀ a_longest_1 : Nat → Int32, a_longest_1 = upd a_longest (Int32.toNatClampNeg x2) x1 → (∀ v_1 : Int32, v_1 = x2 + (1 : Int32) → (P5 v_1 a_longest_1)))))) → P5 x2 a_longest) → P5 x2 a_longest
def q_wp_J7_fill_53178_4_0 (a_longest : Nat → Int32) (x1 : Int32) (post : (Nat → Int32) → Prop) : Prop :=
  q_wp_J7_fill_53178_4_5 a_longest x1 (0 : Int32) (9 : Int32) post
set_option maxRecDepth 20000 in
theorem t_wp_J7_fill_53178_4_5 {p : Program} {l : Launch} {e : Env} {s : State} {m : MethodId} {args : Array Value} {below : List Frame} {meth : Method} {c : Code} {E : zE} {qp ql qs : Nat} {a_heard : Nat → Int32} {a_walked : Nat → Int32} {a_total : Nat → Int32} {a_longest : Nat → Int32} {a_next : Nat → Int32} {a_cover : Nat → Int32} {a_now : Nat → Int32} {a_then : Nat → Int32} {lf_huts : Int32} {lf_singers : Int32} {lf_villages : Int32} {lf_dams : Int32} {lf_echoes : Int32} {lf_deep : Int32} {lf_slide : Int32} {la_heights : Nat → Int32} {la_ladders : Nat → Int32} {la_minutes : Nat → Int32} {la_echoFrom : Nat → Int32} {la_echoTo : Nat → Int32} {la_homes : Nat → Int32} {la_talls : Nat → Int32} {la_known : Nat → Int32} {sf_facts : Int32} {sa_heard : Nat → Int32} {sa_huts : Nat → Int32} {sa_minutes : Nat → Int32} {post : (Nat → Int32) → Prop} {x1 : Int32} {x2 : Int32} {x3 : Int32} {ls : Array Slot} {H : Heap} {locs : List Loc}
    (zc : zC p s m args meth c cJ7_fill_53178 4 RJ7 none)
    (hK : zK E s)
    (hM : wpW E qp ql qs a_heard a_walked a_total a_longest a_next a_cover a_now a_then lf_huts lf_singers lf_villages lf_dams lf_echoes lf_deep lf_slide la_heights la_ladders la_minutes la_echoFrom la_echoTo la_homes la_talls la_known sf_facts sa_heard sa_huts sa_minutes H)
    (hS : va_S (wpA qp ql qs) s.heap H locs)
    (hl : lv_has ls 4 [(0, .ref (qp + 4)), (1, .int x1), (2, .int x2), (3, .int x3)])
    (hw : q_wp_J7_fill_53178_4_5 a_longest x1 x2 x3 post) :
    W p l e rm_wp_J7_fill_53178_4 s m args below meth c H locs 0 0 (MQ below (zQv (S := (Nat → Int32)) (fun u => post u) (fun u H => wpW E qp ql qs a_heard a_walked a_total u a_next a_cover a_now a_then lf_huts lf_singers lf_villages lf_dams lf_echoes lf_deep lf_slide la_heights la_ladders la_minutes la_echoFrom la_echoTo la_homes la_talls la_known sf_facts sa_heard sa_huts sa_minutes H) (wpA qp ql qs)) args s 0 0 (wpA qp ql qs)) (F0 m 5 ls []) := by
  have hx := zc.1
  have hb := zc.2.1
  refine hw (fun x2 a_longest => ∀ (H : Heap) (locs : List Loc) (ls : Array Slot), lv_has ls 4 [(0, .ref (qp + 4)), (1, .int x1), (2, .int x2), (3, .int x3)] → wpW E qp ql qs a_heard a_walked a_total a_longest a_next a_cover a_now a_then lf_huts lf_singers lf_villages lf_dams lf_echoes lf_deep lf_slide la_heights la_ladders la_minutes la_echoFrom la_echoTo la_homes la_talls la_known sf_facts sa_heard sa_huts sa_minutes H → va_S (wpA qp ql qs) s.heap H locs → W p l e rm_wp_J7_fill_53178_4 s m args below meth c H locs 0 0 (MQ below (zQv (S := (Nat → Int32)) (fun u => post u) (fun u H => wpW E qp ql qs a_heard a_walked a_total u a_next a_cover a_now a_then lf_huts lf_singers lf_villages lf_dams lf_echoes lf_deep lf_slide la_heights la_ladders la_minutes la_echoFrom la_echoTo la_homes la_talls la_known sf_facts sa_heard sa_huts sa_minutes H) (wpA qp ql qs)) args s 0 0 (wpA qp ql qs)) (F0 m 5 ls [])) ?_ _ _ _ hl hM hS
  intro x2 a_longest hw H locs ls hl hM hS
  refine lv_iload_n hx hb dJ7_fill_53178_5 rfl (lv_at hl 2 rfl) ?_
  refine lv_iload_n hx hb dJ7_fill_53178_6 rfl (lv_at hl 3 rfl) ?_
  refine lv_icmp_ge (tgt := 20) hx hb dJ7_fill_53178_7 (by decide) (fun hc => ?_) (fun hc => ?_)
  · have hw := hw.1 hc
    exact zret_vw a_longest zc hS hw hM dJ7_fill_53178_20
  · have hw := hw.2 hc
    refine lv_aload_n hx hb dJ7_fill_53178_10 rfl (lv_at hl 0 rfl) ?_
    refine lv_iload_n hx hb dJ7_fill_53178_11 rfl (lv_at hl 2 rfl) ?_
    refine lv_iload_n hx hb dJ7_fill_53178_12 rfl (lv_at hl 1 rfl) ?_
    refine wpst_4 zc hK hM hS hw.1 dJ7_fill_53178_13 (fun a_longest_1 H locs ea_longest_1 hM hS => ?_)
    have hw := hw.2 a_longest_1 ea_longest_1
    obtain ⟨v_1, ev_1⟩ : ∃ y : Int32, y = x2 + (1 : Int32) := ⟨_, rfl⟩
    have hw := hw v_1 ev_1
    refine lv_iinc (v := v_1) (k := 2) (lv' := [(2, .int v_1), (0, .ref (qp + 4)), (1, .int x1), (3, .int x3)]) hx hb dJ7_fill_53178_14 hl rfl (by rw [ev_1]; rfl) (by decide) rfl (fun ls hl => ?_)
    refine lv_goto (tgt := 5) hx hb dJ7_fill_53178_17 (by decide) ?_
    exact hw _ _ _ (lv_sub hl [1, 2, 0, 3] rfl) hM hS
set_option maxRecDepth 20000 in
theorem t_wp_J7_fill_53178_4_0 {p : Program} {l : Launch} {e : Env} {s : State} {m : MethodId} {args : Array Value} {below : List Frame} {meth : Method} {c : Code} {E : zE} {qp ql qs : Nat} {a_heard : Nat → Int32} {a_walked : Nat → Int32} {a_total : Nat → Int32} {a_longest : Nat → Int32} {a_next : Nat → Int32} {a_cover : Nat → Int32} {a_now : Nat → Int32} {a_then : Nat → Int32} {lf_huts : Int32} {lf_singers : Int32} {lf_villages : Int32} {lf_dams : Int32} {lf_echoes : Int32} {lf_deep : Int32} {lf_slide : Int32} {la_heights : Nat → Int32} {la_ladders : Nat → Int32} {la_minutes : Nat → Int32} {la_echoFrom : Nat → Int32} {la_echoTo : Nat → Int32} {la_homes : Nat → Int32} {la_talls : Nat → Int32} {la_known : Nat → Int32} {sf_facts : Int32} {sa_heard : Nat → Int32} {sa_huts : Nat → Int32} {sa_minutes : Nat → Int32} {post : (Nat → Int32) → Prop} {x1 : Int32} {ls : Array Slot} {H : Heap} {locs : List Loc}
    (zc : zC p s m args meth c cJ7_fill_53178 4 RJ7 none)
    (hK : zK E s)
    (hM : wpW E qp ql qs a_heard a_walked a_total a_longest a_next a_cover a_now a_then lf_huts lf_singers lf_villages lf_dams lf_echoes lf_deep lf_slide la_heights la_ladders la_minutes la_echoFrom la_echoTo la_homes la_talls la_known sf_facts sa_heard sa_huts sa_minutes H)
    (hS : va_S (wpA qp ql qs) s.heap H locs)
    (hl : lv_has ls 4 [(0, .ref (qp + 4)), (1, .int x1)])
    (hw : q_wp_J7_fill_53178_4_0 a_longest x1 post) :
    W p l e rm_wp_J7_fill_53178_4 s m args below meth c H locs 0 0 (MQ below (zQv (S := (Nat → Int32)) (fun u => post u) (fun u H => wpW E qp ql qs a_heard a_walked a_total u a_next a_cover a_now a_then lf_huts lf_singers lf_villages lf_dams lf_echoes lf_deep lf_slide la_heights la_ladders la_minutes la_echoFrom la_echoTo la_homes la_talls la_known sf_facts sa_heard sa_huts sa_minutes H) (wpA qp ql qs)) args s 0 0 (wpA qp ql qs)) (F0 m 0 ls []) := by
  have hx := zc.1
  have hb := zc.2.1
  refine lv_iconst (v := (0 : Int32)) hx hb dJ7_fill_53178_0 (by decide) ?_
  refine lv_istore_n (lv' := [(2, .int (0 : Int32)), (0, .ref (qp + 4)), (1, .int x1)]) hx hb dJ7_fill_53178_1 rfl hl (by decide) rfl (fun ls hl => ?_)
  refine lv_aload_n hx hb dJ7_fill_53178_2 rfl (lv_at hl 1 rfl) ?_
  refine va_alen (v := (9 : Int32)) hx hb hK.1 hM.1 4 1 rfl rfl rfl dJ7_fill_53178_3 ?_
  refine lv_istore_n (lv' := [(3, .int (9 : Int32)), (2, .int (0 : Int32)), (0, .ref (qp + 4)), (1, .int x1)]) hx hb dJ7_fill_53178_4 rfl hl (by decide) rfl (fun ls hl => ?_)
  exact t_wp_J7_fill_53178_4_5 zc hK hM hS  (lv_sub hl [2, 3, 1, 0] rfl) hw
set_option maxRecDepth 20000 in
theorem c_wp_J7_fill_53178_4 (l : Launch) {E : zE} {qp ql qs : Nat} {a_heard : Nat → Int32} {a_walked : Nat → Int32} {a_total : Nat → Int32} {a_longest : Nat → Int32} {a_next : Nat → Int32} {a_cover : Nat → Int32} {a_now : Nat → Int32} {a_then : Nat → Int32} {lf_huts : Int32} {lf_singers : Int32} {lf_villages : Int32} {lf_dams : Int32} {lf_echoes : Int32} {lf_deep : Int32} {lf_slide : Int32} {la_heights : Nat → Int32} {la_ladders : Nat → Int32} {la_minutes : Nat → Int32} {la_echoFrom : Nat → Int32} {la_echoTo : Nat → Int32} {la_homes : Nat → Int32} {la_talls : Nat → Int32} {la_known : Nat → Int32} {sf_facts : Int32} {sa_heard : Nat → Int32} {sa_huts : Nat → Int32} {sa_minutes : Nat → Int32} {x1 : Int32} {post : (Nat → Int32) → Prop} (hw : q_wp_J7_fill_53178_4_0 a_longest x1 post) : Met l yJ7_fill_53178 (Cond.code yJ7_fill_53178 cJ7_fill_53178 4 none :: zb) rm_wp_J7_fill_53178_4 (va_Pc [.ref (qp + 4), .int x1] (fun U => wpW E qp ql qs a_heard a_walked a_total a_longest a_next a_cover a_now a_then lf_huts lf_singers lf_villages lf_dams lf_echoes lf_deep lf_slide la_heights la_ladders la_minutes la_echoFrom la_echoTo la_homes la_talls la_known sf_facts sa_heard sa_huts sa_minutes U.heap ∧ zK E U)) (zQv (S := (Nat → Int32)) (fun u => post u) (fun u H => wpW E qp ql qs a_heard a_walked a_total u a_next a_cover a_now a_then lf_huts lf_singers lf_villages lf_dams lf_echoes lf_deep lf_slide la_heights la_ladders la_minutes la_echoFrom la_echoTo la_homes la_talls la_known sf_facts sa_heard sa_huts sa_minutes H) (wpA qp ql qs)) 0 0 (wpA qp ql qs) := by
  refine Met.ofW (cc := cJ7_fill_53178) (maxL := 4) (ret := none) (by decide) rfl ?_
  intro p e s m args below meth c s₁ B hml hv
  obtain ⟨rfl, hM, hK⟩ := hv
  have zc := zc_of B hml
  have hl := lv_entry ([.ref (qp + 4), .int x1]) (n := 4) (Nat.le_of_ble_eq_true rfl)
  rw [lg_entry_eq]
  generalize (lg_sl ([.ref (qp + 4), .int x1]) ++ List.replicate (4 - (lg_sl ([.ref (qp + 4), .int x1])).length) Slot.unset).toArray = ls at hl ⊢
  have hl : lv_has ls 4 [(0, .ref (qp + 4)), (1, .int x1)] := hl
  exact t_wp_J7_fill_53178_4_0 zc hK hM va_S.rf (lv_sub hl [0, 1] rfl) hw
-- wp_J7_fill_53178_7
abbrev rm_wp_J7_fill_53178_7 : Room := { frames := 0, cells := 0, slots := 0, locals := 0 }
def q_wp_J7_fill_53178_7_5 (a_now : Nat → Int32) (x1 : Int32) (x2 : Int32) (x3 : Int32) (post : (Nat → Int32) → Prop) : Prop :=
  ∀ P5 : Int32 → (Nat → Int32) → Prop, (∀ (x2 : Int32) (a_now : Nat → Int32), ((x3 ≤ x2 → (post a_now)) ∧ (¬ x3 ≤ x2 → (vp_in x2 9 ∧ (∀ a_now_1 : Nat → Int32, a_now_1 = upd a_now (Int32.toNatClampNeg x2) x1 → (∀ v_1 : Int32, v_1 = x2 + (1 : Int32) → (P5 v_1 a_now_1)))))) → P5 x2 a_now) → P5 x2 a_now
def q_wp_J7_fill_53178_7_0 (a_now : Nat → Int32) (x1 : Int32) (post : (Nat → Int32) → Prop) : Prop :=
  q_wp_J7_fill_53178_7_5 a_now x1 (0 : Int32) (9 : Int32) post
set_option maxRecDepth 20000 in
theorem t_wp_J7_fill_53178_7_5 {p : Program} {l : Launch} {e : Env} {s : State} {m : MethodId} {args : Array Value} {below : List Frame} {meth : Method} {c : Code} {E : zE} {qp ql qs : Nat} {a_heard : Nat → Int32} {a_walked : Nat → Int32} {a_total : Nat → Int32} {a_longest : Nat → Int32} {a_next : Nat → Int32} {a_cover : Nat → Int32} {a_now : Nat → Int32} {a_then : Nat → Int32} {lf_huts : Int32} {lf_singers : Int32} {lf_villages : Int32} {lf_dams : Int32} {lf_echoes : Int32} {lf_deep : Int32} {lf_slide : Int32} {la_heights : Nat → Int32} {la_ladders : Nat → Int32} {la_minutes : Nat → Int32} {la_echoFrom : Nat → Int32} {la_echoTo : Nat → Int32} {la_homes : Nat → Int32} {la_talls : Nat → Int32} {la_known : Nat → Int32} {sf_facts : Int32} {sa_heard : Nat → Int32} {sa_huts : Nat → Int32} {sa_minutes : Nat → Int32} {post : (Nat → Int32) → Prop} {x1 : Int32} {x2 : Int32} {x3 : Int32} {ls : Array Slot} {H : Heap} {locs : List Loc}
    (zc : zC p s m args meth c cJ7_fill_53178 4 RJ7 none)
    (hK : zK E s)
    (hM : wpW E qp ql qs a_heard a_walked a_total a_longest a_next a_cover a_now a_then lf_huts lf_singers lf_villages lf_dams lf_echoes lf_deep lf_slide la_heights la_ladders la_minutes la_echoFrom la_echoTo la_homes la_talls la_known sf_facts sa_heard sa_huts sa_minutes H)
    (hS : va_S (wpA qp ql qs) s.heap H locs)
    (hl : lv_has ls 4 [(0, .ref (qp + 7)), (1, .int x1), (2, .int x2), (3, .int x3)])
    (hw : q_wp_J7_fill_53178_7_5 a_now x1 x2 x3 post) :
    W p l e rm_wp_J7_fill_53178_7 s m args below meth c H locs 0 0 (MQ below (zQv (S := (Nat → Int32)) (fun u => post u) (fun u H => wpW E qp ql qs a_heard a_walked a_total a_longest a_next a_cover u a_then lf_huts lf_singers lf_villages lf_dams lf_echoes lf_deep lf_slide la_heights la_ladders la_minutes la_echoFrom la_echoTo la_homes la_talls la_known sf_facts sa_heard sa_huts sa_minutes H) (wpA qp ql qs)) args s 0 0 (wpA qp ql qs)) (F0 m 5 ls []) := by
  have hx := zc.1
  have hb := zc.2.1
  refine hw (fun x2 a_now => ∀ (H : Heap) (locs : List Loc) (ls : Array Slot), lv_has ls 4 [(0, .ref (qp + 7)), (1, .int x1), (2, .int x2), (3, .int x3)] → wpW E qp ql qs a_heard a_walked a_total a_longest a_next a_cover a_now a_then lf_huts lf_singers lf_villages lf_dams lf_echoes lf_deep lf_slide la_heights la_ladders la_minutes la_echoFrom la_echoTo la_homes la_talls la_known sf_facts sa_heard sa_huts sa_minutes H → va_S (wpA qp ql qs) s.heap H locs → W p l e rm_wp_J7_fill_53178_7 s m args below meth c H locs 0 0 (MQ below (zQv (S := (Nat → Int32)) (fun u => post u) (fun u H => wpW E qp ql qs a_heard a_walked a_total a_longest a_next a_cover u a_then lf_huts lf_singers lf_villages lf_dams lf_echoes lf_deep lf_slide la_heights la_ladders la_minutes la_echoFrom la_echoTo la_homes la_talls la_known sf_facts sa_heard sa_huts sa_minutes H) (wpA qp ql qs)) args s 0 0 (wpA qp ql qs)) (F0 m 5 ls [])) ?_ _ _ _ hl hM hS
  intro x2 a_now hw H locs ls hl hM hS
  refine lv_iload_n hx hb dJ7_fill_53178_5 rfl (lv_at hl 2 rfl) ?_
  refine lv_iload_n hx hb dJ7_fill_53178_6 rfl (lv_at hl 3 rfl) ?_
  refine lv_icmp_ge (tgt := 20) hx hb dJ7_fill_53178_7 (by decide) (fun hc => ?_) (fun hc => ?_)
  · have hw := hw.1 hc
    exact zret_vw a_now zc hS hw hM dJ7_fill_53178_20
  · have hw := hw.2 hc
    refine lv_aload_n hx hb dJ7_fill_53178_10 rfl (lv_at hl 0 rfl) ?_
    refine lv_iload_n hx hb dJ7_fill_53178_11 rfl (lv_at hl 2 rfl) ?_
    refine lv_iload_n hx hb dJ7_fill_53178_12 rfl (lv_at hl 1 rfl) ?_
    refine wpst_7 zc hK hM hS hw.1 dJ7_fill_53178_13 (fun a_now_1 H locs ea_now_1 hM hS => ?_)
    have hw := hw.2 a_now_1 ea_now_1
    obtain ⟨v_1, ev_1⟩ : ∃ y : Int32, y = x2 + (1 : Int32) := ⟨_, rfl⟩
    have hw := hw v_1 ev_1
    refine lv_iinc (v := v_1) (k := 2) (lv' := [(2, .int v_1), (0, .ref (qp + 7)), (1, .int x1), (3, .int x3)]) hx hb dJ7_fill_53178_14 hl rfl (by rw [ev_1]; rfl) (by decide) rfl (fun ls hl => ?_)
    refine lv_goto (tgt := 5) hx hb dJ7_fill_53178_17 (by decide) ?_
    exact hw _ _ _ (lv_sub hl [1, 2, 0, 3] rfl) hM hS
set_option maxRecDepth 20000 in
theorem t_wp_J7_fill_53178_7_0 {p : Program} {l : Launch} {e : Env} {s : State} {m : MethodId} {args : Array Value} {below : List Frame} {meth : Method} {c : Code} {E : zE} {qp ql qs : Nat} {a_heard : Nat → Int32} {a_walked : Nat → Int32} {a_total : Nat → Int32} {a_longest : Nat → Int32} {a_next : Nat → Int32} {a_cover : Nat → Int32} {a_now : Nat → Int32} {a_then : Nat → Int32} {lf_huts : Int32} {lf_singers : Int32} {lf_villages : Int32} {lf_dams : Int32} {lf_echoes : Int32} {lf_deep : Int32} {lf_slide : Int32} {la_heights : Nat → Int32} {la_ladders : Nat → Int32} {la_minutes : Nat → Int32} {la_echoFrom : Nat → Int32} {la_echoTo : Nat → Int32} {la_homes : Nat → Int32} {la_talls : Nat → Int32} {la_known : Nat → Int32} {sf_facts : Int32} {sa_heard : Nat → Int32} {sa_huts : Nat → Int32} {sa_minutes : Nat → Int32} {post : (Nat → Int32) → Prop} {x1 : Int32} {ls : Array Slot} {H : Heap} {locs : List Loc}
    (zc : zC p s m args meth c cJ7_fill_53178 4 RJ7 none)
    (hK : zK E s)
    (hM : wpW E qp ql qs a_heard a_walked a_total a_longest a_next a_cover a_now a_then lf_huts lf_singers lf_villages lf_dams lf_echoes lf_deep lf_slide la_heights la_ladders la_minutes la_echoFrom la_echoTo la_homes la_talls la_known sf_facts sa_heard sa_huts sa_minutes H)
    (hS : va_S (wpA qp ql qs) s.heap H locs)
    (hl : lv_has ls 4 [(0, .ref (qp + 7)), (1, .int x1)])
    (hw : q_wp_J7_fill_53178_7_0 a_now x1 post) :
    W p l e rm_wp_J7_fill_53178_7 s m args below meth c H locs 0 0 (MQ below (zQv (S := (Nat → Int32)) (fun u => post u) (fun u H => wpW E qp ql qs a_heard a_walked a_total a_longest a_next a_cover u a_then lf_huts lf_singers lf_villages lf_dams lf_echoes lf_deep lf_slide la_heights la_ladders la_minutes la_echoFrom la_echoTo la_homes la_talls la_known sf_facts sa_heard sa_huts sa_minutes H) (wpA qp ql qs)) args s 0 0 (wpA qp ql qs)) (F0 m 0 ls []) := by
  have hx := zc.1
  have hb := zc.2.1
  refine lv_iconst (v := (0 : Int32)) hx hb dJ7_fill_53178_0 (by decide) ?_
  refine lv_istore_n (lv' := [(2, .int (0 : Int32)), (0, .ref (qp + 7)), (1, .int x1)]) hx hb dJ7_fill_53178_1 rfl hl (by decide) rfl (fun ls hl => ?_)
  refine lv_aload_n hx hb dJ7_fill_53178_2 rfl (lv_at hl 1 rfl) ?_
  refine va_alen (v := (9 : Int32)) hx hb hK.1 hM.1 7 1 rfl rfl rfl dJ7_fill_53178_3 ?_
  refine lv_istore_n (lv' := [(3, .int (9 : Int32)), (2, .int (0 : Int32)), (0, .ref (qp + 7)), (1, .int x1)]) hx hb dJ7_fill_53178_4 rfl hl (by decide) rfl (fun ls hl => ?_)
  exact t_wp_J7_fill_53178_7_5 zc hK hM hS  (lv_sub hl [2, 3, 1, 0] rfl) hw
set_option maxRecDepth 20000 in
theorem c_wp_J7_fill_53178_7 (l : Launch) {E : zE} {qp ql qs : Nat} {a_heard : Nat → Int32} {a_walked : Nat → Int32} {a_total : Nat → Int32} {a_longest : Nat → Int32} {a_next : Nat → Int32} {a_cover : Nat → Int32} {a_now : Nat → Int32} {a_then : Nat → Int32} {lf_huts : Int32} {lf_singers : Int32} {lf_villages : Int32} {lf_dams : Int32} {lf_echoes : Int32} {lf_deep : Int32} {lf_slide : Int32} {la_heights : Nat → Int32} {la_ladders : Nat → Int32} {la_minutes : Nat → Int32} {la_echoFrom : Nat → Int32} {la_echoTo : Nat → Int32} {la_homes : Nat → Int32} {la_talls : Nat → Int32} {la_known : Nat → Int32} {sf_facts : Int32} {sa_heard : Nat → Int32} {sa_huts : Nat → Int32} {sa_minutes : Nat → Int32} {x1 : Int32} {post : (Nat → Int32) → Prop} (hw : q_wp_J7_fill_53178_7_0 a_now x1 post) : Met l yJ7_fill_53178 (Cond.code yJ7_fill_53178 cJ7_fill_53178 4 none :: zb) rm_wp_J7_fill_53178_7 (va_Pc [.ref (qp + 7), .int x1] (fun U => wpW E qp ql qs a_heard a_walked a_total a_longest a_next a_cover a_now a_then lf_huts lf_singers lf_villages lf_dams lf_echoes lf_deep lf_slide la_heights la_ladders la_minutes la_echoFrom la_echoTo la_homes la_talls la_known sf_facts sa_heard sa_huts sa_minutes U.heap ∧ zK E U)) (zQv (S := (Nat → Int32)) (fun u => post u) (fun u H => wpW E qp ql qs a_heard a_walked a_total a_longest a_next a_cover u a_then lf_huts lf_singers lf_villages lf_dams lf_echoes lf_deep lf_slide la_heights la_ladders la_minutes la_echoFrom la_echoTo la_homes la_talls la_known sf_facts sa_heard sa_huts sa_minutes H) (wpA qp ql qs)) 0 0 (wpA qp ql qs) := by
  refine Met.ofW (cc := cJ7_fill_53178) (maxL := 4) (ret := none) (by decide) rfl ?_
  intro p e s m args below meth c s₁ B hml hv
  obtain ⟨rfl, hM, hK⟩ := hv
  have zc := zc_of B hml
  have hl := lv_entry ([.ref (qp + 7), .int x1]) (n := 4) (Nat.le_of_ble_eq_true rfl)
  rw [lg_entry_eq]
  generalize (lg_sl ([.ref (qp + 7), .int x1]) ++ List.replicate (4 - (lg_sl ([.ref (qp + 7), .int x1])).length) Slot.unset).toArray = ls at hl ⊢
  have hl : lv_has ls 4 [(0, .ref (qp + 7)), (1, .int x1)] := hl
  exact t_wp_J7_fill_53178_7_0 zc hK hM va_S.rf (lv_sub hl [0, 1] rfl) hw
-- wp_X7_routesOn_9
abbrev rm_wp_X7_routesOn_9 : Room := { frames := 2, cells := 0, slots := 0, locals := 43 }
def q_wp_X7_routesOn_9_34 (P5 : Int32 → Int32 → Prop) (a_now : Nat → Int32) (lf_huts : Int32) (lf_dams : Int32) (la_heights : Nat → Int32) (la_minutes : Nat → Int32) (x2 : Int32) (x3 : Int32) (x4 : Int32) (post : Int32 → Prop) : Prop :=
  ∀ v_1 : Int32, v_1 = x4 + (1 : Int32) → (P5 x3 v_1)
def q_wp_X7_routesOn_9_5 (a_now : Nat → Int32) (lf_huts : Int32) (lf_dams : Int32) (la_heights : Nat → Int32) (la_minutes : Nat → Int32) (x2 : Int32) (x3 : Int32) (x4 : Int32) (post : Int32 → Prop) : Prop :=
  ∀ P5 : Int32 → Int32 → Prop, (∀ (x3 : Int32) (x4 : Int32), ((lf_huts ≤ x4 → (post x3)) ∧ (¬ lf_huts ≤ x4 → (q_wl_X2_leads_0 lf_dams la_heights la_minutes x4 x2 (fun r_1 => (r_1 = 0 → (q_wp_X7_routesOn_9_34 P5 a_now lf_huts lf_dams la_heights la_minutes x2 x3 x4 post)) ∧ (¬ r_1 = 0 → (vp_in x4 9 ∧ (∀ v_1 : Int32, v_1 = (x3 + (a_now (Int32.toNatClampNeg x4))) → (q_wp_X7_routesOn_9_34 P5 a_now lf_huts lf_dams la_heights la_minutes x2 v_1 x4 post)))))))) → P5 x3 x4) → P5 x3 x4
def q_wp_X7_routesOn_9_0 (a_now : Nat → Int32) (lf_huts : Int32) (lf_dams : Int32) (la_heights : Nat → Int32) (la_minutes : Nat → Int32) (x2 : Int32) (post : Int32 → Prop) : Prop :=
  q_wp_X7_routesOn_9_5 a_now lf_huts lf_dams la_heights la_minutes x2 (0 : Int32) (0 : Int32) post
set_option maxRecDepth 20000 in
theorem t_wp_X7_routesOn_9_34 {p : Program} {l : Launch} {e : Env} {s : State} {m : MethodId} {args : Array Value} {below : List Frame} {meth : Method} {c : Code} {E : zE} {qp ql qs : Nat} {a_heard : Nat → Int32} {a_walked : Nat → Int32} {a_total : Nat → Int32} {a_longest : Nat → Int32} {a_next : Nat → Int32} {a_cover : Nat → Int32} {a_now : Nat → Int32} {a_then : Nat → Int32} {lf_huts : Int32} {lf_singers : Int32} {lf_villages : Int32} {lf_dams : Int32} {lf_echoes : Int32} {lf_deep : Int32} {lf_slide : Int32} {la_heights : Nat → Int32} {la_ladders : Nat → Int32} {la_minutes : Nat → Int32} {la_echoFrom : Nat → Int32} {la_echoTo : Nat → Int32} {la_homes : Nat → Int32} {la_talls : Nat → Int32} {la_known : Nat → Int32} {sf_facts : Int32} {sa_heard : Nat → Int32} {sa_huts : Nat → Int32} {sa_minutes : Nat → Int32} {P5 : Int32 → Int32 → Prop} {post : Int32 → Prop} {x2 : Int32} {x3 : Int32} {x4 : Int32} {ls : Array Slot}
    (zc : zC p s m args meth c cX7_routesOn 5 RX7 (some .int))
    (hK : zK E s)
    (hM : wpW E qp ql qs a_heard a_walked a_total a_longest a_next a_cover a_now a_then lf_huts lf_singers lf_villages lf_dams lf_echoes lf_deep lf_slide la_heights la_ladders la_minutes la_echoFrom la_echoTo la_homes la_talls la_known sf_facts sa_heard sa_huts sa_minutes s.heap)
    (hP5 : ∀ (x3 : Int32) (x4 : Int32) (ls : Array Slot), P5 x3 x4 → lv_has ls 5 [(0, .ref qp), (1, .ref ql), (2, .int x2), (3, .int x3), (4, .int x4)] → W p l e rm_wp_X7_routesOn_9 s m args below meth c s.heap [] 0 0 (MQ below (vp_Si post) args s 0 0 (fun _ => False)) (F0 m 5 ls []))
    (hl : lv_has ls 5 [(0, .ref qp), (1, .ref ql), (2, .int x2), (3, .int x3), (4, .int x4)])
    (hw : q_wp_X7_routesOn_9_34 P5 a_now lf_huts lf_dams la_heights la_minutes x2 x3 x4 post) :
    W p l e rm_wp_X7_routesOn_9 s m args below meth c s.heap [] 0 0 (MQ below (vp_Si post) args s 0 0 (fun _ => False)) (F0 m 34 ls []) := by
  have hx := zc.1
  have hb := zc.2.1
  obtain ⟨v_1, ev_1⟩ : ∃ y : Int32, y = x4 + (1 : Int32) := ⟨_, rfl⟩
  have hw := hw v_1 ev_1
  refine lv_iinc (v := v_1) (k := 4) (lv' := [(4, .int v_1), (0, .ref qp), (1, .ref ql), (2, .int x2), (3, .int x3)]) hx hb dX7_routesOn_34 hl rfl (by rw [ev_1]; rfl) (by decide) rfl (fun ls hl => ?_)
  refine lv_goto (tgt := 5) hx hb dX7_routesOn_37 (by decide) ?_
  exact hP5 _ _ _ hw (lv_sub hl [1, 2, 3, 4, 0] rfl)
set_option maxRecDepth 20000 in
theorem t_wp_X7_routesOn_9_5 {p : Program} {l : Launch} {e : Env} {s : State} {m : MethodId} {args : Array Value} {below : List Frame} {meth : Method} {c : Code} {E : zE} {qp ql qs : Nat} {a_heard : Nat → Int32} {a_walked : Nat → Int32} {a_total : Nat → Int32} {a_longest : Nat → Int32} {a_next : Nat → Int32} {a_cover : Nat → Int32} {a_now : Nat → Int32} {a_then : Nat → Int32} {lf_huts : Int32} {lf_singers : Int32} {lf_villages : Int32} {lf_dams : Int32} {lf_echoes : Int32} {lf_deep : Int32} {lf_slide : Int32} {la_heights : Nat → Int32} {la_ladders : Nat → Int32} {la_minutes : Nat → Int32} {la_echoFrom : Nat → Int32} {la_echoTo : Nat → Int32} {la_homes : Nat → Int32} {la_talls : Nat → Int32} {la_known : Nat → Int32} {sf_facts : Int32} {sa_heard : Nat → Int32} {sa_huts : Nat → Int32} {sa_minutes : Nat → Int32} {post : Int32 → Prop} {x2 : Int32} {x3 : Int32} {x4 : Int32} {ls : Array Slot}
    (zc : zC p s m args meth c cX7_routesOn 5 RX7 (some .int))
    (hK : zK E s)
    (hM : wpW E qp ql qs a_heard a_walked a_total a_longest a_next a_cover a_now a_then lf_huts lf_singers lf_villages lf_dams lf_echoes lf_deep lf_slide la_heights la_ladders la_minutes la_echoFrom la_echoTo la_homes la_talls la_known sf_facts sa_heard sa_huts sa_minutes s.heap)
    (hl : lv_has ls 5 [(0, .ref qp), (1, .ref ql), (2, .int x2), (3, .int x3), (4, .int x4)])
    (hw : q_wp_X7_routesOn_9_5 a_now lf_huts lf_dams la_heights la_minutes x2 x3 x4 post) :
    W p l e rm_wp_X7_routesOn_9 s m args below meth c s.heap [] 0 0 (MQ below (vp_Si post) args s 0 0 (fun _ => False)) (F0 m 5 ls []) := by
  have hx := zc.1
  have hb := zc.2.1
  refine hw (fun x3 x4 => ∀ (ls : Array Slot), lv_has ls 5 [(0, .ref qp), (1, .ref ql), (2, .int x2), (3, .int x3), (4, .int x4)] → W p l e rm_wp_X7_routesOn_9 s m args below meth c s.heap [] 0 0 (MQ below (vp_Si post) args s 0 0 (fun _ => False)) (F0 m 5 ls [])) ?_ _ hl
  intro x3 x4 hw ls hl
  refine lv_iload hx hb dX7_routesOn_5 (lv_at hl 4 rfl) ?_
  refine lv_aload_n hx hb dX7_routesOn_7 rfl (lv_at hl 1 rfl) ?_
  refine wpg_7_42_9 zc hK hM dX7_routesOn_8 ?_
  refine lv_icmp_ge (tgt := 40) hx hb dX7_routesOn_11 (by decide) (fun hc => ?_) (fun hc => ?_)
  · have hw := hw.1 hc
    refine lv_iload_n hx hb dX7_routesOn_40 rfl (lv_at hl 3 rfl) ?_
    exact zret_i zc hw dX7_routesOn_41
  · have hw := hw.2 hc
    refine lv_aload_n hx hb dX7_routesOn_14 rfl (lv_at hl 1 rfl) ?_
    refine lv_iload hx hb dX7_routesOn_15 (lv_at hl 4 rfl) ?_
    refine lv_iload_n hx hb dX7_routesOn_17 rfl (lv_at hl 2 rfl) ?_
    refine zV_i [.int x4, .int x2] [] zc ky_X2_leads kz_X2_leads km_7_48 (c_wl_X2_leads l hw) (wlPreV0 hK (pj_wp_wl_9 hM)) rfl rfl hl.1 (Nat.le_of_ble_eq_true rfl) ⟨rfl, rfl⟩ ⟨Nat.le_of_ble_eq_true rfl, Nat.le_of_ble_eq_true rfl⟩ ⟨(Nat.zero_le _), (Nat.zero_le _)⟩ dX7_routesOn_18 (fun r_1 hw => ?_)
    refine lv_if_eq (tgt := 34) hx hb dX7_routesOn_21 (by decide) (fun hc => ?_) (fun hc => ?_)
    · have hw := hw.1 hc
      exact t_wp_X7_routesOn_9_34 zc hK hM (fun _ _ ls h hl => h ls hl) (lv_sub hl [0, 1, 2, 3, 4] rfl) hw
    · have hw := hw.2 hc
      refine lv_iload_n hx hb dX7_routesOn_24 rfl (lv_at hl 3 rfl) ?_
      refine lv_aload_n hx hb dX7_routesOn_25 rfl (lv_at hl 0 rfl) ?_
      refine wpg_7_30_0 zc hK hM dX7_routesOn_26 ?_
      refine lv_iload hx hb dX7_routesOn_29 (lv_at hl 4 rfl) ?_
      refine wpld_7 zc hK hM hw.1 dX7_routesOn_31 ?_
      have hw := hw.2
      refine lv_iadd hx hb dX7_routesOn_32 ?_
      refine lv_topi (fun v_1 ev_1 => ?_)
      have hw := hw v_1 ev_1
      refine lv_istore_n (lv' := [(3, .int v_1), (0, .ref qp), (1, .ref ql), (2, .int x2), (4, .int x4)]) hx hb dX7_routesOn_33 rfl hl (by decide) rfl (fun ls hl => ?_)
      exact t_wp_X7_routesOn_9_34 zc hK hM (fun _ _ ls h hl => h ls hl) (lv_sub hl [1, 2, 3, 0, 4] rfl) hw
set_option maxRecDepth 20000 in
theorem t_wp_X7_routesOn_9_0 {p : Program} {l : Launch} {e : Env} {s : State} {m : MethodId} {args : Array Value} {below : List Frame} {meth : Method} {c : Code} {E : zE} {qp ql qs : Nat} {a_heard : Nat → Int32} {a_walked : Nat → Int32} {a_total : Nat → Int32} {a_longest : Nat → Int32} {a_next : Nat → Int32} {a_cover : Nat → Int32} {a_now : Nat → Int32} {a_then : Nat → Int32} {lf_huts : Int32} {lf_singers : Int32} {lf_villages : Int32} {lf_dams : Int32} {lf_echoes : Int32} {lf_deep : Int32} {lf_slide : Int32} {la_heights : Nat → Int32} {la_ladders : Nat → Int32} {la_minutes : Nat → Int32} {la_echoFrom : Nat → Int32} {la_echoTo : Nat → Int32} {la_homes : Nat → Int32} {la_talls : Nat → Int32} {la_known : Nat → Int32} {sf_facts : Int32} {sa_heard : Nat → Int32} {sa_huts : Nat → Int32} {sa_minutes : Nat → Int32} {post : Int32 → Prop} {x2 : Int32} {ls : Array Slot}
    (zc : zC p s m args meth c cX7_routesOn 5 RX7 (some .int))
    (hK : zK E s)
    (hM : wpW E qp ql qs a_heard a_walked a_total a_longest a_next a_cover a_now a_then lf_huts lf_singers lf_villages lf_dams lf_echoes lf_deep lf_slide la_heights la_ladders la_minutes la_echoFrom la_echoTo la_homes la_talls la_known sf_facts sa_heard sa_huts sa_minutes s.heap)
    (hl : lv_has ls 5 [(0, .ref qp), (1, .ref ql), (2, .int x2)])
    (hw : q_wp_X7_routesOn_9_0 a_now lf_huts lf_dams la_heights la_minutes x2 post) :
    W p l e rm_wp_X7_routesOn_9 s m args below meth c s.heap [] 0 0 (MQ below (vp_Si post) args s 0 0 (fun _ => False)) (F0 m 0 ls []) := by
  have hx := zc.1
  have hb := zc.2.1
  refine lv_iconst (v := (0 : Int32)) hx hb dX7_routesOn_0 (by decide) ?_
  refine lv_istore_n (lv' := [(3, .int (0 : Int32)), (0, .ref qp), (1, .ref ql), (2, .int x2)]) hx hb dX7_routesOn_1 rfl hl (by decide) rfl (fun ls hl => ?_)
  refine lv_iconst (v := (0 : Int32)) hx hb dX7_routesOn_2 (by decide) ?_
  refine lv_istore (lv' := [(4, .int (0 : Int32)), (3, .int (0 : Int32)), (0, .ref qp), (1, .ref ql), (2, .int x2)]) hx hb dX7_routesOn_3 hl (by decide) rfl (fun ls hl => ?_)
  exact t_wp_X7_routesOn_9_5 zc hK hM  (lv_sub hl [2, 3, 4, 1, 0] rfl) hw
set_option maxRecDepth 20000 in
theorem c_wp_X7_routesOn_9 (l : Launch) {E : zE} {qp ql qs : Nat} {a_heard : Nat → Int32} {a_walked : Nat → Int32} {a_total : Nat → Int32} {a_longest : Nat → Int32} {a_next : Nat → Int32} {a_cover : Nat → Int32} {a_now : Nat → Int32} {a_then : Nat → Int32} {lf_huts : Int32} {lf_singers : Int32} {lf_villages : Int32} {lf_dams : Int32} {lf_echoes : Int32} {lf_deep : Int32} {lf_slide : Int32} {la_heights : Nat → Int32} {la_ladders : Nat → Int32} {la_minutes : Nat → Int32} {la_echoFrom : Nat → Int32} {la_echoTo : Nat → Int32} {la_homes : Nat → Int32} {la_talls : Nat → Int32} {la_known : Nat → Int32} {sf_facts : Int32} {sa_heard : Nat → Int32} {sa_huts : Nat → Int32} {sa_minutes : Nat → Int32} {x2 : Int32} {post : Int32 → Prop} (hw : q_wp_X7_routesOn_9_0 a_now lf_huts lf_dams la_heights la_minutes x2 post) : Met l yX7_routesOn (Cond.code yX7_routesOn cX7_routesOn 5 (some .int) :: zb) rm_wp_X7_routesOn_9 (va_Pc [.ref qp, .ref ql, .int x2] (fun U => wpW E qp ql qs a_heard a_walked a_total a_longest a_next a_cover a_now a_then lf_huts lf_singers lf_villages lf_dams lf_echoes lf_deep lf_slide la_heights la_ladders la_minutes la_echoFrom la_echoTo la_homes la_talls la_known sf_facts sa_heard sa_huts sa_minutes U.heap ∧ zK E U)) (vp_Si post) 0 0 (fun _ => False) := by
  refine Met.ofW (cc := cX7_routesOn) (maxL := 5) (ret := (some .int)) (by decide) rfl ?_
  intro p e s m args below meth c s₁ B hml hv
  obtain ⟨rfl, hM, hK⟩ := hv
  have zc := zc_of B hml
  have hl := lv_entry ([.ref qp, .ref ql, .int x2]) (n := 5) (Nat.le_of_ble_eq_true rfl)
  rw [lg_entry_eq]
  generalize (lg_sl ([.ref qp, .ref ql, .int x2]) ++ List.replicate (5 - (lg_sl ([.ref qp, .ref ql, .int x2])).length) Slot.unset).toArray = ls at hl ⊢
  have hl : lv_has ls 5 [(0, .ref qp), (1, .ref ql), (2, .int x2)] := hl
  exact t_wp_X7_routesOn_9_0 zc hK hM (lv_sub hl [0, 1, 2] rfl) hw
-- wp_X7_trace_9
abbrev rm_wp_X7_trace_9 : Room := { frames := 3, cells := 0, slots := 0, locals := 67 }
def q_wp_X7_trace_9_102 (P33 : Int32 → (Nat → Int32) → (Nat → Int32) → (Nat → Int32) → (Nat → Int32) → Prop) (P44 : Int32 → (Nat → Int32) → (Nat → Int32) → (Nat → Int32) → Prop) (a_total : Nat → Int32) (a_longest : Nat → Int32) (a_now : Nat → Int32) (a_then : Nat → Int32) (lf_huts : Int32) (lf_dams : Int32) (la_heights : Nat → Int32) (la_minutes : Nat → Int32) (x3 : Int32) (x4 : Int32) (post : (Nat → Int32) → (Nat → Int32) → (Nat → Int32) → (Nat → Int32) → Prop) : Prop :=
  ∀ v_1 : Int32, v_1 = x4 + (1 : Int32) → (P44 v_1 a_total a_longest a_then)
def q_wp_X7_trace_9_44 (P33 : Int32 → (Nat → Int32) → (Nat → Int32) → (Nat → Int32) → (Nat → Int32) → Prop) (a_total : Nat → Int32) (a_longest : Nat → Int32) (a_now : Nat → Int32) (a_then : Nat → Int32) (lf_huts : Int32) (lf_dams : Int32) (la_heights : Nat → Int32) (la_minutes : Nat → Int32) (x3 : Int32) (x4 : Int32) (post : (Nat → Int32) → (Nat → Int32) → (Nat → Int32) → (Nat → Int32) → Prop) : Prop :=
  ∀ P44 : Int32 → (Nat → Int32) → (Nat → Int32) → (Nat → Int32) → Prop, (∀ (x4 : Int32) (a_total : Nat → Int32) (a_longest : Nat → Int32) (a_then : Nat → Int32), ((lf_huts ≤ x4 → (∀ a_now_1 : Nat → Int32, a_now_1 = va_cpy a_then a_now (Int32.toNatClampNeg (0 : Int32)) (Int32.toNatClampNeg (0 : Int32)) (Int32.toNatClampNeg (9 : Int32)) → (∀ v_1 : Int32, v_1 = x3 + (1 : Int32) → (P33 v_1 a_total a_longest a_now_1 a_then)))) ∧ (¬ lf_huts ≤ x4 → (q_wp_X7_routesOn_9_0 a_now lf_huts lf_dams la_heights la_minutes x4 (fun r_1 => vp_in x4 9 ∧ (∀ a_then_1 : Nat → Int32, a_then_1 = upd a_then (Int32.toNatClampNeg x4) r_1 → (vp_in x4 9 ∧ (((a_then_1 (Int32.toNatClampNeg x4)) ≤ 0 → (q_wp_X7_trace_9_102 P33 P44 a_total a_longest a_now a_then_1 lf_huts lf_dams la_heights la_minutes x3 x4 post)) ∧ (¬ (a_then_1 (Int32.toNatClampNeg x4)) ≤ 0 → (vp_in x4 9 ∧ (vp_in x4 9 ∧ (∀ v_2 : Int32, v_2 = ((a_total (Int32.toNatClampNeg x4)) + (a_then_1 (Int32.toNatClampNeg x4))) → (vp_in x4 9 ∧ (∀ a_total_1 : Nat → Int32, a_total_1 = upd a_total (Int32.toNatClampNeg x4) v_2 → (vp_in x4 9 ∧ (∀ a_longest_1 : Nat → Int32, a_longest_1 = upd a_longest (Int32.toNatClampNeg x4) x3 → (q_wp_X7_trace_9_102 P33 P44 a_total_1 a_longest_1 a_now a_then_1 lf_huts lf_dams la_heights la_minutes x3 x4 post)))))))))))))))) → P44 x4 a_total a_longest a_then) → P44 x4 a_total a_longest a_then
def q_wp_X7_trace_9_33 (a_total : Nat → Int32) (a_longest : Nat → Int32) (a_now : Nat → Int32) (a_then : Nat → Int32) (lf_huts : Int32) (lf_dams : Int32) (la_heights : Nat → Int32) (la_minutes : Nat → Int32) (x3 : Int32) (post : (Nat → Int32) → (Nat → Int32) → (Nat → Int32) → (Nat → Int32) → Prop) : Prop :=
  ∀ P33 : Int32 → (Nat → Int32) → (Nat → Int32) → (Nat → Int32) → (Nat → Int32) → Prop, (∀ (x3 : Int32) (a_total : Nat → Int32) (a_longest : Nat → Int32) (a_now : Nat → Int32) (a_then : Nat → Int32), ((lf_huts ≤ x3 → (post a_total a_longest a_now a_then)) ∧ (¬ lf_huts ≤ x3 → (q_wp_X7_trace_9_44 P33 a_total a_longest a_now a_then lf_huts lf_dams la_heights la_minutes x3 (0 : Int32) post))) → P33 x3 a_total a_longest a_now a_then) → P33 x3 a_total a_longest a_now a_then
def q_wp_X7_trace_9_0 (a_total : Nat → Int32) (a_longest : Nat → Int32) (a_now : Nat → Int32) (a_then : Nat → Int32) (lf_huts : Int32) (lf_dams : Int32) (la_heights : Nat → Int32) (la_minutes : Nat → Int32) (x2 : Int32) (post : (Nat → Int32) → (Nat → Int32) → (Nat → Int32) → (Nat → Int32) → Prop) : Prop :=
  q_wp_J7_fill_53178_3_0 a_total (0 : Int32) (fun a_total_1 => q_wp_J7_fill_53178_4_0 a_longest (0 : Int32) (fun a_longest_1 => q_wp_J7_fill_53178_7_0 a_now (0 : Int32) (fun a_now_1 => vp_in x2 9 ∧ (∀ a_now_2 : Nat → Int32, a_now_2 = upd a_now_1 (Int32.toNatClampNeg x2) (1 : Int32) → (q_wp_X7_trace_9_33 a_total_1 a_longest_1 a_now_2 a_then lf_huts lf_dams la_heights la_minutes (1 : Int32) post)))))
set_option maxRecDepth 20000 in
theorem t_wp_X7_trace_9_102 {p : Program} {l : Launch} {e : Env} {s : State} {m : MethodId} {args : Array Value} {below : List Frame} {meth : Method} {c : Code} {E : zE} {qp ql qs : Nat} {a_heard : Nat → Int32} {a_walked : Nat → Int32} {a_total : Nat → Int32} {a_longest : Nat → Int32} {a_next : Nat → Int32} {a_cover : Nat → Int32} {a_now : Nat → Int32} {a_then : Nat → Int32} {lf_huts : Int32} {lf_singers : Int32} {lf_villages : Int32} {lf_dams : Int32} {lf_echoes : Int32} {lf_deep : Int32} {lf_slide : Int32} {la_heights : Nat → Int32} {la_ladders : Nat → Int32} {la_minutes : Nat → Int32} {la_echoFrom : Nat → Int32} {la_echoTo : Nat → Int32} {la_homes : Nat → Int32} {la_talls : Nat → Int32} {la_known : Nat → Int32} {sf_facts : Int32} {sa_heard : Nat → Int32} {sa_huts : Nat → Int32} {sa_minutes : Nat → Int32} {P33 : Int32 → (Nat → Int32) → (Nat → Int32) → (Nat → Int32) → (Nat → Int32) → Prop} {P44 : Int32 → (Nat → Int32) → (Nat → Int32) → (Nat → Int32) → Prop} {post : (Nat → Int32) → (Nat → Int32) → (Nat → Int32) → (Nat → Int32) → Prop} {x3 : Int32} {x4 : Int32} {ls : Array Slot} {H : Heap} {locs : List Loc}
    (zc : zC p s m args meth c cX7_trace 5 RX7 none)
    (hK : zK E s)
    (hM : wpW E qp ql qs a_heard a_walked a_total a_longest a_next a_cover a_now a_then lf_huts lf_singers lf_villages lf_dams lf_echoes lf_deep lf_slide la_heights la_ladders la_minutes la_echoFrom la_echoTo la_homes la_talls la_known sf_facts sa_heard sa_huts sa_minutes H)
    (hS : va_S (wpA qp ql qs) s.heap H locs)
    (hP33 : ∀ (x3 : Int32) (a_total : Nat → Int32) (a_longest : Nat → Int32) (a_now : Nat → Int32) (a_then : Nat → Int32) (H : Heap) (locs : List Loc) (ls : Array Slot), P33 x3 a_total a_longest a_now a_then → lv_has ls 5 [(0, .ref qp), (1, .ref ql), (3, .int x3)] → wpW E qp ql qs a_heard a_walked a_total a_longest a_next a_cover a_now a_then lf_huts lf_singers lf_villages lf_dams lf_echoes lf_deep lf_slide la_heights la_ladders la_minutes la_echoFrom la_echoTo la_homes la_talls la_known sf_facts sa_heard sa_huts sa_minutes H → va_S (wpA qp ql qs) s.heap H locs → W p l e rm_wp_X7_trace_9 s m args below meth c H locs 0 0 (MQ below (zQv (S := (Nat → Int32) × (Nat → Int32) × (Nat → Int32) × (Nat → Int32)) (fun u => post u.1 u.2.1 u.2.2.1 u.2.2.2) (fun u H => wpW E qp ql qs a_heard a_walked u.1 u.2.1 a_next a_cover u.2.2.1 u.2.2.2 lf_huts lf_singers lf_villages lf_dams lf_echoes lf_deep lf_slide la_heights la_ladders la_minutes la_echoFrom la_echoTo la_homes la_talls la_known sf_facts sa_heard sa_huts sa_minutes H) (wpA qp ql qs)) args s 0 0 (wpA qp ql qs)) (F0 m 33 ls []))
    (hP44 : ∀ (x4 : Int32) (a_total : Nat → Int32) (a_longest : Nat → Int32) (a_then : Nat → Int32) (H : Heap) (locs : List Loc) (ls : Array Slot), P44 x4 a_total a_longest a_then → lv_has ls 5 [(0, .ref qp), (1, .ref ql), (3, .int x3), (4, .int x4)] → wpW E qp ql qs a_heard a_walked a_total a_longest a_next a_cover a_now a_then lf_huts lf_singers lf_villages lf_dams lf_echoes lf_deep lf_slide la_heights la_ladders la_minutes la_echoFrom la_echoTo la_homes la_talls la_known sf_facts sa_heard sa_huts sa_minutes H → va_S (wpA qp ql qs) s.heap H locs → W p l e rm_wp_X7_trace_9 s m args below meth c H locs 0 0 (MQ below (zQv (S := (Nat → Int32) × (Nat → Int32) × (Nat → Int32) × (Nat → Int32)) (fun u => post u.1 u.2.1 u.2.2.1 u.2.2.2) (fun u H => wpW E qp ql qs a_heard a_walked u.1 u.2.1 a_next a_cover u.2.2.1 u.2.2.2 lf_huts lf_singers lf_villages lf_dams lf_echoes lf_deep lf_slide la_heights la_ladders la_minutes la_echoFrom la_echoTo la_homes la_talls la_known sf_facts sa_heard sa_huts sa_minutes H) (wpA qp ql qs)) args s 0 0 (wpA qp ql qs)) (F0 m 44 ls []))
    (hl : lv_has ls 5 [(0, .ref qp), (1, .ref ql), (3, .int x3), (4, .int x4)])
    (hw : q_wp_X7_trace_9_102 P33 P44 a_total a_longest a_now a_then lf_huts lf_dams la_heights la_minutes x3 x4 post) :
    W p l e rm_wp_X7_trace_9 s m args below meth c H locs 0 0 (MQ below (zQv (S := (Nat → Int32) × (Nat → Int32) × (Nat → Int32) × (Nat → Int32)) (fun u => post u.1 u.2.1 u.2.2.1 u.2.2.2) (fun u H => wpW E qp ql qs a_heard a_walked u.1 u.2.1 a_next a_cover u.2.2.1 u.2.2.2 lf_huts lf_singers lf_villages lf_dams lf_echoes lf_deep lf_slide la_heights la_ladders la_minutes la_echoFrom la_echoTo la_homes la_talls la_known sf_facts sa_heard sa_huts sa_minutes H) (wpA qp ql qs)) args s 0 0 (wpA qp ql qs)) (F0 m 102 ls []) := by
  have hx := zc.1
  have hb := zc.2.1
  obtain ⟨v_1, ev_1⟩ : ∃ y : Int32, y = x4 + (1 : Int32) := ⟨_, rfl⟩
  have hw := hw v_1 ev_1
  refine lv_iinc (v := v_1) (k := 3) (lv' := [(4, .int v_1), (0, .ref qp), (1, .ref ql), (3, .int x3)]) hx hb dX7_trace_102 hl rfl (by rw [ev_1]; rfl) (by decide) rfl (fun ls hl => ?_)
  refine lv_goto (tgt := 44) hx hb dX7_trace_105 (by decide) ?_
  exact hP44 _ _ _ _ _ _ _ hw (lv_sub hl [1, 2, 3, 0] rfl) hM hS
set_option maxRecDepth 20000 in
theorem t_wp_X7_trace_9_44 {p : Program} {l : Launch} {e : Env} {s : State} {m : MethodId} {args : Array Value} {below : List Frame} {meth : Method} {c : Code} {E : zE} {qp ql qs : Nat} {a_heard : Nat → Int32} {a_walked : Nat → Int32} {a_total : Nat → Int32} {a_longest : Nat → Int32} {a_next : Nat → Int32} {a_cover : Nat → Int32} {a_now : Nat → Int32} {a_then : Nat → Int32} {lf_huts : Int32} {lf_singers : Int32} {lf_villages : Int32} {lf_dams : Int32} {lf_echoes : Int32} {lf_deep : Int32} {lf_slide : Int32} {la_heights : Nat → Int32} {la_ladders : Nat → Int32} {la_minutes : Nat → Int32} {la_echoFrom : Nat → Int32} {la_echoTo : Nat → Int32} {la_homes : Nat → Int32} {la_talls : Nat → Int32} {la_known : Nat → Int32} {sf_facts : Int32} {sa_heard : Nat → Int32} {sa_huts : Nat → Int32} {sa_minutes : Nat → Int32} {P33 : Int32 → (Nat → Int32) → (Nat → Int32) → (Nat → Int32) → (Nat → Int32) → Prop} {post : (Nat → Int32) → (Nat → Int32) → (Nat → Int32) → (Nat → Int32) → Prop} {x3 : Int32} {x4 : Int32} {ls : Array Slot} {H : Heap} {locs : List Loc}
    (zc : zC p s m args meth c cX7_trace 5 RX7 none)
    (hK : zK E s)
    (hM : wpW E qp ql qs a_heard a_walked a_total a_longest a_next a_cover a_now a_then lf_huts lf_singers lf_villages lf_dams lf_echoes lf_deep lf_slide la_heights la_ladders la_minutes la_echoFrom la_echoTo la_homes la_talls la_known sf_facts sa_heard sa_huts sa_minutes H)
    (hS : va_S (wpA qp ql qs) s.heap H locs)
    (hP33 : ∀ (x3 : Int32) (a_total : Nat → Int32) (a_longest : Nat → Int32) (a_now : Nat → Int32) (a_then : Nat → Int32) (H : Heap) (locs : List Loc) (ls : Array Slot), P33 x3 a_total a_longest a_now a_then → lv_has ls 5 [(0, .ref qp), (1, .ref ql), (3, .int x3)] → wpW E qp ql qs a_heard a_walked a_total a_longest a_next a_cover a_now a_then lf_huts lf_singers lf_villages lf_dams lf_echoes lf_deep lf_slide la_heights la_ladders la_minutes la_echoFrom la_echoTo la_homes la_talls la_known sf_facts sa_heard sa_huts sa_minutes H → va_S (wpA qp ql qs) s.heap H locs → W p l e rm_wp_X7_trace_9 s m args below meth c H locs 0 0 (MQ below (zQv (S := (Nat → Int32) × (Nat → Int32) × (Nat → Int32) × (Nat → Int32)) (fun u => post u.1 u.2.1 u.2.2.1 u.2.2.2) (fun u H => wpW E qp ql qs a_heard a_walked u.1 u.2.1 a_next a_cover u.2.2.1 u.2.2.2 lf_huts lf_singers lf_villages lf_dams lf_echoes lf_deep lf_slide la_heights la_ladders la_minutes la_echoFrom la_echoTo la_homes la_talls la_known sf_facts sa_heard sa_huts sa_minutes H) (wpA qp ql qs)) args s 0 0 (wpA qp ql qs)) (F0 m 33 ls []))
    (hl : lv_has ls 5 [(0, .ref qp), (1, .ref ql), (3, .int x3), (4, .int x4)])
    (hw : q_wp_X7_trace_9_44 P33 a_total a_longest a_now a_then lf_huts lf_dams la_heights la_minutes x3 x4 post) :
    W p l e rm_wp_X7_trace_9 s m args below meth c H locs 0 0 (MQ below (zQv (S := (Nat → Int32) × (Nat → Int32) × (Nat → Int32) × (Nat → Int32)) (fun u => post u.1 u.2.1 u.2.2.1 u.2.2.2) (fun u H => wpW E qp ql qs a_heard a_walked u.1 u.2.1 a_next a_cover u.2.2.1 u.2.2.2 lf_huts lf_singers lf_villages lf_dams lf_echoes lf_deep lf_slide la_heights la_ladders la_minutes la_echoFrom la_echoTo la_homes la_talls la_known sf_facts sa_heard sa_huts sa_minutes H) (wpA qp ql qs)) args s 0 0 (wpA qp ql qs)) (F0 m 44 ls []) := by
  have hx := zc.1
  have hb := zc.2.1
  refine hw (fun x4 a_total a_longest a_then => ∀ (H : Heap) (locs : List Loc) (ls : Array Slot), lv_has ls 5 [(0, .ref qp), (1, .ref ql), (3, .int x3), (4, .int x4)] → wpW E qp ql qs a_heard a_walked a_total a_longest a_next a_cover a_now a_then lf_huts lf_singers lf_villages lf_dams lf_echoes lf_deep lf_slide la_heights la_ladders la_minutes la_echoFrom la_echoTo la_homes la_talls la_known sf_facts sa_heard sa_huts sa_minutes H → va_S (wpA qp ql qs) s.heap H locs → W p l e rm_wp_X7_trace_9 s m args below meth c H locs 0 0 (MQ below (zQv (S := (Nat → Int32) × (Nat → Int32) × (Nat → Int32) × (Nat → Int32)) (fun u => post u.1 u.2.1 u.2.2.1 u.2.2.2) (fun u H => wpW E qp ql qs a_heard a_walked u.1 u.2.1 a_next a_cover u.2.2.1 u.2.2.2 lf_huts lf_singers lf_villages lf_dams lf_echoes lf_deep lf_slide la_heights la_ladders la_minutes la_echoFrom la_echoTo la_homes la_talls la_known sf_facts sa_heard sa_huts sa_minutes H) (wpA qp ql qs)) args s 0 0 (wpA qp ql qs)) (F0 m 44 ls [])) ?_ _ _ _ hl hM hS
  intro x4 a_total a_longest a_then hw H locs ls hl hM hS
  refine lv_iload hx hb dX7_trace_44 (lv_at hl 3 rfl) ?_
  refine lv_aload_n hx hb dX7_trace_46 rfl (lv_at hl 1 rfl) ?_
  refine wpg_7_42_9 zc hK hM dX7_trace_47 ?_
  refine lv_icmp_ge (tgt := 108) hx hb dX7_trace_50 (by decide) (fun hc => ?_) (fun hc => ?_)
  · have hw := hw.1 hc
    refine lv_aload_n hx hb dX7_trace_108 rfl (lv_at hl 0 rfl) ?_
    refine wpg_7_33_0 zc hK hM dX7_trace_109 ?_
    refine lv_iconst (v := (0 : Int32)) hx hb dX7_trace_112 (by decide) ?_
    refine lv_aload_n hx hb dX7_trace_113 rfl (lv_at hl 0 rfl) ?_
    refine wpg_7_30_0 zc hK hM dX7_trace_114 ?_
    refine lv_iconst (v := (0 : Int32)) hx hb dX7_trace_117 (by decide) ?_
    refine lv_bipush (v := (9 : Int32)) hx hb dX7_trace_118 (by decide) ?_
    refine wpcp_8_7 zc hK hM hS hl.1 (zc.2.2.2.2.1 _ km_7_108) (by decide) (by decide) (by decide) (by decide) (by decide) (fun _ _ => rfl) (by decide) (by decide) dX7_trace_120 (fun a_now_1 H locs ea_now_1 hM hS => ?_)
    have hw := hw a_now_1 ea_now_1
    obtain ⟨v_1, ev_1⟩ : ∃ y : Int32, y = x3 + (1 : Int32) := ⟨_, rfl⟩
    have hw := hw v_1 ev_1
    refine lv_iinc (v := v_1) (k := 2) (lv' := [(3, .int v_1), (0, .ref qp), (1, .ref ql), (4, .int x4)]) hx hb dX7_trace_123 hl rfl (by rw [ev_1]; rfl) (by decide) rfl (fun ls hl => ?_)
    refine lv_goto (tgt := 33) hx hb dX7_trace_126 (by decide) ?_
    exact hP33 _ _ _ _ _ _ _ _ hw (lv_sub hl [1, 2, 0] rfl) hM hS
  · have hw := hw.2 hc
    refine lv_aload_n hx hb dX7_trace_53 rfl (lv_at hl 0 rfl) ?_
    refine wpg_7_33_0 zc hK hM dX7_trace_54 ?_
    refine lv_iload hx hb dX7_trace_57 (lv_at hl 3 rfl) ?_
    refine lv_aload_n hx hb dX7_trace_59 rfl (lv_at hl 0 rfl) ?_
    refine lv_aload_n hx hb dX7_trace_60 rfl (lv_at hl 1 rfl) ?_
    refine lv_iload hx hb dX7_trace_61 (lv_at hl 3 rfl) ?_
    refine zV_i [.ref ql, .int x4] [.int x4, .ref (qp + 8)] zc ky_X7_routesOn kz_X7_routesOn km_7_105 (c_wp_X7_routesOn_9 l hw) (wpPreV0 hK hM) rfl rfl hl.1 (Nat.le_of_ble_eq_true rfl) ⟨rfl, rfl⟩ ⟨Nat.le_of_ble_eq_true rfl, Nat.le_of_ble_eq_true rfl⟩ ⟨(Nat.zero_le _), (Nat.zero_le _)⟩ dX7_trace_63 (fun r_1 hw => ?_)
    refine wpst_8 zc hK hM hS hw.1 dX7_trace_66 (fun a_then_1 H locs ea_then_1 hM hS => ?_)
    have hw := hw.2 a_then_1 ea_then_1
    refine lv_aload_n hx hb dX7_trace_67 rfl (lv_at hl 0 rfl) ?_
    refine wpg_7_33_0 zc hK hM dX7_trace_68 ?_
    refine lv_iload hx hb dX7_trace_71 (lv_at hl 3 rfl) ?_
    refine wpld_8 zc hK hM hw.1 dX7_trace_73 ?_
    have hw := hw.2
    refine lv_if_le (tgt := 102) hx hb dX7_trace_74 (by decide) (fun hc => ?_) (fun hc => ?_)
    · have hw := hw.1 hc
      exact t_wp_X7_trace_9_102 zc hK hM hS hP33 (fun _ _ _ _ H locs ls h hl hM hS => h H locs ls hl hM hS) (lv_sub hl [0, 1, 2, 3] rfl) hw
    · have hw := hw.2 hc
      refine lv_aload_n hx hb dX7_trace_77 rfl (lv_at hl 0 rfl) ?_
      refine wpg_7_18_0 zc hK hM dX7_trace_78 ?_
      refine lv_iload hx hb dX7_trace_81 (lv_at hl 3 rfl) ?_
      refine lv_dup2_11 hx hb dX7_trace_83 rfl rfl ?_
      refine wpld_3 zc hK hM hw.1 dX7_trace_84 ?_
      have hw := hw.2
      refine lv_aload_n hx hb dX7_trace_85 rfl (lv_at hl 0 rfl) ?_
      refine wpg_7_33_0 zc hK hM dX7_trace_86 ?_
      refine lv_iload hx hb dX7_trace_89 (lv_at hl 3 rfl) ?_
      refine wpld_8 zc hK hM hw.1 dX7_trace_91 ?_
      have hw := hw.2
      refine lv_iadd hx hb dX7_trace_92 ?_
      refine lv_topi (fun v_2 ev_2 => ?_)
      have hw := hw v_2 ev_2
      refine wpst_3 zc hK hM hS hw.1 dX7_trace_93 (fun a_total_1 H locs ea_total_1 hM hS => ?_)
      have hw := hw.2 a_total_1 ea_total_1
      refine lv_aload_n hx hb dX7_trace_94 rfl (lv_at hl 0 rfl) ?_
      refine wpg_7_21_0 zc hK hM dX7_trace_95 ?_
      refine lv_iload hx hb dX7_trace_98 (lv_at hl 3 rfl) ?_
      refine lv_iload_n hx hb dX7_trace_100 rfl (lv_at hl 2 rfl) ?_
      refine wpst_4 zc hK hM hS hw.1 dX7_trace_101 (fun a_longest_1 H locs ea_longest_1 hM hS => ?_)
      have hw := hw.2 a_longest_1 ea_longest_1
      exact t_wp_X7_trace_9_102 zc hK hM hS hP33 (fun _ _ _ _ H locs ls h hl hM hS => h H locs ls hl hM hS) (lv_sub hl [0, 1, 2, 3] rfl) hw
set_option maxRecDepth 20000 in
theorem t_wp_X7_trace_9_33 {p : Program} {l : Launch} {e : Env} {s : State} {m : MethodId} {args : Array Value} {below : List Frame} {meth : Method} {c : Code} {E : zE} {qp ql qs : Nat} {a_heard : Nat → Int32} {a_walked : Nat → Int32} {a_total : Nat → Int32} {a_longest : Nat → Int32} {a_next : Nat → Int32} {a_cover : Nat → Int32} {a_now : Nat → Int32} {a_then : Nat → Int32} {lf_huts : Int32} {lf_singers : Int32} {lf_villages : Int32} {lf_dams : Int32} {lf_echoes : Int32} {lf_deep : Int32} {lf_slide : Int32} {la_heights : Nat → Int32} {la_ladders : Nat → Int32} {la_minutes : Nat → Int32} {la_echoFrom : Nat → Int32} {la_echoTo : Nat → Int32} {la_homes : Nat → Int32} {la_talls : Nat → Int32} {la_known : Nat → Int32} {sf_facts : Int32} {sa_heard : Nat → Int32} {sa_huts : Nat → Int32} {sa_minutes : Nat → Int32} {post : (Nat → Int32) → (Nat → Int32) → (Nat → Int32) → (Nat → Int32) → Prop} {x3 : Int32} {ls : Array Slot} {H : Heap} {locs : List Loc}
    (zc : zC p s m args meth c cX7_trace 5 RX7 none)
    (hK : zK E s)
    (hM : wpW E qp ql qs a_heard a_walked a_total a_longest a_next a_cover a_now a_then lf_huts lf_singers lf_villages lf_dams lf_echoes lf_deep lf_slide la_heights la_ladders la_minutes la_echoFrom la_echoTo la_homes la_talls la_known sf_facts sa_heard sa_huts sa_minutes H)
    (hS : va_S (wpA qp ql qs) s.heap H locs)
    (hl : lv_has ls 5 [(0, .ref qp), (1, .ref ql), (3, .int x3)])
    (hw : q_wp_X7_trace_9_33 a_total a_longest a_now a_then lf_huts lf_dams la_heights la_minutes x3 post) :
    W p l e rm_wp_X7_trace_9 s m args below meth c H locs 0 0 (MQ below (zQv (S := (Nat → Int32) × (Nat → Int32) × (Nat → Int32) × (Nat → Int32)) (fun u => post u.1 u.2.1 u.2.2.1 u.2.2.2) (fun u H => wpW E qp ql qs a_heard a_walked u.1 u.2.1 a_next a_cover u.2.2.1 u.2.2.2 lf_huts lf_singers lf_villages lf_dams lf_echoes lf_deep lf_slide la_heights la_ladders la_minutes la_echoFrom la_echoTo la_homes la_talls la_known sf_facts sa_heard sa_huts sa_minutes H) (wpA qp ql qs)) args s 0 0 (wpA qp ql qs)) (F0 m 33 ls []) := by
  have hx := zc.1
  have hb := zc.2.1
  refine hw (fun x3 a_total a_longest a_now a_then => ∀ (H : Heap) (locs : List Loc) (ls : Array Slot), lv_has ls 5 [(0, .ref qp), (1, .ref ql), (3, .int x3)] → wpW E qp ql qs a_heard a_walked a_total a_longest a_next a_cover a_now a_then lf_huts lf_singers lf_villages lf_dams lf_echoes lf_deep lf_slide la_heights la_ladders la_minutes la_echoFrom la_echoTo la_homes la_talls la_known sf_facts sa_heard sa_huts sa_minutes H → va_S (wpA qp ql qs) s.heap H locs → W p l e rm_wp_X7_trace_9 s m args below meth c H locs 0 0 (MQ below (zQv (S := (Nat → Int32) × (Nat → Int32) × (Nat → Int32) × (Nat → Int32)) (fun u => post u.1 u.2.1 u.2.2.1 u.2.2.2) (fun u H => wpW E qp ql qs a_heard a_walked u.1 u.2.1 a_next a_cover u.2.2.1 u.2.2.2 lf_huts lf_singers lf_villages lf_dams lf_echoes lf_deep lf_slide la_heights la_ladders la_minutes la_echoFrom la_echoTo la_homes la_talls la_known sf_facts sa_heard sa_huts sa_minutes H) (wpA qp ql qs)) args s 0 0 (wpA qp ql qs)) (F0 m 33 ls [])) ?_ _ _ _ hl hM hS
  intro x3 a_total a_longest a_now a_then hw H locs ls hl hM hS
  refine lv_iload_n hx hb dX7_trace_33 rfl (lv_at hl 2 rfl) ?_
  refine lv_aload_n hx hb dX7_trace_34 rfl (lv_at hl 1 rfl) ?_
  refine wpg_7_42_9 zc hK hM dX7_trace_35 ?_
  refine lv_icmp_ge (tgt := 129) hx hb dX7_trace_38 (by decide) (fun hc => ?_) (fun hc => ?_)
  · have hw := hw.1 hc
    exact zret_vw ⟨a_total, a_longest, a_now, a_then⟩ zc hS hw hM dX7_trace_129
  · have hw := hw.2 hc
    refine lv_iconst (v := (0 : Int32)) hx hb dX7_trace_41 (by decide) ?_
    refine lv_istore (lv' := [(4, .int (0 : Int32)), (0, .ref qp), (1, .ref ql), (3, .int x3)]) hx hb dX7_trace_42 hl (by decide) rfl (fun ls hl => ?_)
    exact t_wp_X7_trace_9_44 zc hK hM hS (fun _ _ _ _ _ H locs ls h hl hM hS => h H locs ls hl hM hS) (lv_sub hl [1, 2, 3, 0] rfl) hw
set_option maxRecDepth 20000 in
theorem t_wp_X7_trace_9_0 {p : Program} {l : Launch} {e : Env} {s : State} {m : MethodId} {args : Array Value} {below : List Frame} {meth : Method} {c : Code} {E : zE} {qp ql qs : Nat} {a_heard : Nat → Int32} {a_walked : Nat → Int32} {a_total : Nat → Int32} {a_longest : Nat → Int32} {a_next : Nat → Int32} {a_cover : Nat → Int32} {a_now : Nat → Int32} {a_then : Nat → Int32} {lf_huts : Int32} {lf_singers : Int32} {lf_villages : Int32} {lf_dams : Int32} {lf_echoes : Int32} {lf_deep : Int32} {lf_slide : Int32} {la_heights : Nat → Int32} {la_ladders : Nat → Int32} {la_minutes : Nat → Int32} {la_echoFrom : Nat → Int32} {la_echoTo : Nat → Int32} {la_homes : Nat → Int32} {la_talls : Nat → Int32} {la_known : Nat → Int32} {sf_facts : Int32} {sa_heard : Nat → Int32} {sa_huts : Nat → Int32} {sa_minutes : Nat → Int32} {post : (Nat → Int32) → (Nat → Int32) → (Nat → Int32) → (Nat → Int32) → Prop} {x2 : Int32} {ls : Array Slot} {H : Heap} {locs : List Loc}
    (zc : zC p s m args meth c cX7_trace 5 RX7 none)
    (hK : zK E s)
    (hM : wpW E qp ql qs a_heard a_walked a_total a_longest a_next a_cover a_now a_then lf_huts lf_singers lf_villages lf_dams lf_echoes lf_deep lf_slide la_heights la_ladders la_minutes la_echoFrom la_echoTo la_homes la_talls la_known sf_facts sa_heard sa_huts sa_minutes H)
    (hS : va_S (wpA qp ql qs) s.heap H locs)
    (hl : lv_has ls 5 [(0, .ref qp), (1, .ref ql), (2, .int x2)])
    (hw : q_wp_X7_trace_9_0 a_total a_longest a_now a_then lf_huts lf_dams la_heights la_minutes x2 post) :
    W p l e rm_wp_X7_trace_9 s m args below meth c H locs 0 0 (MQ below (zQv (S := (Nat → Int32) × (Nat → Int32) × (Nat → Int32) × (Nat → Int32)) (fun u => post u.1 u.2.1 u.2.2.1 u.2.2.2) (fun u H => wpW E qp ql qs a_heard a_walked u.1 u.2.1 a_next a_cover u.2.2.1 u.2.2.2 lf_huts lf_singers lf_villages lf_dams lf_echoes lf_deep lf_slide la_heights la_ladders la_minutes la_echoFrom la_echoTo la_homes la_talls la_known sf_facts sa_heard sa_huts sa_minutes H) (wpA qp ql qs)) args s 0 0 (wpA qp ql qs)) (F0 m 0 ls []) := by
  have hx := zc.1
  have hb := zc.2.1
  refine lv_aload_n hx hb dX7_trace_0 rfl (lv_at hl 0 rfl) ?_
  refine wpg_7_18_0 zc hK hM dX7_trace_1 ?_
  refine lv_iconst (v := (0 : Int32)) hx hb dX7_trace_4 (by decide) ?_
  refine zSw_v [.ref (qp + 3), .int (0 : Int32)] [] zc ky_J7_fill_53178 kz_J7_fill_53178 km_7_36 (c_wp_J7_fill_53178_3 l hw) (wpPreS hK hM) hS rfl rfl hl.1 (Nat.le_of_ble_eq_true rfl) ⟨rfl, rfl⟩ ⟨Nat.le_of_ble_eq_true rfl, Nat.le_of_ble_eq_true rfl⟩ ⟨(Nat.zero_le _), (Nat.zero_le _)⟩ dX7_trace_5 (fun a_total_1 H locs hw hM hS => ?_)
  refine lv_aload_n hx hb dX7_trace_8 rfl (lv_at hl 0 rfl) ?_
  refine wpg_7_21_0 zc hK hM dX7_trace_9 ?_
  refine lv_iconst (v := (0 : Int32)) hx hb dX7_trace_12 (by decide) ?_
  refine zSw_v [.ref (qp + 4), .int (0 : Int32)] [] zc ky_J7_fill_53178 kz_J7_fill_53178 km_7_36 (c_wp_J7_fill_53178_4 l hw) (wpPreS hK hM) hS rfl rfl hl.1 (Nat.le_of_ble_eq_true rfl) ⟨rfl, rfl⟩ ⟨Nat.le_of_ble_eq_true rfl, Nat.le_of_ble_eq_true rfl⟩ ⟨(Nat.zero_le _), (Nat.zero_le _)⟩ dX7_trace_13 (fun a_longest_1 H locs hw hM hS => ?_)
  refine lv_aload_n hx hb dX7_trace_16 rfl (lv_at hl 0 rfl) ?_
  refine wpg_7_30_0 zc hK hM dX7_trace_17 ?_
  refine lv_iconst (v := (0 : Int32)) hx hb dX7_trace_20 (by decide) ?_
  refine zSw_v [.ref (qp + 7), .int (0 : Int32)] [] zc ky_J7_fill_53178 kz_J7_fill_53178 km_7_36 (c_wp_J7_fill_53178_7 l hw) (wpPreS hK hM) hS rfl rfl hl.1 (Nat.le_of_ble_eq_true rfl) ⟨rfl, rfl⟩ ⟨Nat.le_of_ble_eq_true rfl, Nat.le_of_ble_eq_true rfl⟩ ⟨(Nat.zero_le _), (Nat.zero_le _)⟩ dX7_trace_21 (fun a_now_1 H locs hw hM hS => ?_)
  refine lv_aload_n hx hb dX7_trace_24 rfl (lv_at hl 0 rfl) ?_
  refine wpg_7_30_0 zc hK hM dX7_trace_25 ?_
  refine lv_iload_n hx hb dX7_trace_28 rfl (lv_at hl 2 rfl) ?_
  refine lv_iconst (v := (1 : Int32)) hx hb dX7_trace_29 (by decide) ?_
  refine wpst_7 zc hK hM hS hw.1 dX7_trace_30 (fun a_now_2 H locs ea_now_2 hM hS => ?_)
  have hw := hw.2 a_now_2 ea_now_2
  refine lv_iconst (v := (1 : Int32)) hx hb dX7_trace_31 (by decide) ?_
  refine lv_istore_n (lv' := [(3, .int (1 : Int32)), (0, .ref qp), (1, .ref ql), (2, .int x2)]) hx hb dX7_trace_32 rfl hl (by decide) rfl (fun ls hl => ?_)
  exact t_wp_X7_trace_9_33 zc hK hM hS  (lv_sub hl [1, 2, 0] rfl) hw
set_option maxRecDepth 20000 in
theorem c_wp_X7_trace_9 (l : Launch) {E : zE} {qp ql qs : Nat} {a_heard : Nat → Int32} {a_walked : Nat → Int32} {a_total : Nat → Int32} {a_longest : Nat → Int32} {a_next : Nat → Int32} {a_cover : Nat → Int32} {a_now : Nat → Int32} {a_then : Nat → Int32} {lf_huts : Int32} {lf_singers : Int32} {lf_villages : Int32} {lf_dams : Int32} {lf_echoes : Int32} {lf_deep : Int32} {lf_slide : Int32} {la_heights : Nat → Int32} {la_ladders : Nat → Int32} {la_minutes : Nat → Int32} {la_echoFrom : Nat → Int32} {la_echoTo : Nat → Int32} {la_homes : Nat → Int32} {la_talls : Nat → Int32} {la_known : Nat → Int32} {sf_facts : Int32} {sa_heard : Nat → Int32} {sa_huts : Nat → Int32} {sa_minutes : Nat → Int32} {x2 : Int32} {post : (Nat → Int32) → (Nat → Int32) → (Nat → Int32) → (Nat → Int32) → Prop} (hw : q_wp_X7_trace_9_0 a_total a_longest a_now a_then lf_huts lf_dams la_heights la_minutes x2 post) : Met l yX7_trace (Cond.code yX7_trace cX7_trace 5 none :: zb) rm_wp_X7_trace_9 (va_Pc [.ref qp, .ref ql, .int x2] (fun U => wpW E qp ql qs a_heard a_walked a_total a_longest a_next a_cover a_now a_then lf_huts lf_singers lf_villages lf_dams lf_echoes lf_deep lf_slide la_heights la_ladders la_minutes la_echoFrom la_echoTo la_homes la_talls la_known sf_facts sa_heard sa_huts sa_minutes U.heap ∧ zK E U)) (zQv (S := (Nat → Int32) × (Nat → Int32) × (Nat → Int32) × (Nat → Int32)) (fun u => post u.1 u.2.1 u.2.2.1 u.2.2.2) (fun u H => wpW E qp ql qs a_heard a_walked u.1 u.2.1 a_next a_cover u.2.2.1 u.2.2.2 lf_huts lf_singers lf_villages lf_dams lf_echoes lf_deep lf_slide la_heights la_ladders la_minutes la_echoFrom la_echoTo la_homes la_talls la_known sf_facts sa_heard sa_huts sa_minutes H) (wpA qp ql qs)) 0 0 (wpA qp ql qs) := by
  refine Met.ofW (cc := cX7_trace) (maxL := 5) (ret := none) (by decide) rfl ?_
  intro p e s m args below meth c s₁ B hml hv
  obtain ⟨rfl, hM, hK⟩ := hv
  have zc := zc_of B hml
  have hl := lv_entry ([.ref qp, .ref ql, .int x2]) (n := 5) (Nat.le_of_ble_eq_true rfl)
  rw [lg_entry_eq]
  generalize (lg_sl ([.ref qp, .ref ql, .int x2]) ++ List.replicate (5 - (lg_sl ([.ref qp, .ref ql, .int x2])).length) Slot.unset).toArray = ls at hl ⊢
  have hl : lv_has ls 5 [(0, .ref qp), (1, .ref ql), (2, .int x2)] := hl
  exact t_wp_X7_trace_9_0 zc hK hM va_S.rf (lv_sub hl [0, 1, 2] rfl) hw
end
